/-! contracts: sheets of the class -/
def upi (it : Int → Int → Int) (s : Int) (g : Int → Int) : Int → Int → Int := fun q => if q = s then g else it q
/-- the finding to which item i of a sheet (form f, n items), treated as of form f0, leads -/
def wrA (f n f0 i : Int) : Int := if f = -1 then 1 else if f ≠ f0 then 3 else if 0 ≤ i ∧ i ≤ n - 1 then 0 else 2
theorem wrA_R (f n f0 i : Int) : 0 ≤ wrA f n f0 i ∧ wrA f n f0 i ≤ 3 := by
  unfold wrA
  (repeat' split) <;> omega
set_option maxRecDepth 20000 in
set_option maxHeartbeats 4000000 in
theorem tX8_found {l : Launch} {x : Cx} {d : Nat} {w : AW} {fi n1 : Int} (hd : 0 ≤ d) (q0 : w 0 = cO 8 [vR 1, vR 7, vR 9, vR 12, vR 15, vR 16, vR 19, vR 23, vI fi]) : Mt l x iX8_found d 0 0 50 w [vR 0, vI n1] (Wr (vI (-10 - n1)) (fun w2 => w2 = upw w 0 (cO 8 [vR 1, vR 7, vR 9, vR 12, vR 15, vR 16, vR 19, vR 23, vI n1]))) := by
  refine Mt.of (L0 := [some (vR 0), some (vI n1)]) rfl rfl rfl ?_
  refine gj_al0 dX8_found_0 ?_
  refine gj_il1 dX8_found_1 ?_
  refine gj_pI8 dX8_found_2 fX8_71 q0 rfl ?_
  refine gj_bipush dX8_found_5 rfl ?_
  refine gj_il1 dX8_found_7 ?_
  refine gj_isub dX8_found_8 ?_
  exact gj_iret dX8_found_9 rfl (wr_i rfl rfl)
set_option maxRecDepth 20000 in
set_option maxHeartbeats 4000000 in
theorem tSheet0 {l : Launch} {x : Cx} {d : Nat} {w : AW} {tx : Int → Int} {by0 : Int} {ru fa fe : Int → Int} {fc lw br me : Int} {mh ml mw : Int → Int} {mn fi : Int} {fm ln : Int → Int} {it : Int → Int → Int} {f0 n1 : Int} (hd : 2 ≤ d) (hC : ClassC w tx by0 ru fa fe fc lw br me mh ml mw mn fi fm ln it) (hf0 : R32 f0) (hn1 : R32 n1) : Mt l x iX8_sheet d 0 0 50 w [vR 0, vI 0, vI f0, vI n1] (fun v2 w2 => (((0 ≤ (0 : Int) ∧ (0 : Int) ≤ 3) ∧ (0 ≤ f0 ∧ f0 ≤ 2) ∧ n1 ≤ 60) ∧ 0 ≤ n1 ∧ v2 = some (vI n1) ∧ ClassC w2 tx by0 ru fa fe fc lw br me mh ml mw mn fi (upf fm (0 : Int) f0) (upf ln (0 : Int) n1) (upi it (0 : Int) (fun _ => 0)) ∧ ∀ k : Nat, 32 ≤ k → w2 k = w k) ∨ (((0 ≤ (0 : Int) ∧ (0 : Int) ≤ 3) ∧ (0 ≤ f0 ∧ f0 ≤ 2) ∧ n1 ≤ 60) ∧ ¬ 0 ≤ n1 ∧ v2 = some (vI (-15)) ∧ ClassC w2 tx by0 ru fa fe fc lw br me mh ml mw mn 5 fm ln it ∧ ∀ k : Nat, 32 ≤ k → w2 k = w k) ∨ (¬ ((0 ≤ (0 : Int) ∧ (0 : Int) ≤ 3) ∧ (0 ≤ f0 ∧ f0 ≤ 2) ∧ n1 ≤ 60) ∧ v2 = some (vI (-2)) ∧ w2 = w)) := by
  have hC0 := hC
  obtain ⟨q0, ⟨on, ot, ho, wy, nu, fl, ⟨q1, q2, q3, q4, q5, q6⟩, hRd⟩, ⟨fd, ⟨q9, q10, q11⟩, ⟨q7, q8⟩, hO⟩, ⟨la, be, ne, q12, q13, q14⟩, ⟨sl, q15⟩, hbm, ⟨go, st, bn, B, ra, rb, q16, q17, q18⟩, ⟨⟨q19, q20, q21, q22⟩, hMm⟩, hSh⟩ := hC
  have hW : WarC w fa (warB lw fa ru fe fc) := ⟨fe, ru, fc, fd, lw, ⟨q9, q10, q11⟩, ⟨q7, q8⟩, hO, rfl⟩
  have hE := hRd.ed
  have hM := hRd.mat
  obtain ⟨⟨sf, q23, s0, s1, s2, s3⟩, ⟨fo0, le0, lo0, g0, q24, q25, r0, d0⟩, ⟨fo1, le1, lo1, g1, q26, q27, r1, d1⟩, ⟨fo2, le2, lo2, g2, q28, q29, r2, d2⟩, ⟨fo3, le3, lo3, g3, q30, q31, r3, d3⟩⟩ := hSh
  refine Mt.of (L0 := [some (vR 0), some (vI 0), some (vI f0), some (vI n1)]) rfl rfl rfl ?_
  refine gj_il1 dX8_sheet_0 ?_
  refine gj_cS1r dX8_sheet_1 mX8_120 hX8_isSheet (by omega) rfl (tX8_isSheet  (by omega) (by omega)) ?_
  refine gj_ifB_eq dX8_sheet_4 (fun h4 => ?_) (fun h4 => ?_)
  · exact absurd (by omega) h4
  · refine gj_il2 dX8_sheet_7 ?_
    refine gj_cS1r dX8_sheet_8 mX8_248 hX8_isForm (by omega) rfl (tX8_isForm  (by omega) (by omega)) ?_
    refine gj_ifB_eq dX8_sheet_11 (fun h11 => ?_) (fun h11 => ?_)
    · refine gj_bipush dX8_sheet_20 rfl ?_
      exact gj_iret dX8_sheet_22 rfl (Or.inr (Or.inr ⟨by omega, rfl, rfl⟩))
    · refine gj_il3 dX8_sheet_14 ?_
      refine gj_bipush dX8_sheet_15 rfl ?_
      refine gj_icmp_le dX8_sheet_17 (by omega) (fun h17 => ?_) (fun h17 => ?_)
      · refine gj_il3 dX8_sheet_23 ?_
        refine gj_if_ge dX8_sheet_24 (by omega) (fun h24 => ?_) (fun h24 => ?_)
        · refine gj_al0 dX8_sheet_33 ?_
          refine gj_get dX8_sheet_34 fX8_66 q0 rfl rfl ?_
          refine gj_il1 dX8_sheet_37 ?_
          refine gj_aald dX8_sheet_38 q23 rfl rfl (by omega) s0 ?_
          refine gj_il2 dX8_sheet_39 ?_
          refine gj_il3 dX8_sheet_40 ?_
          refine gj_cV2v dX8_sheet_41 mX8_251 hX7_renew q24 rfl (by omega) rfl (tX7_renew0  (by omega) ⟨q24, q25⟩) (fun w41 P41 => ?_)
          obtain rfl := P41
          refine gj_il3 dX8_sheet_44 ?_
          exact gj_iret dX8_sheet_45 rfl (Or.inl ⟨⟨by omega, by omega, by omega⟩, by omega, rfl, ⟨⟨(upw_o (by decide) (upw_o (by decide) q0)), ⟨_, _, _, _, _, _, ⟨(upw_o (by decide) (upw_o (by decide) q1)), (upw_o (by decide) (upw_o (by decide) q2)), (upw_o (by decide) (upw_o (by decide) q3)), (upw_o (by decide) (upw_o (by decide) q4)), (upw_o (by decide) (upw_o (by decide) q5)), (upw_o (by decide) (upw_o (by decide) q6))⟩, hRd⟩, ⟨_, ⟨(upw_o (by decide) (upw_o (by decide) q9)), (upw_o (by decide) (upw_o (by decide) q10)), (upw_o (by decide) (upw_o (by decide) q11))⟩, ⟨(upw_o (by decide) (upw_o (by decide) q7)), (upw_o (by decide) (upw_o (by decide) q8))⟩, hO⟩, ⟨_, _, _, (upw_o (by decide) (upw_o (by decide) q12)), (upw_o (by decide) (upw_o (by decide) q13)), (upw_o (by decide) (upw_o (by decide) q14))⟩, ⟨_, (upw_o (by decide) (upw_o (by decide) q15))⟩, hbm, ⟨_, _, _, B, _, _, (upw_o (by decide) (upw_o (by decide) q16)), (upw_o (by decide) (upw_o (by decide) q17)), (upw_o (by decide) (upw_o (by decide) q18))⟩, ⟨⟨(upw_o (by decide) (upw_o (by decide) q19)), (upw_o (by decide) (upw_o (by decide) q20)), (upw_o (by decide) (upw_o (by decide) q21)), (upw_o (by decide) (upw_o (by decide) q22))⟩, hMm⟩, ⟨⟨_, (upw_o (by decide) (upw_o (by decide) q23)), s0, s1, s2, s3⟩, ⟨_, _, _, _, upw_s, (upw_o (by decide) upw_s), ⟨by omega, by omega⟩, Or.inr ⟨rfl, rfl, by omega, rfl, by omega, fun j g8 g9 => (by unfold filF; rw [if_pos (by omega)]; exact ⟨rfl, by omega⟩)⟩⟩, ⟨_, _, _, _, (upw_o (by decide) (upw_o (by decide) q26)), (upw_o (by decide) (upw_o (by decide) q27)), r1, d1⟩, ⟨_, _, _, _, (upw_o (by decide) (upw_o (by decide) q28)), (upw_o (by decide) (upw_o (by decide) q29)), r2, d2⟩, ⟨_, _, _, _, (upw_o (by decide) (upw_o (by decide) q30)), (upw_o (by decide) (upw_o (by decide) q31)), r3, d3⟩⟩⟩, (fun k hk => upw_o (by omega) ((fun k hk => upw_o (by omega) ((fun (k : Nat) (_ : 32 ≤ k) => rfl) k hk)) k hk))⟩⟩)
        · refine gj_al0 dX8_sheet_27 ?_
          refine gj_iconst dX8_sheet_28 ?_
          refine gj_cV1w dX8_sheet_29 mX8_127 hX8_found q0 rfl (by omega) rfl (tX8_found  (by omega) q0) (fun w29 P29 => ?_)
          obtain rfl := P29
          exact gj_iret dX8_sheet_32 rfl (Or.inr (Or.inl ⟨⟨by omega, by omega, by omega⟩, by omega, rfl, ⟨⟨upw_s, ⟨_, _, _, _, _, _, ⟨(upw_o (by decide) q1), (upw_o (by decide) q2), (upw_o (by decide) q3), (upw_o (by decide) q4), (upw_o (by decide) q5), (upw_o (by decide) q6)⟩, hRd⟩, ⟨_, ⟨(upw_o (by decide) q9), (upw_o (by decide) q10), (upw_o (by decide) q11)⟩, ⟨(upw_o (by decide) q7), (upw_o (by decide) q8)⟩, hO⟩, ⟨_, _, _, (upw_o (by decide) q12), (upw_o (by decide) q13), (upw_o (by decide) q14)⟩, ⟨_, (upw_o (by decide) q15)⟩, hbm, ⟨_, _, _, B, _, _, (upw_o (by decide) q16), (upw_o (by decide) q17), (upw_o (by decide) q18)⟩, ⟨⟨(upw_o (by decide) q19), (upw_o (by decide) q20), (upw_o (by decide) q21), (upw_o (by decide) q22)⟩, hMm⟩, ⟨⟨_, (upw_o (by decide) q23), s0, s1, s2, s3⟩, ⟨_, _, _, _, (upw_o (by decide) q24), (upw_o (by decide) q25), r0, d0⟩, ⟨_, _, _, _, (upw_o (by decide) q26), (upw_o (by decide) q27), r1, d1⟩, ⟨_, _, _, _, (upw_o (by decide) q28), (upw_o (by decide) q29), r2, d2⟩, ⟨_, _, _, _, (upw_o (by decide) q30), (upw_o (by decide) q31), r3, d3⟩⟩⟩, (fun k hk => upw_o (by omega) ((fun (k : Nat) (_ : 32 ≤ k) => rfl) k hk))⟩⟩))
      · refine gj_bipush dX8_sheet_20 rfl ?_
        exact gj_iret dX8_sheet_22 rfl (Or.inr (Or.inr ⟨by omega, rfl, rfl⟩))
set_option maxRecDepth 20000 in
set_option maxHeartbeats 4000000 in
theorem tSheet1 {l : Launch} {x : Cx} {d : Nat} {w : AW} {tx : Int → Int} {by0 : Int} {ru fa fe : Int → Int} {fc lw br me : Int} {mh ml mw : Int → Int} {mn fi : Int} {fm ln : Int → Int} {it : Int → Int → Int} {f0 n1 : Int} (hd : 2 ≤ d) (hC : ClassC w tx by0 ru fa fe fc lw br me mh ml mw mn fi fm ln it) (hf0 : R32 f0) (hn1 : R32 n1) : Mt l x iX8_sheet d 0 0 50 w [vR 0, vI 1, vI f0, vI n1] (fun v2 w2 => (((0 ≤ (1 : Int) ∧ (1 : Int) ≤ 3) ∧ (0 ≤ f0 ∧ f0 ≤ 2) ∧ n1 ≤ 60) ∧ 0 ≤ n1 ∧ v2 = some (vI n1) ∧ ClassC w2 tx by0 ru fa fe fc lw br me mh ml mw mn fi (upf fm (1 : Int) f0) (upf ln (1 : Int) n1) (upi it (1 : Int) (fun _ => 0)) ∧ ∀ k : Nat, 32 ≤ k → w2 k = w k) ∨ (((0 ≤ (1 : Int) ∧ (1 : Int) ≤ 3) ∧ (0 ≤ f0 ∧ f0 ≤ 2) ∧ n1 ≤ 60) ∧ ¬ 0 ≤ n1 ∧ v2 = some (vI (-15)) ∧ ClassC w2 tx by0 ru fa fe fc lw br me mh ml mw mn 5 fm ln it ∧ ∀ k : Nat, 32 ≤ k → w2 k = w k) ∨ (¬ ((0 ≤ (1 : Int) ∧ (1 : Int) ≤ 3) ∧ (0 ≤ f0 ∧ f0 ≤ 2) ∧ n1 ≤ 60) ∧ v2 = some (vI (-2)) ∧ w2 = w)) := by
  have hC0 := hC
  obtain ⟨q0, ⟨on, ot, ho, wy, nu, fl, ⟨q1, q2, q3, q4, q5, q6⟩, hRd⟩, ⟨fd, ⟨q9, q10, q11⟩, ⟨q7, q8⟩, hO⟩, ⟨la, be, ne, q12, q13, q14⟩, ⟨sl, q15⟩, hbm, ⟨go, st, bn, B, ra, rb, q16, q17, q18⟩, ⟨⟨q19, q20, q21, q22⟩, hMm⟩, hSh⟩ := hC
  have hW : WarC w fa (warB lw fa ru fe fc) := ⟨fe, ru, fc, fd, lw, ⟨q9, q10, q11⟩, ⟨q7, q8⟩, hO, rfl⟩
  have hE := hRd.ed
  have hM := hRd.mat
  obtain ⟨⟨sf, q23, s0, s1, s2, s3⟩, ⟨fo0, le0, lo0, g0, q24, q25, r0, d0⟩, ⟨fo1, le1, lo1, g1, q26, q27, r1, d1⟩, ⟨fo2, le2, lo2, g2, q28, q29, r2, d2⟩, ⟨fo3, le3, lo3, g3, q30, q31, r3, d3⟩⟩ := hSh
  refine Mt.of (L0 := [some (vR 0), some (vI 1), some (vI f0), some (vI n1)]) rfl rfl rfl ?_
  refine gj_il1 dX8_sheet_0 ?_
  refine gj_cS1r dX8_sheet_1 mX8_120 hX8_isSheet (by omega) rfl (tX8_isSheet  (by omega) (by omega)) ?_
  refine gj_ifB_eq dX8_sheet_4 (fun h4 => ?_) (fun h4 => ?_)
  · exact absurd (by omega) h4
  · refine gj_il2 dX8_sheet_7 ?_
    refine gj_cS1r dX8_sheet_8 mX8_248 hX8_isForm (by omega) rfl (tX8_isForm  (by omega) (by omega)) ?_
    refine gj_ifB_eq dX8_sheet_11 (fun h11 => ?_) (fun h11 => ?_)
    · refine gj_bipush dX8_sheet_20 rfl ?_
      exact gj_iret dX8_sheet_22 rfl (Or.inr (Or.inr ⟨by omega, rfl, rfl⟩))
    · refine gj_il3 dX8_sheet_14 ?_
      refine gj_bipush dX8_sheet_15 rfl ?_
      refine gj_icmp_le dX8_sheet_17 (by omega) (fun h17 => ?_) (fun h17 => ?_)
      · refine gj_il3 dX8_sheet_23 ?_
        refine gj_if_ge dX8_sheet_24 (by omega) (fun h24 => ?_) (fun h24 => ?_)
        · refine gj_al0 dX8_sheet_33 ?_
          refine gj_get dX8_sheet_34 fX8_66 q0 rfl rfl ?_
          refine gj_il1 dX8_sheet_37 ?_
          refine gj_aald dX8_sheet_38 q23 rfl rfl (by omega) s1 ?_
          refine gj_il2 dX8_sheet_39 ?_
          refine gj_il3 dX8_sheet_40 ?_
          refine gj_cV2v dX8_sheet_41 mX8_251 hX7_renew q26 rfl (by omega) rfl (tX7_renew1  (by omega) ⟨q26, q27⟩) (fun w41 P41 => ?_)
          obtain rfl := P41
          refine gj_il3 dX8_sheet_44 ?_
          exact gj_iret dX8_sheet_45 rfl (Or.inl ⟨⟨by omega, by omega, by omega⟩, by omega, rfl, ⟨⟨(upw_o (by decide) (upw_o (by decide) q0)), ⟨_, _, _, _, _, _, ⟨(upw_o (by decide) (upw_o (by decide) q1)), (upw_o (by decide) (upw_o (by decide) q2)), (upw_o (by decide) (upw_o (by decide) q3)), (upw_o (by decide) (upw_o (by decide) q4)), (upw_o (by decide) (upw_o (by decide) q5)), (upw_o (by decide) (upw_o (by decide) q6))⟩, hRd⟩, ⟨_, ⟨(upw_o (by decide) (upw_o (by decide) q9)), (upw_o (by decide) (upw_o (by decide) q10)), (upw_o (by decide) (upw_o (by decide) q11))⟩, ⟨(upw_o (by decide) (upw_o (by decide) q7)), (upw_o (by decide) (upw_o (by decide) q8))⟩, hO⟩, ⟨_, _, _, (upw_o (by decide) (upw_o (by decide) q12)), (upw_o (by decide) (upw_o (by decide) q13)), (upw_o (by decide) (upw_o (by decide) q14))⟩, ⟨_, (upw_o (by decide) (upw_o (by decide) q15))⟩, hbm, ⟨_, _, _, B, _, _, (upw_o (by decide) (upw_o (by decide) q16)), (upw_o (by decide) (upw_o (by decide) q17)), (upw_o (by decide) (upw_o (by decide) q18))⟩, ⟨⟨(upw_o (by decide) (upw_o (by decide) q19)), (upw_o (by decide) (upw_o (by decide) q20)), (upw_o (by decide) (upw_o (by decide) q21)), (upw_o (by decide) (upw_o (by decide) q22))⟩, hMm⟩, ⟨⟨_, (upw_o (by decide) (upw_o (by decide) q23)), s0, s1, s2, s3⟩, ⟨_, _, _, _, (upw_o (by decide) (upw_o (by decide) q24)), (upw_o (by decide) (upw_o (by decide) q25)), r0, d0⟩, ⟨_, _, _, _, upw_s, (upw_o (by decide) upw_s), ⟨by omega, by omega⟩, Or.inr ⟨rfl, rfl, by omega, rfl, by omega, fun j g8 g9 => (by unfold filF; rw [if_pos (by omega)]; exact ⟨rfl, by omega⟩)⟩⟩, ⟨_, _, _, _, (upw_o (by decide) (upw_o (by decide) q28)), (upw_o (by decide) (upw_o (by decide) q29)), r2, d2⟩, ⟨_, _, _, _, (upw_o (by decide) (upw_o (by decide) q30)), (upw_o (by decide) (upw_o (by decide) q31)), r3, d3⟩⟩⟩, (fun k hk => upw_o (by omega) ((fun k hk => upw_o (by omega) ((fun (k : Nat) (_ : 32 ≤ k) => rfl) k hk)) k hk))⟩⟩)
        · refine gj_al0 dX8_sheet_27 ?_
          refine gj_iconst dX8_sheet_28 ?_
          refine gj_cV1w dX8_sheet_29 mX8_127 hX8_found q0 rfl (by omega) rfl (tX8_found  (by omega) q0) (fun w29 P29 => ?_)
          obtain rfl := P29
          exact gj_iret dX8_sheet_32 rfl (Or.inr (Or.inl ⟨⟨by omega, by omega, by omega⟩, by omega, rfl, ⟨⟨upw_s, ⟨_, _, _, _, _, _, ⟨(upw_o (by decide) q1), (upw_o (by decide) q2), (upw_o (by decide) q3), (upw_o (by decide) q4), (upw_o (by decide) q5), (upw_o (by decide) q6)⟩, hRd⟩, ⟨_, ⟨(upw_o (by decide) q9), (upw_o (by decide) q10), (upw_o (by decide) q11)⟩, ⟨(upw_o (by decide) q7), (upw_o (by decide) q8)⟩, hO⟩, ⟨_, _, _, (upw_o (by decide) q12), (upw_o (by decide) q13), (upw_o (by decide) q14)⟩, ⟨_, (upw_o (by decide) q15)⟩, hbm, ⟨_, _, _, B, _, _, (upw_o (by decide) q16), (upw_o (by decide) q17), (upw_o (by decide) q18)⟩, ⟨⟨(upw_o (by decide) q19), (upw_o (by decide) q20), (upw_o (by decide) q21), (upw_o (by decide) q22)⟩, hMm⟩, ⟨⟨_, (upw_o (by decide) q23), s0, s1, s2, s3⟩, ⟨_, _, _, _, (upw_o (by decide) q24), (upw_o (by decide) q25), r0, d0⟩, ⟨_, _, _, _, (upw_o (by decide) q26), (upw_o (by decide) q27), r1, d1⟩, ⟨_, _, _, _, (upw_o (by decide) q28), (upw_o (by decide) q29), r2, d2⟩, ⟨_, _, _, _, (upw_o (by decide) q30), (upw_o (by decide) q31), r3, d3⟩⟩⟩, (fun k hk => upw_o (by omega) ((fun (k : Nat) (_ : 32 ≤ k) => rfl) k hk))⟩⟩))
      · refine gj_bipush dX8_sheet_20 rfl ?_
        exact gj_iret dX8_sheet_22 rfl (Or.inr (Or.inr ⟨by omega, rfl, rfl⟩))
set_option maxRecDepth 20000 in
set_option maxHeartbeats 4000000 in
theorem tSheet2 {l : Launch} {x : Cx} {d : Nat} {w : AW} {tx : Int → Int} {by0 : Int} {ru fa fe : Int → Int} {fc lw br me : Int} {mh ml mw : Int → Int} {mn fi : Int} {fm ln : Int → Int} {it : Int → Int → Int} {f0 n1 : Int} (hd : 2 ≤ d) (hC : ClassC w tx by0 ru fa fe fc lw br me mh ml mw mn fi fm ln it) (hf0 : R32 f0) (hn1 : R32 n1) : Mt l x iX8_sheet d 0 0 50 w [vR 0, vI 2, vI f0, vI n1] (fun v2 w2 => (((0 ≤ (2 : Int) ∧ (2 : Int) ≤ 3) ∧ (0 ≤ f0 ∧ f0 ≤ 2) ∧ n1 ≤ 60) ∧ 0 ≤ n1 ∧ v2 = some (vI n1) ∧ ClassC w2 tx by0 ru fa fe fc lw br me mh ml mw mn fi (upf fm (2 : Int) f0) (upf ln (2 : Int) n1) (upi it (2 : Int) (fun _ => 0)) ∧ ∀ k : Nat, 32 ≤ k → w2 k = w k) ∨ (((0 ≤ (2 : Int) ∧ (2 : Int) ≤ 3) ∧ (0 ≤ f0 ∧ f0 ≤ 2) ∧ n1 ≤ 60) ∧ ¬ 0 ≤ n1 ∧ v2 = some (vI (-15)) ∧ ClassC w2 tx by0 ru fa fe fc lw br me mh ml mw mn 5 fm ln it ∧ ∀ k : Nat, 32 ≤ k → w2 k = w k) ∨ (¬ ((0 ≤ (2 : Int) ∧ (2 : Int) ≤ 3) ∧ (0 ≤ f0 ∧ f0 ≤ 2) ∧ n1 ≤ 60) ∧ v2 = some (vI (-2)) ∧ w2 = w)) := by
  have hC0 := hC
  obtain ⟨q0, ⟨on, ot, ho, wy, nu, fl, ⟨q1, q2, q3, q4, q5, q6⟩, hRd⟩, ⟨fd, ⟨q9, q10, q11⟩, ⟨q7, q8⟩, hO⟩, ⟨la, be, ne, q12, q13, q14⟩, ⟨sl, q15⟩, hbm, ⟨go, st, bn, B, ra, rb, q16, q17, q18⟩, ⟨⟨q19, q20, q21, q22⟩, hMm⟩, hSh⟩ := hC
  have hW : WarC w fa (warB lw fa ru fe fc) := ⟨fe, ru, fc, fd, lw, ⟨q9, q10, q11⟩, ⟨q7, q8⟩, hO, rfl⟩
  have hE := hRd.ed
  have hM := hRd.mat
  obtain ⟨⟨sf, q23, s0, s1, s2, s3⟩, ⟨fo0, le0, lo0, g0, q24, q25, r0, d0⟩, ⟨fo1, le1, lo1, g1, q26, q27, r1, d1⟩, ⟨fo2, le2, lo2, g2, q28, q29, r2, d2⟩, ⟨fo3, le3, lo3, g3, q30, q31, r3, d3⟩⟩ := hSh
  refine Mt.of (L0 := [some (vR 0), some (vI 2), some (vI f0), some (vI n1)]) rfl rfl rfl ?_
  refine gj_il1 dX8_sheet_0 ?_
  refine gj_cS1r dX8_sheet_1 mX8_120 hX8_isSheet (by omega) rfl (tX8_isSheet  (by omega) (by omega)) ?_
  refine gj_ifB_eq dX8_sheet_4 (fun h4 => ?_) (fun h4 => ?_)
  · exact absurd (by omega) h4
  · refine gj_il2 dX8_sheet_7 ?_
    refine gj_cS1r dX8_sheet_8 mX8_248 hX8_isForm (by omega) rfl (tX8_isForm  (by omega) (by omega)) ?_
    refine gj_ifB_eq dX8_sheet_11 (fun h11 => ?_) (fun h11 => ?_)
    · refine gj_bipush dX8_sheet_20 rfl ?_
      exact gj_iret dX8_sheet_22 rfl (Or.inr (Or.inr ⟨by omega, rfl, rfl⟩))
    · refine gj_il3 dX8_sheet_14 ?_
      refine gj_bipush dX8_sheet_15 rfl ?_
      refine gj_icmp_le dX8_sheet_17 (by omega) (fun h17 => ?_) (fun h17 => ?_)
      · refine gj_il3 dX8_sheet_23 ?_
        refine gj_if_ge dX8_sheet_24 (by omega) (fun h24 => ?_) (fun h24 => ?_)
        · refine gj_al0 dX8_sheet_33 ?_
          refine gj_get dX8_sheet_34 fX8_66 q0 rfl rfl ?_
          refine gj_il1 dX8_sheet_37 ?_
          refine gj_aald dX8_sheet_38 q23 rfl rfl (by omega) s2 ?_
          refine gj_il2 dX8_sheet_39 ?_
          refine gj_il3 dX8_sheet_40 ?_
          refine gj_cV2v dX8_sheet_41 mX8_251 hX7_renew q28 rfl (by omega) rfl (tX7_renew2  (by omega) ⟨q28, q29⟩) (fun w41 P41 => ?_)
          obtain rfl := P41
          refine gj_il3 dX8_sheet_44 ?_
          exact gj_iret dX8_sheet_45 rfl (Or.inl ⟨⟨by omega, by omega, by omega⟩, by omega, rfl, ⟨⟨(upw_o (by decide) (upw_o (by decide) q0)), ⟨_, _, _, _, _, _, ⟨(upw_o (by decide) (upw_o (by decide) q1)), (upw_o (by decide) (upw_o (by decide) q2)), (upw_o (by decide) (upw_o (by decide) q3)), (upw_o (by decide) (upw_o (by decide) q4)), (upw_o (by decide) (upw_o (by decide) q5)), (upw_o (by decide) (upw_o (by decide) q6))⟩, hRd⟩, ⟨_, ⟨(upw_o (by decide) (upw_o (by decide) q9)), (upw_o (by decide) (upw_o (by decide) q10)), (upw_o (by decide) (upw_o (by decide) q11))⟩, ⟨(upw_o (by decide) (upw_o (by decide) q7)), (upw_o (by decide) (upw_o (by decide) q8))⟩, hO⟩, ⟨_, _, _, (upw_o (by decide) (upw_o (by decide) q12)), (upw_o (by decide) (upw_o (by decide) q13)), (upw_o (by decide) (upw_o (by decide) q14))⟩, ⟨_, (upw_o (by decide) (upw_o (by decide) q15))⟩, hbm, ⟨_, _, _, B, _, _, (upw_o (by decide) (upw_o (by decide) q16)), (upw_o (by decide) (upw_o (by decide) q17)), (upw_o (by decide) (upw_o (by decide) q18))⟩, ⟨⟨(upw_o (by decide) (upw_o (by decide) q19)), (upw_o (by decide) (upw_o (by decide) q20)), (upw_o (by decide) (upw_o (by decide) q21)), (upw_o (by decide) (upw_o (by decide) q22))⟩, hMm⟩, ⟨⟨_, (upw_o (by decide) (upw_o (by decide) q23)), s0, s1, s2, s3⟩, ⟨_, _, _, _, (upw_o (by decide) (upw_o (by decide) q24)), (upw_o (by decide) (upw_o (by decide) q25)), r0, d0⟩, ⟨_, _, _, _, (upw_o (by decide) (upw_o (by decide) q26)), (upw_o (by decide) (upw_o (by decide) q27)), r1, d1⟩, ⟨_, _, _, _, upw_s, (upw_o (by decide) upw_s), ⟨by omega, by omega⟩, Or.inr ⟨rfl, rfl, by omega, rfl, by omega, fun j g8 g9 => (by unfold filF; rw [if_pos (by omega)]; exact ⟨rfl, by omega⟩)⟩⟩, ⟨_, _, _, _, (upw_o (by decide) (upw_o (by decide) q30)), (upw_o (by decide) (upw_o (by decide) q31)), r3, d3⟩⟩⟩, (fun k hk => upw_o (by omega) ((fun k hk => upw_o (by omega) ((fun (k : Nat) (_ : 32 ≤ k) => rfl) k hk)) k hk))⟩⟩)
        · refine gj_al0 dX8_sheet_27 ?_
          refine gj_iconst dX8_sheet_28 ?_
          refine gj_cV1w dX8_sheet_29 mX8_127 hX8_found q0 rfl (by omega) rfl (tX8_found  (by omega) q0) (fun w29 P29 => ?_)
          obtain rfl := P29
          exact gj_iret dX8_sheet_32 rfl (Or.inr (Or.inl ⟨⟨by omega, by omega, by omega⟩, by omega, rfl, ⟨⟨upw_s, ⟨_, _, _, _, _, _, ⟨(upw_o (by decide) q1), (upw_o (by decide) q2), (upw_o (by decide) q3), (upw_o (by decide) q4), (upw_o (by decide) q5), (upw_o (by decide) q6)⟩, hRd⟩, ⟨_, ⟨(upw_o (by decide) q9), (upw_o (by decide) q10), (upw_o (by decide) q11)⟩, ⟨(upw_o (by decide) q7), (upw_o (by decide) q8)⟩, hO⟩, ⟨_, _, _, (upw_o (by decide) q12), (upw_o (by decide) q13), (upw_o (by decide) q14)⟩, ⟨_, (upw_o (by decide) q15)⟩, hbm, ⟨_, _, _, B, _, _, (upw_o (by decide) q16), (upw_o (by decide) q17), (upw_o (by decide) q18)⟩, ⟨⟨(upw_o (by decide) q19), (upw_o (by decide) q20), (upw_o (by decide) q21), (upw_o (by decide) q22)⟩, hMm⟩, ⟨⟨_, (upw_o (by decide) q23), s0, s1, s2, s3⟩, ⟨_, _, _, _, (upw_o (by decide) q24), (upw_o (by decide) q25), r0, d0⟩, ⟨_, _, _, _, (upw_o (by decide) q26), (upw_o (by decide) q27), r1, d1⟩, ⟨_, _, _, _, (upw_o (by decide) q28), (upw_o (by decide) q29), r2, d2⟩, ⟨_, _, _, _, (upw_o (by decide) q30), (upw_o (by decide) q31), r3, d3⟩⟩⟩, (fun k hk => upw_o (by omega) ((fun (k : Nat) (_ : 32 ≤ k) => rfl) k hk))⟩⟩))
      · refine gj_bipush dX8_sheet_20 rfl ?_
        exact gj_iret dX8_sheet_22 rfl (Or.inr (Or.inr ⟨by omega, rfl, rfl⟩))
set_option maxRecDepth 20000 in
set_option maxHeartbeats 4000000 in
theorem tSheet3 {l : Launch} {x : Cx} {d : Nat} {w : AW} {tx : Int → Int} {by0 : Int} {ru fa fe : Int → Int} {fc lw br me : Int} {mh ml mw : Int → Int} {mn fi : Int} {fm ln : Int → Int} {it : Int → Int → Int} {f0 n1 : Int} (hd : 2 ≤ d) (hC : ClassC w tx by0 ru fa fe fc lw br me mh ml mw mn fi fm ln it) (hf0 : R32 f0) (hn1 : R32 n1) : Mt l x iX8_sheet d 0 0 50 w [vR 0, vI 3, vI f0, vI n1] (fun v2 w2 => (((0 ≤ (3 : Int) ∧ (3 : Int) ≤ 3) ∧ (0 ≤ f0 ∧ f0 ≤ 2) ∧ n1 ≤ 60) ∧ 0 ≤ n1 ∧ v2 = some (vI n1) ∧ ClassC w2 tx by0 ru fa fe fc lw br me mh ml mw mn fi (upf fm (3 : Int) f0) (upf ln (3 : Int) n1) (upi it (3 : Int) (fun _ => 0)) ∧ ∀ k : Nat, 32 ≤ k → w2 k = w k) ∨ (((0 ≤ (3 : Int) ∧ (3 : Int) ≤ 3) ∧ (0 ≤ f0 ∧ f0 ≤ 2) ∧ n1 ≤ 60) ∧ ¬ 0 ≤ n1 ∧ v2 = some (vI (-15)) ∧ ClassC w2 tx by0 ru fa fe fc lw br me mh ml mw mn 5 fm ln it ∧ ∀ k : Nat, 32 ≤ k → w2 k = w k) ∨ (¬ ((0 ≤ (3 : Int) ∧ (3 : Int) ≤ 3) ∧ (0 ≤ f0 ∧ f0 ≤ 2) ∧ n1 ≤ 60) ∧ v2 = some (vI (-2)) ∧ w2 = w)) := by
  have hC0 := hC
  obtain ⟨q0, ⟨on, ot, ho, wy, nu, fl, ⟨q1, q2, q3, q4, q5, q6⟩, hRd⟩, ⟨fd, ⟨q9, q10, q11⟩, ⟨q7, q8⟩, hO⟩, ⟨la, be, ne, q12, q13, q14⟩, ⟨sl, q15⟩, hbm, ⟨go, st, bn, B, ra, rb, q16, q17, q18⟩, ⟨⟨q19, q20, q21, q22⟩, hMm⟩, hSh⟩ := hC
  have hW : WarC w fa (warB lw fa ru fe fc) := ⟨fe, ru, fc, fd, lw, ⟨q9, q10, q11⟩, ⟨q7, q8⟩, hO, rfl⟩
  have hE := hRd.ed
  have hM := hRd.mat
  obtain ⟨⟨sf, q23, s0, s1, s2, s3⟩, ⟨fo0, le0, lo0, g0, q24, q25, r0, d0⟩, ⟨fo1, le1, lo1, g1, q26, q27, r1, d1⟩, ⟨fo2, le2, lo2, g2, q28, q29, r2, d2⟩, ⟨fo3, le3, lo3, g3, q30, q31, r3, d3⟩⟩ := hSh
  refine Mt.of (L0 := [some (vR 0), some (vI 3), some (vI f0), some (vI n1)]) rfl rfl rfl ?_
  refine gj_il1 dX8_sheet_0 ?_
  refine gj_cS1r dX8_sheet_1 mX8_120 hX8_isSheet (by omega) rfl (tX8_isSheet  (by omega) (by omega)) ?_
  refine gj_ifB_eq dX8_sheet_4 (fun h4 => ?_) (fun h4 => ?_)
  · exact absurd (by omega) h4
  · refine gj_il2 dX8_sheet_7 ?_
    refine gj_cS1r dX8_sheet_8 mX8_248 hX8_isForm (by omega) rfl (tX8_isForm  (by omega) (by omega)) ?_
    refine gj_ifB_eq dX8_sheet_11 (fun h11 => ?_) (fun h11 => ?_)
    · refine gj_bipush dX8_sheet_20 rfl ?_
      exact gj_iret dX8_sheet_22 rfl (Or.inr (Or.inr ⟨by omega, rfl, rfl⟩))
    · refine gj_il3 dX8_sheet_14 ?_
      refine gj_bipush dX8_sheet_15 rfl ?_
      refine gj_icmp_le dX8_sheet_17 (by omega) (fun h17 => ?_) (fun h17 => ?_)
      · refine gj_il3 dX8_sheet_23 ?_
        refine gj_if_ge dX8_sheet_24 (by omega) (fun h24 => ?_) (fun h24 => ?_)
        · refine gj_al0 dX8_sheet_33 ?_
          refine gj_get dX8_sheet_34 fX8_66 q0 rfl rfl ?_
          refine gj_il1 dX8_sheet_37 ?_
          refine gj_aald dX8_sheet_38 q23 rfl rfl (by omega) s3 ?_
          refine gj_il2 dX8_sheet_39 ?_
          refine gj_il3 dX8_sheet_40 ?_
          refine gj_cV2v dX8_sheet_41 mX8_251 hX7_renew q30 rfl (by omega) rfl (tX7_renew3  (by omega) ⟨q30, q31⟩) (fun w41 P41 => ?_)
          obtain rfl := P41
          refine gj_il3 dX8_sheet_44 ?_
          exact gj_iret dX8_sheet_45 rfl (Or.inl ⟨⟨by omega, by omega, by omega⟩, by omega, rfl, ⟨⟨(upw_o (by decide) (upw_o (by decide) q0)), ⟨_, _, _, _, _, _, ⟨(upw_o (by decide) (upw_o (by decide) q1)), (upw_o (by decide) (upw_o (by decide) q2)), (upw_o (by decide) (upw_o (by decide) q3)), (upw_o (by decide) (upw_o (by decide) q4)), (upw_o (by decide) (upw_o (by decide) q5)), (upw_o (by decide) (upw_o (by decide) q6))⟩, hRd⟩, ⟨_, ⟨(upw_o (by decide) (upw_o (by decide) q9)), (upw_o (by decide) (upw_o (by decide) q10)), (upw_o (by decide) (upw_o (by decide) q11))⟩, ⟨(upw_o (by decide) (upw_o (by decide) q7)), (upw_o (by decide) (upw_o (by decide) q8))⟩, hO⟩, ⟨_, _, _, (upw_o (by decide) (upw_o (by decide) q12)), (upw_o (by decide) (upw_o (by decide) q13)), (upw_o (by decide) (upw_o (by decide) q14))⟩, ⟨_, (upw_o (by decide) (upw_o (by decide) q15))⟩, hbm, ⟨_, _, _, B, _, _, (upw_o (by decide) (upw_o (by decide) q16)), (upw_o (by decide) (upw_o (by decide) q17)), (upw_o (by decide) (upw_o (by decide) q18))⟩, ⟨⟨(upw_o (by decide) (upw_o (by decide) q19)), (upw_o (by decide) (upw_o (by decide) q20)), (upw_o (by decide) (upw_o (by decide) q21)), (upw_o (by decide) (upw_o (by decide) q22))⟩, hMm⟩, ⟨⟨_, (upw_o (by decide) (upw_o (by decide) q23)), s0, s1, s2, s3⟩, ⟨_, _, _, _, (upw_o (by decide) (upw_o (by decide) q24)), (upw_o (by decide) (upw_o (by decide) q25)), r0, d0⟩, ⟨_, _, _, _, (upw_o (by decide) (upw_o (by decide) q26)), (upw_o (by decide) (upw_o (by decide) q27)), r1, d1⟩, ⟨_, _, _, _, (upw_o (by decide) (upw_o (by decide) q28)), (upw_o (by decide) (upw_o (by decide) q29)), r2, d2⟩, ⟨_, _, _, _, upw_s, (upw_o (by decide) upw_s), ⟨by omega, by omega⟩, Or.inr ⟨rfl, rfl, by omega, rfl, by omega, fun j g8 g9 => (by unfold filF; rw [if_pos (by omega)]; exact ⟨rfl, by omega⟩)⟩⟩⟩⟩, (fun k hk => upw_o (by omega) ((fun k hk => upw_o (by omega) ((fun (k : Nat) (_ : 32 ≤ k) => rfl) k hk)) k hk))⟩⟩)
        · refine gj_al0 dX8_sheet_27 ?_
          refine gj_iconst dX8_sheet_28 ?_
          refine gj_cV1w dX8_sheet_29 mX8_127 hX8_found q0 rfl (by omega) rfl (tX8_found  (by omega) q0) (fun w29 P29 => ?_)
          obtain rfl := P29
          exact gj_iret dX8_sheet_32 rfl (Or.inr (Or.inl ⟨⟨by omega, by omega, by omega⟩, by omega, rfl, ⟨⟨upw_s, ⟨_, _, _, _, _, _, ⟨(upw_o (by decide) q1), (upw_o (by decide) q2), (upw_o (by decide) q3), (upw_o (by decide) q4), (upw_o (by decide) q5), (upw_o (by decide) q6)⟩, hRd⟩, ⟨_, ⟨(upw_o (by decide) q9), (upw_o (by decide) q10), (upw_o (by decide) q11)⟩, ⟨(upw_o (by decide) q7), (upw_o (by decide) q8)⟩, hO⟩, ⟨_, _, _, (upw_o (by decide) q12), (upw_o (by decide) q13), (upw_o (by decide) q14)⟩, ⟨_, (upw_o (by decide) q15)⟩, hbm, ⟨_, _, _, B, _, _, (upw_o (by decide) q16), (upw_o (by decide) q17), (upw_o (by decide) q18)⟩, ⟨⟨(upw_o (by decide) q19), (upw_o (by decide) q20), (upw_o (by decide) q21), (upw_o (by decide) q22)⟩, hMm⟩, ⟨⟨_, (upw_o (by decide) q23), s0, s1, s2, s3⟩, ⟨_, _, _, _, (upw_o (by decide) q24), (upw_o (by decide) q25), r0, d0⟩, ⟨_, _, _, _, (upw_o (by decide) q26), (upw_o (by decide) q27), r1, d1⟩, ⟨_, _, _, _, (upw_o (by decide) q28), (upw_o (by decide) q29), r2, d2⟩, ⟨_, _, _, _, (upw_o (by decide) q30), (upw_o (by decide) q31), r3, d3⟩⟩⟩, (fun k hk => upw_o (by omega) ((fun (k : Nat) (_ : 32 ≤ k) => rfl) k hk))⟩⟩))
      · refine gj_bipush dX8_sheet_20 rfl ?_
        exact gj_iret dX8_sheet_22 rfl (Or.inr (Or.inr ⟨by omega, rfl, rfl⟩))
set_option maxRecDepth 20000 in
set_option maxHeartbeats 4000000 in
theorem tSheetB {l : Launch} {x : Cx} {d : Nat} {w : AW} {tx : Int → Int} {by0 : Int} {ru fa fe : Int → Int} {fc lw br me : Int} {mh ml mw : Int → Int} {mn fi : Int} {fm ln : Int → Int} {it : Int → Int → Int} {s : Int} {f0 n1 : Int} (hd : 2 ≤ d) (hC : ClassC w tx by0 ru fa fe fc lw br me mh ml mw mn fi fm ln it) (hs : R32 s) (hf0 : R32 f0) (hn1 : R32 n1) (hs9 : ¬ (0 ≤ s ∧ s ≤ 3)) : Mt l x iX8_sheet d 0 0 50 w [vR 0, vI s, vI f0, vI n1] (fun v2 w2 => (((0 ≤ s ∧ s ≤ 3) ∧ (0 ≤ f0 ∧ f0 ≤ 2) ∧ n1 ≤ 60) ∧ 0 ≤ n1 ∧ v2 = some (vI n1) ∧ ClassC w2 tx by0 ru fa fe fc lw br me mh ml mw mn fi (upf fm s f0) (upf ln s n1) (upi it s (fun _ => 0)) ∧ ∀ k : Nat, 32 ≤ k → w2 k = w k) ∨ (((0 ≤ s ∧ s ≤ 3) ∧ (0 ≤ f0 ∧ f0 ≤ 2) ∧ n1 ≤ 60) ∧ ¬ 0 ≤ n1 ∧ v2 = some (vI (-15)) ∧ ClassC w2 tx by0 ru fa fe fc lw br me mh ml mw mn 5 fm ln it ∧ ∀ k : Nat, 32 ≤ k → w2 k = w k) ∨ (¬ ((0 ≤ s ∧ s ≤ 3) ∧ (0 ≤ f0 ∧ f0 ≤ 2) ∧ n1 ≤ 60) ∧ v2 = some (vI (-2)) ∧ w2 = w)) := by
  have hC0 := hC
  obtain ⟨q0, ⟨on, ot, ho, wy, nu, fl, ⟨q1, q2, q3, q4, q5, q6⟩, hRd⟩, ⟨fd, ⟨q9, q10, q11⟩, ⟨q7, q8⟩, hO⟩, ⟨la, be, ne, q12, q13, q14⟩, ⟨sl, q15⟩, hbm, ⟨go, st, bn, B, ra, rb, q16, q17, q18⟩, ⟨⟨q19, q20, q21, q22⟩, hMm⟩, hSh⟩ := hC
  have hW : WarC w fa (warB lw fa ru fe fc) := ⟨fe, ru, fc, fd, lw, ⟨q9, q10, q11⟩, ⟨q7, q8⟩, hO, rfl⟩
  have hE := hRd.ed
  have hM := hRd.mat
  obtain ⟨⟨sf, q23, s0, s1, s2, s3⟩, ⟨fo0, le0, lo0, g0, q24, q25, r0, d0⟩, ⟨fo1, le1, lo1, g1, q26, q27, r1, d1⟩, ⟨fo2, le2, lo2, g2, q28, q29, r2, d2⟩, ⟨fo3, le3, lo3, g3, q30, q31, r3, d3⟩⟩ := hSh
  refine Mt.of (L0 := [some (vR 0), some (vI s), some (vI f0), some (vI n1)]) rfl rfl rfl ?_
  refine gj_il1 dX8_sheet_0 ?_
  refine gj_cS1r dX8_sheet_1 mX8_120 hX8_isSheet (by omega) rfl (tX8_isSheet  (by omega) (by omega)) ?_
  refine gj_ifB_eq dX8_sheet_4 (fun h4 => ?_) (fun h4 => ?_)
  · refine gj_bipush dX8_sheet_20 rfl ?_
    exact gj_iret dX8_sheet_22 rfl (Or.inr (Or.inr ⟨by omega, rfl, rfl⟩))
  · exact absurd h4 hs9
theorem tSheet {l : Launch} {x : Cx} {d : Nat} {w : AW} {tx : Int → Int} {by0 : Int} {ru fa fe : Int → Int} {fc lw br me : Int} {mh ml mw : Int → Int} {mn fi : Int} {fm ln : Int → Int} {it : Int → Int → Int} {s : Int} {f0 n1 : Int} (hd : 2 ≤ d) (hC : ClassC w tx by0 ru fa fe fc lw br me mh ml mw mn fi fm ln it) (hs : R32 s) (hf0 : R32 f0) (hn1 : R32 n1) : Mt l x iX8_sheet d 0 0 50 w [vR 0, vI s, vI f0, vI n1] (fun v2 w2 => (((0 ≤ s ∧ s ≤ 3) ∧ (0 ≤ f0 ∧ f0 ≤ 2) ∧ n1 ≤ 60) ∧ 0 ≤ n1 ∧ v2 = some (vI n1) ∧ ClassC w2 tx by0 ru fa fe fc lw br me mh ml mw mn fi (upf fm s f0) (upf ln s n1) (upi it s (fun _ => 0)) ∧ ∀ k : Nat, 32 ≤ k → w2 k = w k) ∨ (((0 ≤ s ∧ s ≤ 3) ∧ (0 ≤ f0 ∧ f0 ≤ 2) ∧ n1 ≤ 60) ∧ ¬ 0 ≤ n1 ∧ v2 = some (vI (-15)) ∧ ClassC w2 tx by0 ru fa fe fc lw br me mh ml mw mn 5 fm ln it ∧ ∀ k : Nat, 32 ≤ k → w2 k = w k) ∨ (¬ ((0 ≤ s ∧ s ≤ 3) ∧ (0 ≤ f0 ∧ f0 ≤ 2) ∧ n1 ≤ 60) ∧ v2 = some (vI (-2)) ∧ w2 = w)) := by
  by_cases c : 0 ≤ s ∧ s ≤ 3
  · rcases (show s = 0 ∨ s = 1 ∨ s = 2 ∨ s = 3 by omega) with rfl | rfl | rfl | rfl
    · exact tSheet0 (by omega) hC hf0 hn1
    · exact tSheet1 (by omega) hC hf0 hn1
    · exact tSheet2 (by omega) hC hf0 hn1
    · exact tSheet3 (by omega) hC hf0 hn1
  · exact tSheetB (by omega) hC hs hf0 hn1 c
set_option maxRecDepth 20000 in
set_option maxHeartbeats 4000000 in
theorem tLose0 {l : Launch} {x : Cx} {d : Nat} {w : AW} {tx : Int → Int} {by0 : Int} {ru fa fe : Int → Int} {fc lw br me : Int} {mh ml mw : Int → Int} {mn fi : Int} {fm ln : Int → Int} {it : Int → Int → Int}  (hd : 2 ≤ d) (hC : ClassC w tx by0 ru fa fe fc lw br me mh ml mw mn fi fm ln it) : Mt l x iX8_lose d 0 0 50 w [vR 0, vI 0] (fun v2 w2 => ((0 ≤ (0 : Int) ∧ (0 : Int) ≤ 3) ∧ fm (0 : Int) ≠ -1 ∧ v2 = some (vI (ln (0 : Int))) ∧ ClassC w2 tx by0 ru fa fe fc lw br me mh ml mw mn fi (upf fm (0 : Int) (-1)) ln it ∧ ∀ k : Nat, 32 ≤ k → w2 k = w k) ∨ ((0 ≤ (0 : Int) ∧ (0 : Int) ≤ 3) ∧ fm (0 : Int) = -1 ∧ v2 = some (vI (-11)) ∧ ClassC w2 tx by0 ru fa fe fc lw br me mh ml mw mn 1 fm ln it ∧ ∀ k : Nat, 32 ≤ k → w2 k = w k) ∨ (¬ (0 ≤ (0 : Int) ∧ (0 : Int) ≤ 3) ∧ v2 = some (vI (-2)) ∧ w2 = w)) := by
  have hC0 := hC
  obtain ⟨q0, ⟨on, ot, ho, wy, nu, fl, ⟨q1, q2, q3, q4, q5, q6⟩, hRd⟩, ⟨fd, ⟨q9, q10, q11⟩, ⟨q7, q8⟩, hO⟩, ⟨la, be, ne, q12, q13, q14⟩, ⟨sl, q15⟩, hbm, ⟨go, st, bn, B, ra, rb, q16, q17, q18⟩, ⟨⟨q19, q20, q21, q22⟩, hMm⟩, hSh⟩ := hC
  have hW : WarC w fa (warB lw fa ru fe fc) := ⟨fe, ru, fc, fd, lw, ⟨q9, q10, q11⟩, ⟨q7, q8⟩, hO, rfl⟩
  have hE := hRd.ed
  have hM := hRd.mat
  obtain ⟨⟨sf, q23, s0, s1, s2, s3⟩, ⟨fo0, le0, lo0, g0, q24, q25, r0, d0⟩, ⟨fo1, le1, lo1, g1, q26, q27, r1, d1⟩, ⟨fo2, le2, lo2, g2, q28, q29, r2, d2⟩, ⟨fo3, le3, lo3, g3, q30, q31, r3, d3⟩⟩ := hSh
  refine Mt.of (L0 := [some (vR 0), some (vI 0)]) rfl rfl rfl ?_
  refine gj_il1 dX8_lose_0 ?_
  refine gj_cS1r dX8_lose_1 mX8_120 hX8_isSheet (by omega) rfl (tX8_isSheet  (by omega) (by omega)) ?_
  refine gj_ifB_ne dX8_lose_4 (fun h4 => ?_) (fun h4 => ?_)
  · refine gj_al0 dX8_lose_10 ?_
    refine gj_get dX8_lose_11 fX8_66 q0 rfl rfl ?_
    refine gj_il1 dX8_lose_14 ?_
    refine gj_aald dX8_lose_15 q23 rfl rfl (by omega) s0 ?_
    refine gj_get dX8_lose_16 fX8_123 q24 rfl rfl ?_
    refine gj_if_eq dX8_lose_19 (by omega) (fun h19 => ?_) (fun h19 => ?_)
    · obtain ⟨e0, y0, m0, n0, t0, v0⟩ : lo0 = 0 ∧ fm 0 = fo0 ∧ (0 ≤ fo0 ∧ fo0 ≤ 2) ∧ ln 0 = le0 ∧ (0 ≤ le0 ∧ le0 ≤ 60) ∧ ∀ j : Int, 0 ≤ j → j < le0 → g0 j = it 0 j ∧ R32 (g0 j) := d0.resolve_left (fun z => absurd z.1 (by omega))
      refine gj_al0 dX8_lose_28 ?_
      refine gj_get dX8_lose_29 fX8_66 q0 rfl rfl ?_
      refine gj_il1 dX8_lose_32 ?_
      refine gj_aald dX8_lose_33 q23 rfl rfl (by omega) s0 ?_
      refine gj_iconst dX8_lose_34 ?_
      refine gj_pZ3 (Or.inr rfl) dX8_lose_35 fX8_123 q24 rfl ?_
      refine gj_al0 dX8_lose_38 ?_
      refine gj_get dX8_lose_39 fX8_66 (upw_o (by decide) q0) rfl rfl ?_
      refine gj_il1 dX8_lose_42 ?_
      refine gj_aald dX8_lose_43 (upw_o (by decide) q23) rfl rfl (by omega) s0 ?_
      refine gj_get dX8_lose_44 fX8_130 upw_s rfl rfl ?_
      exact gj_iret dX8_lose_47 rfl (Or.inl ⟨by omega, by omega, by rw [n0], ⟨⟨(upw_o (by decide) q0), ⟨_, _, _, _, _, _, ⟨(upw_o (by decide) q1), (upw_o (by decide) q2), (upw_o (by decide) q3), (upw_o (by decide) q4), (upw_o (by decide) q5), (upw_o (by decide) q6)⟩, hRd⟩, ⟨_, ⟨(upw_o (by decide) q9), (upw_o (by decide) q10), (upw_o (by decide) q11)⟩, ⟨(upw_o (by decide) q7), (upw_o (by decide) q8)⟩, hO⟩, ⟨_, _, _, (upw_o (by decide) q12), (upw_o (by decide) q13), (upw_o (by decide) q14)⟩, ⟨_, (upw_o (by decide) q15)⟩, hbm, ⟨_, _, _, B, _, _, (upw_o (by decide) q16), (upw_o (by decide) q17), (upw_o (by decide) q18)⟩, ⟨⟨(upw_o (by decide) q19), (upw_o (by decide) q20), (upw_o (by decide) q21), (upw_o (by decide) q22)⟩, hMm⟩, ⟨⟨_, (upw_o (by decide) q23), s0, s1, s2, s3⟩, ⟨_, _, _, _, upw_s, (upw_o (by decide) q25), r0, Or.inl ⟨rfl, rfl⟩⟩, ⟨_, _, _, _, (upw_o (by decide) q26), (upw_o (by decide) q27), r1, d1⟩, ⟨_, _, _, _, (upw_o (by decide) q28), (upw_o (by decide) q29), r2, d2⟩, ⟨_, _, _, _, (upw_o (by decide) q30), (upw_o (by decide) q31), r3, d3⟩⟩⟩, (fun k hk => upw_o (by omega) ((fun (k : Nat) (_ : 32 ≤ k) => rfl) k hk))⟩⟩)
    · have e0 : lo0 = 1 ∧ fm 0 = -1 := d0.resolve_right (fun z => absurd z.1 (by omega))
      refine gj_al0 dX8_lose_22 ?_
      refine gj_iconst dX8_lose_23 ?_
      refine gj_cV1w dX8_lose_24 mX8_127 hX8_found q0 rfl (by omega) rfl (tX8_found  (by omega) q0) (fun w24 P24 => ?_)
      obtain rfl := P24
      exact gj_iret dX8_lose_27 rfl (Or.inr (Or.inl ⟨by omega, e0.2, rfl, ⟨⟨upw_s, ⟨_, _, _, _, _, _, ⟨(upw_o (by decide) q1), (upw_o (by decide) q2), (upw_o (by decide) q3), (upw_o (by decide) q4), (upw_o (by decide) q5), (upw_o (by decide) q6)⟩, hRd⟩, ⟨_, ⟨(upw_o (by decide) q9), (upw_o (by decide) q10), (upw_o (by decide) q11)⟩, ⟨(upw_o (by decide) q7), (upw_o (by decide) q8)⟩, hO⟩, ⟨_, _, _, (upw_o (by decide) q12), (upw_o (by decide) q13), (upw_o (by decide) q14)⟩, ⟨_, (upw_o (by decide) q15)⟩, hbm, ⟨_, _, _, B, _, _, (upw_o (by decide) q16), (upw_o (by decide) q17), (upw_o (by decide) q18)⟩, ⟨⟨(upw_o (by decide) q19), (upw_o (by decide) q20), (upw_o (by decide) q21), (upw_o (by decide) q22)⟩, hMm⟩, ⟨⟨_, (upw_o (by decide) q23), s0, s1, s2, s3⟩, ⟨_, _, _, _, (upw_o (by decide) q24), (upw_o (by decide) q25), r0, d0⟩, ⟨_, _, _, _, (upw_o (by decide) q26), (upw_o (by decide) q27), r1, d1⟩, ⟨_, _, _, _, (upw_o (by decide) q28), (upw_o (by decide) q29), r2, d2⟩, ⟨_, _, _, _, (upw_o (by decide) q30), (upw_o (by decide) q31), r3, d3⟩⟩⟩, (fun k hk => upw_o (by omega) ((fun (k : Nat) (_ : 32 ≤ k) => rfl) k hk))⟩⟩))
  · exact absurd (by omega) h4
set_option maxRecDepth 20000 in
set_option maxHeartbeats 4000000 in
theorem tLose1 {l : Launch} {x : Cx} {d : Nat} {w : AW} {tx : Int → Int} {by0 : Int} {ru fa fe : Int → Int} {fc lw br me : Int} {mh ml mw : Int → Int} {mn fi : Int} {fm ln : Int → Int} {it : Int → Int → Int}  (hd : 2 ≤ d) (hC : ClassC w tx by0 ru fa fe fc lw br me mh ml mw mn fi fm ln it) : Mt l x iX8_lose d 0 0 50 w [vR 0, vI 1] (fun v2 w2 => ((0 ≤ (1 : Int) ∧ (1 : Int) ≤ 3) ∧ fm (1 : Int) ≠ -1 ∧ v2 = some (vI (ln (1 : Int))) ∧ ClassC w2 tx by0 ru fa fe fc lw br me mh ml mw mn fi (upf fm (1 : Int) (-1)) ln it ∧ ∀ k : Nat, 32 ≤ k → w2 k = w k) ∨ ((0 ≤ (1 : Int) ∧ (1 : Int) ≤ 3) ∧ fm (1 : Int) = -1 ∧ v2 = some (vI (-11)) ∧ ClassC w2 tx by0 ru fa fe fc lw br me mh ml mw mn 1 fm ln it ∧ ∀ k : Nat, 32 ≤ k → w2 k = w k) ∨ (¬ (0 ≤ (1 : Int) ∧ (1 : Int) ≤ 3) ∧ v2 = some (vI (-2)) ∧ w2 = w)) := by
  have hC0 := hC
  obtain ⟨q0, ⟨on, ot, ho, wy, nu, fl, ⟨q1, q2, q3, q4, q5, q6⟩, hRd⟩, ⟨fd, ⟨q9, q10, q11⟩, ⟨q7, q8⟩, hO⟩, ⟨la, be, ne, q12, q13, q14⟩, ⟨sl, q15⟩, hbm, ⟨go, st, bn, B, ra, rb, q16, q17, q18⟩, ⟨⟨q19, q20, q21, q22⟩, hMm⟩, hSh⟩ := hC
  have hW : WarC w fa (warB lw fa ru fe fc) := ⟨fe, ru, fc, fd, lw, ⟨q9, q10, q11⟩, ⟨q7, q8⟩, hO, rfl⟩
  have hE := hRd.ed
  have hM := hRd.mat
  obtain ⟨⟨sf, q23, s0, s1, s2, s3⟩, ⟨fo0, le0, lo0, g0, q24, q25, r0, d0⟩, ⟨fo1, le1, lo1, g1, q26, q27, r1, d1⟩, ⟨fo2, le2, lo2, g2, q28, q29, r2, d2⟩, ⟨fo3, le3, lo3, g3, q30, q31, r3, d3⟩⟩ := hSh
  refine Mt.of (L0 := [some (vR 0), some (vI 1)]) rfl rfl rfl ?_
  refine gj_il1 dX8_lose_0 ?_
  refine gj_cS1r dX8_lose_1 mX8_120 hX8_isSheet (by omega) rfl (tX8_isSheet  (by omega) (by omega)) ?_
  refine gj_ifB_ne dX8_lose_4 (fun h4 => ?_) (fun h4 => ?_)
  · refine gj_al0 dX8_lose_10 ?_
    refine gj_get dX8_lose_11 fX8_66 q0 rfl rfl ?_
    refine gj_il1 dX8_lose_14 ?_
    refine gj_aald dX8_lose_15 q23 rfl rfl (by omega) s1 ?_
    refine gj_get dX8_lose_16 fX8_123 q26 rfl rfl ?_
    refine gj_if_eq dX8_lose_19 (by omega) (fun h19 => ?_) (fun h19 => ?_)
    · obtain ⟨e1, y1, m1, n1, t1, v1⟩ : lo1 = 0 ∧ fm 1 = fo1 ∧ (0 ≤ fo1 ∧ fo1 ≤ 2) ∧ ln 1 = le1 ∧ (0 ≤ le1 ∧ le1 ≤ 60) ∧ ∀ j : Int, 0 ≤ j → j < le1 → g1 j = it 1 j ∧ R32 (g1 j) := d1.resolve_left (fun z => absurd z.1 (by omega))
      refine gj_al0 dX8_lose_28 ?_
      refine gj_get dX8_lose_29 fX8_66 q0 rfl rfl ?_
      refine gj_il1 dX8_lose_32 ?_
      refine gj_aald dX8_lose_33 q23 rfl rfl (by omega) s1 ?_
      refine gj_iconst dX8_lose_34 ?_
      refine gj_pZ3 (Or.inr rfl) dX8_lose_35 fX8_123 q26 rfl ?_
      refine gj_al0 dX8_lose_38 ?_
      refine gj_get dX8_lose_39 fX8_66 (upw_o (by decide) q0) rfl rfl ?_
      refine gj_il1 dX8_lose_42 ?_
      refine gj_aald dX8_lose_43 (upw_o (by decide) q23) rfl rfl (by omega) s1 ?_
      refine gj_get dX8_lose_44 fX8_130 upw_s rfl rfl ?_
      exact gj_iret dX8_lose_47 rfl (Or.inl ⟨by omega, by omega, by rw [n1], ⟨⟨(upw_o (by decide) q0), ⟨_, _, _, _, _, _, ⟨(upw_o (by decide) q1), (upw_o (by decide) q2), (upw_o (by decide) q3), (upw_o (by decide) q4), (upw_o (by decide) q5), (upw_o (by decide) q6)⟩, hRd⟩, ⟨_, ⟨(upw_o (by decide) q9), (upw_o (by decide) q10), (upw_o (by decide) q11)⟩, ⟨(upw_o (by decide) q7), (upw_o (by decide) q8)⟩, hO⟩, ⟨_, _, _, (upw_o (by decide) q12), (upw_o (by decide) q13), (upw_o (by decide) q14)⟩, ⟨_, (upw_o (by decide) q15)⟩, hbm, ⟨_, _, _, B, _, _, (upw_o (by decide) q16), (upw_o (by decide) q17), (upw_o (by decide) q18)⟩, ⟨⟨(upw_o (by decide) q19), (upw_o (by decide) q20), (upw_o (by decide) q21), (upw_o (by decide) q22)⟩, hMm⟩, ⟨⟨_, (upw_o (by decide) q23), s0, s1, s2, s3⟩, ⟨_, _, _, _, (upw_o (by decide) q24), (upw_o (by decide) q25), r0, d0⟩, ⟨_, _, _, _, upw_s, (upw_o (by decide) q27), r1, Or.inl ⟨rfl, rfl⟩⟩, ⟨_, _, _, _, (upw_o (by decide) q28), (upw_o (by decide) q29), r2, d2⟩, ⟨_, _, _, _, (upw_o (by decide) q30), (upw_o (by decide) q31), r3, d3⟩⟩⟩, (fun k hk => upw_o (by omega) ((fun (k : Nat) (_ : 32 ≤ k) => rfl) k hk))⟩⟩)
    · have e1 : lo1 = 1 ∧ fm 1 = -1 := d1.resolve_right (fun z => absurd z.1 (by omega))
      refine gj_al0 dX8_lose_22 ?_
      refine gj_iconst dX8_lose_23 ?_
      refine gj_cV1w dX8_lose_24 mX8_127 hX8_found q0 rfl (by omega) rfl (tX8_found  (by omega) q0) (fun w24 P24 => ?_)
      obtain rfl := P24
      exact gj_iret dX8_lose_27 rfl (Or.inr (Or.inl ⟨by omega, e1.2, rfl, ⟨⟨upw_s, ⟨_, _, _, _, _, _, ⟨(upw_o (by decide) q1), (upw_o (by decide) q2), (upw_o (by decide) q3), (upw_o (by decide) q4), (upw_o (by decide) q5), (upw_o (by decide) q6)⟩, hRd⟩, ⟨_, ⟨(upw_o (by decide) q9), (upw_o (by decide) q10), (upw_o (by decide) q11)⟩, ⟨(upw_o (by decide) q7), (upw_o (by decide) q8)⟩, hO⟩, ⟨_, _, _, (upw_o (by decide) q12), (upw_o (by decide) q13), (upw_o (by decide) q14)⟩, ⟨_, (upw_o (by decide) q15)⟩, hbm, ⟨_, _, _, B, _, _, (upw_o (by decide) q16), (upw_o (by decide) q17), (upw_o (by decide) q18)⟩, ⟨⟨(upw_o (by decide) q19), (upw_o (by decide) q20), (upw_o (by decide) q21), (upw_o (by decide) q22)⟩, hMm⟩, ⟨⟨_, (upw_o (by decide) q23), s0, s1, s2, s3⟩, ⟨_, _, _, _, (upw_o (by decide) q24), (upw_o (by decide) q25), r0, d0⟩, ⟨_, _, _, _, (upw_o (by decide) q26), (upw_o (by decide) q27), r1, d1⟩, ⟨_, _, _, _, (upw_o (by decide) q28), (upw_o (by decide) q29), r2, d2⟩, ⟨_, _, _, _, (upw_o (by decide) q30), (upw_o (by decide) q31), r3, d3⟩⟩⟩, (fun k hk => upw_o (by omega) ((fun (k : Nat) (_ : 32 ≤ k) => rfl) k hk))⟩⟩))
  · exact absurd (by omega) h4
set_option maxRecDepth 20000 in
set_option maxHeartbeats 4000000 in
theorem tLose2 {l : Launch} {x : Cx} {d : Nat} {w : AW} {tx : Int → Int} {by0 : Int} {ru fa fe : Int → Int} {fc lw br me : Int} {mh ml mw : Int → Int} {mn fi : Int} {fm ln : Int → Int} {it : Int → Int → Int}  (hd : 2 ≤ d) (hC : ClassC w tx by0 ru fa fe fc lw br me mh ml mw mn fi fm ln it) : Mt l x iX8_lose d 0 0 50 w [vR 0, vI 2] (fun v2 w2 => ((0 ≤ (2 : Int) ∧ (2 : Int) ≤ 3) ∧ fm (2 : Int) ≠ -1 ∧ v2 = some (vI (ln (2 : Int))) ∧ ClassC w2 tx by0 ru fa fe fc lw br me mh ml mw mn fi (upf fm (2 : Int) (-1)) ln it ∧ ∀ k : Nat, 32 ≤ k → w2 k = w k) ∨ ((0 ≤ (2 : Int) ∧ (2 : Int) ≤ 3) ∧ fm (2 : Int) = -1 ∧ v2 = some (vI (-11)) ∧ ClassC w2 tx by0 ru fa fe fc lw br me mh ml mw mn 1 fm ln it ∧ ∀ k : Nat, 32 ≤ k → w2 k = w k) ∨ (¬ (0 ≤ (2 : Int) ∧ (2 : Int) ≤ 3) ∧ v2 = some (vI (-2)) ∧ w2 = w)) := by
  have hC0 := hC
  obtain ⟨q0, ⟨on, ot, ho, wy, nu, fl, ⟨q1, q2, q3, q4, q5, q6⟩, hRd⟩, ⟨fd, ⟨q9, q10, q11⟩, ⟨q7, q8⟩, hO⟩, ⟨la, be, ne, q12, q13, q14⟩, ⟨sl, q15⟩, hbm, ⟨go, st, bn, B, ra, rb, q16, q17, q18⟩, ⟨⟨q19, q20, q21, q22⟩, hMm⟩, hSh⟩ := hC
  have hW : WarC w fa (warB lw fa ru fe fc) := ⟨fe, ru, fc, fd, lw, ⟨q9, q10, q11⟩, ⟨q7, q8⟩, hO, rfl⟩
  have hE := hRd.ed
  have hM := hRd.mat
  obtain ⟨⟨sf, q23, s0, s1, s2, s3⟩, ⟨fo0, le0, lo0, g0, q24, q25, r0, d0⟩, ⟨fo1, le1, lo1, g1, q26, q27, r1, d1⟩, ⟨fo2, le2, lo2, g2, q28, q29, r2, d2⟩, ⟨fo3, le3, lo3, g3, q30, q31, r3, d3⟩⟩ := hSh
  refine Mt.of (L0 := [some (vR 0), some (vI 2)]) rfl rfl rfl ?_
  refine gj_il1 dX8_lose_0 ?_
  refine gj_cS1r dX8_lose_1 mX8_120 hX8_isSheet (by omega) rfl (tX8_isSheet  (by omega) (by omega)) ?_
  refine gj_ifB_ne dX8_lose_4 (fun h4 => ?_) (fun h4 => ?_)
  · refine gj_al0 dX8_lose_10 ?_
    refine gj_get dX8_lose_11 fX8_66 q0 rfl rfl ?_
    refine gj_il1 dX8_lose_14 ?_
    refine gj_aald dX8_lose_15 q23 rfl rfl (by omega) s2 ?_
    refine gj_get dX8_lose_16 fX8_123 q28 rfl rfl ?_
    refine gj_if_eq dX8_lose_19 (by omega) (fun h19 => ?_) (fun h19 => ?_)
    · obtain ⟨e2, y2, m2, n2, t2, v2⟩ : lo2 = 0 ∧ fm 2 = fo2 ∧ (0 ≤ fo2 ∧ fo2 ≤ 2) ∧ ln 2 = le2 ∧ (0 ≤ le2 ∧ le2 ≤ 60) ∧ ∀ j : Int, 0 ≤ j → j < le2 → g2 j = it 2 j ∧ R32 (g2 j) := d2.resolve_left (fun z => absurd z.1 (by omega))
      refine gj_al0 dX8_lose_28 ?_
      refine gj_get dX8_lose_29 fX8_66 q0 rfl rfl ?_
      refine gj_il1 dX8_lose_32 ?_
      refine gj_aald dX8_lose_33 q23 rfl rfl (by omega) s2 ?_
      refine gj_iconst dX8_lose_34 ?_
      refine gj_pZ3 (Or.inr rfl) dX8_lose_35 fX8_123 q28 rfl ?_
      refine gj_al0 dX8_lose_38 ?_
      refine gj_get dX8_lose_39 fX8_66 (upw_o (by decide) q0) rfl rfl ?_
      refine gj_il1 dX8_lose_42 ?_
      refine gj_aald dX8_lose_43 (upw_o (by decide) q23) rfl rfl (by omega) s2 ?_
      refine gj_get dX8_lose_44 fX8_130 upw_s rfl rfl ?_
      exact gj_iret dX8_lose_47 rfl (Or.inl ⟨by omega, by omega, by rw [n2], ⟨⟨(upw_o (by decide) q0), ⟨_, _, _, _, _, _, ⟨(upw_o (by decide) q1), (upw_o (by decide) q2), (upw_o (by decide) q3), (upw_o (by decide) q4), (upw_o (by decide) q5), (upw_o (by decide) q6)⟩, hRd⟩, ⟨_, ⟨(upw_o (by decide) q9), (upw_o (by decide) q10), (upw_o (by decide) q11)⟩, ⟨(upw_o (by decide) q7), (upw_o (by decide) q8)⟩, hO⟩, ⟨_, _, _, (upw_o (by decide) q12), (upw_o (by decide) q13), (upw_o (by decide) q14)⟩, ⟨_, (upw_o (by decide) q15)⟩, hbm, ⟨_, _, _, B, _, _, (upw_o (by decide) q16), (upw_o (by decide) q17), (upw_o (by decide) q18)⟩, ⟨⟨(upw_o (by decide) q19), (upw_o (by decide) q20), (upw_o (by decide) q21), (upw_o (by decide) q22)⟩, hMm⟩, ⟨⟨_, (upw_o (by decide) q23), s0, s1, s2, s3⟩, ⟨_, _, _, _, (upw_o (by decide) q24), (upw_o (by decide) q25), r0, d0⟩, ⟨_, _, _, _, (upw_o (by decide) q26), (upw_o (by decide) q27), r1, d1⟩, ⟨_, _, _, _, upw_s, (upw_o (by decide) q29), r2, Or.inl ⟨rfl, rfl⟩⟩, ⟨_, _, _, _, (upw_o (by decide) q30), (upw_o (by decide) q31), r3, d3⟩⟩⟩, (fun k hk => upw_o (by omega) ((fun (k : Nat) (_ : 32 ≤ k) => rfl) k hk))⟩⟩)
    · have e2 : lo2 = 1 ∧ fm 2 = -1 := d2.resolve_right (fun z => absurd z.1 (by omega))
      refine gj_al0 dX8_lose_22 ?_
      refine gj_iconst dX8_lose_23 ?_
      refine gj_cV1w dX8_lose_24 mX8_127 hX8_found q0 rfl (by omega) rfl (tX8_found  (by omega) q0) (fun w24 P24 => ?_)
      obtain rfl := P24
      exact gj_iret dX8_lose_27 rfl (Or.inr (Or.inl ⟨by omega, e2.2, rfl, ⟨⟨upw_s, ⟨_, _, _, _, _, _, ⟨(upw_o (by decide) q1), (upw_o (by decide) q2), (upw_o (by decide) q3), (upw_o (by decide) q4), (upw_o (by decide) q5), (upw_o (by decide) q6)⟩, hRd⟩, ⟨_, ⟨(upw_o (by decide) q9), (upw_o (by decide) q10), (upw_o (by decide) q11)⟩, ⟨(upw_o (by decide) q7), (upw_o (by decide) q8)⟩, hO⟩, ⟨_, _, _, (upw_o (by decide) q12), (upw_o (by decide) q13), (upw_o (by decide) q14)⟩, ⟨_, (upw_o (by decide) q15)⟩, hbm, ⟨_, _, _, B, _, _, (upw_o (by decide) q16), (upw_o (by decide) q17), (upw_o (by decide) q18)⟩, ⟨⟨(upw_o (by decide) q19), (upw_o (by decide) q20), (upw_o (by decide) q21), (upw_o (by decide) q22)⟩, hMm⟩, ⟨⟨_, (upw_o (by decide) q23), s0, s1, s2, s3⟩, ⟨_, _, _, _, (upw_o (by decide) q24), (upw_o (by decide) q25), r0, d0⟩, ⟨_, _, _, _, (upw_o (by decide) q26), (upw_o (by decide) q27), r1, d1⟩, ⟨_, _, _, _, (upw_o (by decide) q28), (upw_o (by decide) q29), r2, d2⟩, ⟨_, _, _, _, (upw_o (by decide) q30), (upw_o (by decide) q31), r3, d3⟩⟩⟩, (fun k hk => upw_o (by omega) ((fun (k : Nat) (_ : 32 ≤ k) => rfl) k hk))⟩⟩))
  · exact absurd (by omega) h4
set_option maxRecDepth 20000 in
set_option maxHeartbeats 4000000 in
theorem tLose3 {l : Launch} {x : Cx} {d : Nat} {w : AW} {tx : Int → Int} {by0 : Int} {ru fa fe : Int → Int} {fc lw br me : Int} {mh ml mw : Int → Int} {mn fi : Int} {fm ln : Int → Int} {it : Int → Int → Int}  (hd : 2 ≤ d) (hC : ClassC w tx by0 ru fa fe fc lw br me mh ml mw mn fi fm ln it) : Mt l x iX8_lose d 0 0 50 w [vR 0, vI 3] (fun v2 w2 => ((0 ≤ (3 : Int) ∧ (3 : Int) ≤ 3) ∧ fm (3 : Int) ≠ -1 ∧ v2 = some (vI (ln (3 : Int))) ∧ ClassC w2 tx by0 ru fa fe fc lw br me mh ml mw mn fi (upf fm (3 : Int) (-1)) ln it ∧ ∀ k : Nat, 32 ≤ k → w2 k = w k) ∨ ((0 ≤ (3 : Int) ∧ (3 : Int) ≤ 3) ∧ fm (3 : Int) = -1 ∧ v2 = some (vI (-11)) ∧ ClassC w2 tx by0 ru fa fe fc lw br me mh ml mw mn 1 fm ln it ∧ ∀ k : Nat, 32 ≤ k → w2 k = w k) ∨ (¬ (0 ≤ (3 : Int) ∧ (3 : Int) ≤ 3) ∧ v2 = some (vI (-2)) ∧ w2 = w)) := by
  have hC0 := hC
  obtain ⟨q0, ⟨on, ot, ho, wy, nu, fl, ⟨q1, q2, q3, q4, q5, q6⟩, hRd⟩, ⟨fd, ⟨q9, q10, q11⟩, ⟨q7, q8⟩, hO⟩, ⟨la, be, ne, q12, q13, q14⟩, ⟨sl, q15⟩, hbm, ⟨go, st, bn, B, ra, rb, q16, q17, q18⟩, ⟨⟨q19, q20, q21, q22⟩, hMm⟩, hSh⟩ := hC
  have hW : WarC w fa (warB lw fa ru fe fc) := ⟨fe, ru, fc, fd, lw, ⟨q9, q10, q11⟩, ⟨q7, q8⟩, hO, rfl⟩
  have hE := hRd.ed
  have hM := hRd.mat
  obtain ⟨⟨sf, q23, s0, s1, s2, s3⟩, ⟨fo0, le0, lo0, g0, q24, q25, r0, d0⟩, ⟨fo1, le1, lo1, g1, q26, q27, r1, d1⟩, ⟨fo2, le2, lo2, g2, q28, q29, r2, d2⟩, ⟨fo3, le3, lo3, g3, q30, q31, r3, d3⟩⟩ := hSh
  refine Mt.of (L0 := [some (vR 0), some (vI 3)]) rfl rfl rfl ?_
  refine gj_il1 dX8_lose_0 ?_
  refine gj_cS1r dX8_lose_1 mX8_120 hX8_isSheet (by omega) rfl (tX8_isSheet  (by omega) (by omega)) ?_
  refine gj_ifB_ne dX8_lose_4 (fun h4 => ?_) (fun h4 => ?_)
  · refine gj_al0 dX8_lose_10 ?_
    refine gj_get dX8_lose_11 fX8_66 q0 rfl rfl ?_
    refine gj_il1 dX8_lose_14 ?_
    refine gj_aald dX8_lose_15 q23 rfl rfl (by omega) s3 ?_
    refine gj_get dX8_lose_16 fX8_123 q30 rfl rfl ?_
    refine gj_if_eq dX8_lose_19 (by omega) (fun h19 => ?_) (fun h19 => ?_)
    · obtain ⟨e3, y3, m3, n3, t3, v3⟩ : lo3 = 0 ∧ fm 3 = fo3 ∧ (0 ≤ fo3 ∧ fo3 ≤ 2) ∧ ln 3 = le3 ∧ (0 ≤ le3 ∧ le3 ≤ 60) ∧ ∀ j : Int, 0 ≤ j → j < le3 → g3 j = it 3 j ∧ R32 (g3 j) := d3.resolve_left (fun z => absurd z.1 (by omega))
      refine gj_al0 dX8_lose_28 ?_
      refine gj_get dX8_lose_29 fX8_66 q0 rfl rfl ?_
      refine gj_il1 dX8_lose_32 ?_
      refine gj_aald dX8_lose_33 q23 rfl rfl (by omega) s3 ?_
      refine gj_iconst dX8_lose_34 ?_
      refine gj_pZ3 (Or.inr rfl) dX8_lose_35 fX8_123 q30 rfl ?_
      refine gj_al0 dX8_lose_38 ?_
      refine gj_get dX8_lose_39 fX8_66 (upw_o (by decide) q0) rfl rfl ?_
      refine gj_il1 dX8_lose_42 ?_
      refine gj_aald dX8_lose_43 (upw_o (by decide) q23) rfl rfl (by omega) s3 ?_
      refine gj_get dX8_lose_44 fX8_130 upw_s rfl rfl ?_
      exact gj_iret dX8_lose_47 rfl (Or.inl ⟨by omega, by omega, by rw [n3], ⟨⟨(upw_o (by decide) q0), ⟨_, _, _, _, _, _, ⟨(upw_o (by decide) q1), (upw_o (by decide) q2), (upw_o (by decide) q3), (upw_o (by decide) q4), (upw_o (by decide) q5), (upw_o (by decide) q6)⟩, hRd⟩, ⟨_, ⟨(upw_o (by decide) q9), (upw_o (by decide) q10), (upw_o (by decide) q11)⟩, ⟨(upw_o (by decide) q7), (upw_o (by decide) q8)⟩, hO⟩, ⟨_, _, _, (upw_o (by decide) q12), (upw_o (by decide) q13), (upw_o (by decide) q14)⟩, ⟨_, (upw_o (by decide) q15)⟩, hbm, ⟨_, _, _, B, _, _, (upw_o (by decide) q16), (upw_o (by decide) q17), (upw_o (by decide) q18)⟩, ⟨⟨(upw_o (by decide) q19), (upw_o (by decide) q20), (upw_o (by decide) q21), (upw_o (by decide) q22)⟩, hMm⟩, ⟨⟨_, (upw_o (by decide) q23), s0, s1, s2, s3⟩, ⟨_, _, _, _, (upw_o (by decide) q24), (upw_o (by decide) q25), r0, d0⟩, ⟨_, _, _, _, (upw_o (by decide) q26), (upw_o (by decide) q27), r1, d1⟩, ⟨_, _, _, _, (upw_o (by decide) q28), (upw_o (by decide) q29), r2, d2⟩, ⟨_, _, _, _, upw_s, (upw_o (by decide) q31), r3, Or.inl ⟨rfl, rfl⟩⟩⟩⟩, (fun k hk => upw_o (by omega) ((fun (k : Nat) (_ : 32 ≤ k) => rfl) k hk))⟩⟩)
    · have e3 : lo3 = 1 ∧ fm 3 = -1 := d3.resolve_right (fun z => absurd z.1 (by omega))
      refine gj_al0 dX8_lose_22 ?_
      refine gj_iconst dX8_lose_23 ?_
      refine gj_cV1w dX8_lose_24 mX8_127 hX8_found q0 rfl (by omega) rfl (tX8_found  (by omega) q0) (fun w24 P24 => ?_)
      obtain rfl := P24
      exact gj_iret dX8_lose_27 rfl (Or.inr (Or.inl ⟨by omega, e3.2, rfl, ⟨⟨upw_s, ⟨_, _, _, _, _, _, ⟨(upw_o (by decide) q1), (upw_o (by decide) q2), (upw_o (by decide) q3), (upw_o (by decide) q4), (upw_o (by decide) q5), (upw_o (by decide) q6)⟩, hRd⟩, ⟨_, ⟨(upw_o (by decide) q9), (upw_o (by decide) q10), (upw_o (by decide) q11)⟩, ⟨(upw_o (by decide) q7), (upw_o (by decide) q8)⟩, hO⟩, ⟨_, _, _, (upw_o (by decide) q12), (upw_o (by decide) q13), (upw_o (by decide) q14)⟩, ⟨_, (upw_o (by decide) q15)⟩, hbm, ⟨_, _, _, B, _, _, (upw_o (by decide) q16), (upw_o (by decide) q17), (upw_o (by decide) q18)⟩, ⟨⟨(upw_o (by decide) q19), (upw_o (by decide) q20), (upw_o (by decide) q21), (upw_o (by decide) q22)⟩, hMm⟩, ⟨⟨_, (upw_o (by decide) q23), s0, s1, s2, s3⟩, ⟨_, _, _, _, (upw_o (by decide) q24), (upw_o (by decide) q25), r0, d0⟩, ⟨_, _, _, _, (upw_o (by decide) q26), (upw_o (by decide) q27), r1, d1⟩, ⟨_, _, _, _, (upw_o (by decide) q28), (upw_o (by decide) q29), r2, d2⟩, ⟨_, _, _, _, (upw_o (by decide) q30), (upw_o (by decide) q31), r3, d3⟩⟩⟩, (fun k hk => upw_o (by omega) ((fun (k : Nat) (_ : 32 ≤ k) => rfl) k hk))⟩⟩))
  · exact absurd (by omega) h4
set_option maxRecDepth 20000 in
set_option maxHeartbeats 4000000 in
theorem tLoseB {l : Launch} {x : Cx} {d : Nat} {w : AW} {tx : Int → Int} {by0 : Int} {ru fa fe : Int → Int} {fc lw br me : Int} {mh ml mw : Int → Int} {mn fi : Int} {fm ln : Int → Int} {it : Int → Int → Int} {s : Int}  (hd : 2 ≤ d) (hC : ClassC w tx by0 ru fa fe fc lw br me mh ml mw mn fi fm ln it) (hs : R32 s) (hs9 : ¬ (0 ≤ s ∧ s ≤ 3)) : Mt l x iX8_lose d 0 0 50 w [vR 0, vI s] (fun v2 w2 => ((0 ≤ s ∧ s ≤ 3) ∧ fm s ≠ -1 ∧ v2 = some (vI (ln s)) ∧ ClassC w2 tx by0 ru fa fe fc lw br me mh ml mw mn fi (upf fm s (-1)) ln it ∧ ∀ k : Nat, 32 ≤ k → w2 k = w k) ∨ ((0 ≤ s ∧ s ≤ 3) ∧ fm s = -1 ∧ v2 = some (vI (-11)) ∧ ClassC w2 tx by0 ru fa fe fc lw br me mh ml mw mn 1 fm ln it ∧ ∀ k : Nat, 32 ≤ k → w2 k = w k) ∨ (¬ (0 ≤ s ∧ s ≤ 3) ∧ v2 = some (vI (-2)) ∧ w2 = w)) := by
  have hC0 := hC
  obtain ⟨q0, ⟨on, ot, ho, wy, nu, fl, ⟨q1, q2, q3, q4, q5, q6⟩, hRd⟩, ⟨fd, ⟨q9, q10, q11⟩, ⟨q7, q8⟩, hO⟩, ⟨la, be, ne, q12, q13, q14⟩, ⟨sl, q15⟩, hbm, ⟨go, st, bn, B, ra, rb, q16, q17, q18⟩, ⟨⟨q19, q20, q21, q22⟩, hMm⟩, hSh⟩ := hC
  have hW : WarC w fa (warB lw fa ru fe fc) := ⟨fe, ru, fc, fd, lw, ⟨q9, q10, q11⟩, ⟨q7, q8⟩, hO, rfl⟩
  have hE := hRd.ed
  have hM := hRd.mat
  obtain ⟨⟨sf, q23, s0, s1, s2, s3⟩, ⟨fo0, le0, lo0, g0, q24, q25, r0, d0⟩, ⟨fo1, le1, lo1, g1, q26, q27, r1, d1⟩, ⟨fo2, le2, lo2, g2, q28, q29, r2, d2⟩, ⟨fo3, le3, lo3, g3, q30, q31, r3, d3⟩⟩ := hSh
  refine Mt.of (L0 := [some (vR 0), some (vI s)]) rfl rfl rfl ?_
  refine gj_il1 dX8_lose_0 ?_
  refine gj_cS1r dX8_lose_1 mX8_120 hX8_isSheet (by omega) rfl (tX8_isSheet  (by omega) (by omega)) ?_
  refine gj_ifB_ne dX8_lose_4 (fun h4 => ?_) (fun h4 => ?_)
  · exact absurd h4 hs9
  · refine gj_bipush dX8_lose_7 rfl ?_
    exact gj_iret dX8_lose_9 rfl (Or.inr (Or.inr ⟨by omega, rfl, rfl⟩))
theorem tLose {l : Launch} {x : Cx} {d : Nat} {w : AW} {tx : Int → Int} {by0 : Int} {ru fa fe : Int → Int} {fc lw br me : Int} {mh ml mw : Int → Int} {mn fi : Int} {fm ln : Int → Int} {it : Int → Int → Int} {s : Int}  (hd : 2 ≤ d) (hC : ClassC w tx by0 ru fa fe fc lw br me mh ml mw mn fi fm ln it) (hs : R32 s) : Mt l x iX8_lose d 0 0 50 w [vR 0, vI s] (fun v2 w2 => ((0 ≤ s ∧ s ≤ 3) ∧ fm s ≠ -1 ∧ v2 = some (vI (ln s)) ∧ ClassC w2 tx by0 ru fa fe fc lw br me mh ml mw mn fi (upf fm s (-1)) ln it ∧ ∀ k : Nat, 32 ≤ k → w2 k = w k) ∨ ((0 ≤ s ∧ s ≤ 3) ∧ fm s = -1 ∧ v2 = some (vI (-11)) ∧ ClassC w2 tx by0 ru fa fe fc lw br me mh ml mw mn 1 fm ln it ∧ ∀ k : Nat, 32 ≤ k → w2 k = w k) ∨ (¬ (0 ≤ s ∧ s ≤ 3) ∧ v2 = some (vI (-2)) ∧ w2 = w)) := by
  by_cases c : 0 ≤ s ∧ s ≤ 3
  · rcases (show s = 0 ∨ s = 1 ∨ s = 2 ∨ s = 3 by omega) with rfl | rfl | rfl | rfl
    · exact tLose0 (by omega) hC 
    · exact tLose1 (by omega) hC 
    · exact tLose2 (by omega) hC 
    · exact tLose3 (by omega) hC 
  · exact tLoseB (by omega) hC hs  c
set_option maxRecDepth 20000 in
set_option maxHeartbeats 4000000 in
theorem tWrong0 {l : Launch} {x : Cx} {d : Nat} {w : AW} {tx : Int → Int} {by0 : Int} {ru fa fe : Int → Int} {fc lw br me : Int} {mh ml mw : Int → Int} {mn fi : Int} {fm ln : Int → Int} {it : Int → Int → Int} {f0 j : Int} (hd : 1 ≤ d) (hC : ClassC w tx by0 ru fa fe fc lw br me mh ml mw mn fi fm ln it) (hf0 : R32 f0) (hj : R32 j) : Mt l x iX8_wrongItem d 0 0 50 w [vR 0, vI 0, vI f0, vI j] (Rd (vI (wrA (fm 0) (ln 0) f0 j)) w) := by
  have hC0 := hC
  obtain ⟨q0, ⟨on, ot, ho, wy, nu, fl, ⟨q1, q2, q3, q4, q5, q6⟩, hRd⟩, ⟨fd, ⟨q9, q10, q11⟩, ⟨q7, q8⟩, hO⟩, ⟨la, be, ne, q12, q13, q14⟩, ⟨sl, q15⟩, hbm, ⟨go, st, bn, B, ra, rb, q16, q17, q18⟩, ⟨⟨q19, q20, q21, q22⟩, hMm⟩, hSh⟩ := hC
  have hW : WarC w fa (warB lw fa ru fe fc) := ⟨fe, ru, fc, fd, lw, ⟨q9, q10, q11⟩, ⟨q7, q8⟩, hO, rfl⟩
  have hE := hRd.ed
  have hM := hRd.mat
  obtain ⟨⟨sf, q23, s0, s1, s2, s3⟩, ⟨fo0, le0, lo0, g0, q24, q25, r0, d0⟩, ⟨fo1, le1, lo1, g1, q26, q27, r1, d1⟩, ⟨fo2, le2, lo2, g2, q28, q29, r2, d2⟩, ⟨fo3, le3, lo3, g3, q30, q31, r3, d3⟩⟩ := hSh
  refine Mt.of (L0 := [some (vR 0), some (vI 0), some (vI f0), some (vI j)]) rfl rfl rfl ?_
  refine gj_al0 dX8_wrongItem_0 ?_
  refine gj_get dX8_wrongItem_1 fX8_66 q0 rfl rfl ?_
  refine gj_il1 dX8_wrongItem_4 ?_
  refine gj_aald dX8_wrongItem_5 q23 rfl rfl (by omega) s0 ?_
  refine gj_get dX8_wrongItem_6 fX8_123 q24 rfl rfl ?_
  refine gj_if_eq dX8_wrongItem_9 (by omega) (fun h9 => ?_) (fun h9 => ?_)
  · obtain ⟨e0, y0, m0, n0, t0, v0⟩ : lo0 = 0 ∧ fm 0 = fo0 ∧ (0 ≤ fo0 ∧ fo0 ≤ 2) ∧ ln 0 = le0 ∧ (0 ≤ le0 ∧ le0 ≤ 60) ∧ ∀ j : Int, 0 ≤ j → j < le0 → g0 j = it 0 j ∧ R32 (g0 j) := d0.resolve_left (fun z => absurd z.1 (by omega))
    refine gj_al0 dX8_wrongItem_14 ?_
    refine gj_get dX8_wrongItem_15 fX8_66 q0 rfl rfl ?_
    refine gj_il1 dX8_wrongItem_18 ?_
    refine gj_aald dX8_wrongItem_19 q23 rfl rfl (by omega) s0 ?_
    refine gj_get dX8_wrongItem_20 fX8_261 q24 rfl rfl ?_
    refine gj_il2 dX8_wrongItem_23 ?_
    refine gj_icmp_eq dX8_wrongItem_24 (by omega) (fun h24 => ?_) (fun h24 => ?_)
    · refine gj_il3 dX8_wrongItem_29 ?_
      refine gj_al0 dX8_wrongItem_30 ?_
      refine gj_get dX8_wrongItem_31 fX8_66 q0 rfl rfl ?_
      refine gj_il1 dX8_wrongItem_34 ?_
      refine gj_aald dX8_wrongItem_35 q23 rfl rfl (by omega) s0 ?_
      refine gj_get dX8_wrongItem_36 fX8_130 q24 rfl rfl ?_
      refine gj_iconst dX8_wrongItem_39 ?_
      refine gj_isub dX8_wrongItem_40 ?_
      refine gj_cS2r dX8_wrongItem_41 mX8_75 hX8_upTo (by omega) rfl (tX8_upTo  (by omega) (by omega) (by omega)) ?_
      refine gj_ifB_eq dX8_wrongItem_44 (fun h44 => ?_) (fun h44 => ?_)
      · refine gj_iconst dX8_wrongItem_51 ?_
        exact gj_iret dX8_wrongItem_52 rfl (rd_i (by unfold wrA; rw [if_neg (by omega), if_neg (by omega), n0, if_neg h44]))
      · refine gj_iconst dX8_wrongItem_47 ?_
        refine gj_goto dX8_wrongItem_48 ?_
        exact gj_iret dX8_wrongItem_52 rfl (rd_i (by unfold wrA; rw [if_neg (by omega), if_neg (by omega), n0, if_pos h44]))
    · refine gj_iconst dX8_wrongItem_27 ?_
      exact gj_iret dX8_wrongItem_28 rfl (rd_i (by unfold wrA; rw [if_neg (by omega), if_pos (by omega)]))
  · have e0 : lo0 = 1 ∧ fm 0 = -1 := d0.resolve_right (fun z => absurd z.1 (by omega))
    refine gj_iconst dX8_wrongItem_12 ?_
    exact gj_iret dX8_wrongItem_13 rfl (rd_i (by unfold wrA; rw [if_pos e0.2]))
set_option maxRecDepth 20000 in
set_option maxHeartbeats 4000000 in
theorem tWrong1 {l : Launch} {x : Cx} {d : Nat} {w : AW} {tx : Int → Int} {by0 : Int} {ru fa fe : Int → Int} {fc lw br me : Int} {mh ml mw : Int → Int} {mn fi : Int} {fm ln : Int → Int} {it : Int → Int → Int} {f0 j : Int} (hd : 1 ≤ d) (hC : ClassC w tx by0 ru fa fe fc lw br me mh ml mw mn fi fm ln it) (hf0 : R32 f0) (hj : R32 j) : Mt l x iX8_wrongItem d 0 0 50 w [vR 0, vI 1, vI f0, vI j] (Rd (vI (wrA (fm 1) (ln 1) f0 j)) w) := by
  have hC0 := hC
  obtain ⟨q0, ⟨on, ot, ho, wy, nu, fl, ⟨q1, q2, q3, q4, q5, q6⟩, hRd⟩, ⟨fd, ⟨q9, q10, q11⟩, ⟨q7, q8⟩, hO⟩, ⟨la, be, ne, q12, q13, q14⟩, ⟨sl, q15⟩, hbm, ⟨go, st, bn, B, ra, rb, q16, q17, q18⟩, ⟨⟨q19, q20, q21, q22⟩, hMm⟩, hSh⟩ := hC
  have hW : WarC w fa (warB lw fa ru fe fc) := ⟨fe, ru, fc, fd, lw, ⟨q9, q10, q11⟩, ⟨q7, q8⟩, hO, rfl⟩
  have hE := hRd.ed
  have hM := hRd.mat
  obtain ⟨⟨sf, q23, s0, s1, s2, s3⟩, ⟨fo0, le0, lo0, g0, q24, q25, r0, d0⟩, ⟨fo1, le1, lo1, g1, q26, q27, r1, d1⟩, ⟨fo2, le2, lo2, g2, q28, q29, r2, d2⟩, ⟨fo3, le3, lo3, g3, q30, q31, r3, d3⟩⟩ := hSh
  refine Mt.of (L0 := [some (vR 0), some (vI 1), some (vI f0), some (vI j)]) rfl rfl rfl ?_
  refine gj_al0 dX8_wrongItem_0 ?_
  refine gj_get dX8_wrongItem_1 fX8_66 q0 rfl rfl ?_
  refine gj_il1 dX8_wrongItem_4 ?_
  refine gj_aald dX8_wrongItem_5 q23 rfl rfl (by omega) s1 ?_
  refine gj_get dX8_wrongItem_6 fX8_123 q26 rfl rfl ?_
  refine gj_if_eq dX8_wrongItem_9 (by omega) (fun h9 => ?_) (fun h9 => ?_)
  · obtain ⟨e1, y1, m1, n1, t1, v1⟩ : lo1 = 0 ∧ fm 1 = fo1 ∧ (0 ≤ fo1 ∧ fo1 ≤ 2) ∧ ln 1 = le1 ∧ (0 ≤ le1 ∧ le1 ≤ 60) ∧ ∀ j : Int, 0 ≤ j → j < le1 → g1 j = it 1 j ∧ R32 (g1 j) := d1.resolve_left (fun z => absurd z.1 (by omega))
    refine gj_al0 dX8_wrongItem_14 ?_
    refine gj_get dX8_wrongItem_15 fX8_66 q0 rfl rfl ?_
    refine gj_il1 dX8_wrongItem_18 ?_
    refine gj_aald dX8_wrongItem_19 q23 rfl rfl (by omega) s1 ?_
    refine gj_get dX8_wrongItem_20 fX8_261 q26 rfl rfl ?_
    refine gj_il2 dX8_wrongItem_23 ?_
    refine gj_icmp_eq dX8_wrongItem_24 (by omega) (fun h24 => ?_) (fun h24 => ?_)
    · refine gj_il3 dX8_wrongItem_29 ?_
      refine gj_al0 dX8_wrongItem_30 ?_
      refine gj_get dX8_wrongItem_31 fX8_66 q0 rfl rfl ?_
      refine gj_il1 dX8_wrongItem_34 ?_
      refine gj_aald dX8_wrongItem_35 q23 rfl rfl (by omega) s1 ?_
      refine gj_get dX8_wrongItem_36 fX8_130 q26 rfl rfl ?_
      refine gj_iconst dX8_wrongItem_39 ?_
      refine gj_isub dX8_wrongItem_40 ?_
      refine gj_cS2r dX8_wrongItem_41 mX8_75 hX8_upTo (by omega) rfl (tX8_upTo  (by omega) (by omega) (by omega)) ?_
      refine gj_ifB_eq dX8_wrongItem_44 (fun h44 => ?_) (fun h44 => ?_)
      · refine gj_iconst dX8_wrongItem_51 ?_
        exact gj_iret dX8_wrongItem_52 rfl (rd_i (by unfold wrA; rw [if_neg (by omega), if_neg (by omega), n1, if_neg h44]))
      · refine gj_iconst dX8_wrongItem_47 ?_
        refine gj_goto dX8_wrongItem_48 ?_
        exact gj_iret dX8_wrongItem_52 rfl (rd_i (by unfold wrA; rw [if_neg (by omega), if_neg (by omega), n1, if_pos h44]))
    · refine gj_iconst dX8_wrongItem_27 ?_
      exact gj_iret dX8_wrongItem_28 rfl (rd_i (by unfold wrA; rw [if_neg (by omega), if_pos (by omega)]))
  · have e1 : lo1 = 1 ∧ fm 1 = -1 := d1.resolve_right (fun z => absurd z.1 (by omega))
    refine gj_iconst dX8_wrongItem_12 ?_
    exact gj_iret dX8_wrongItem_13 rfl (rd_i (by unfold wrA; rw [if_pos e1.2]))
set_option maxRecDepth 20000 in
set_option maxHeartbeats 4000000 in
theorem tWrong2 {l : Launch} {x : Cx} {d : Nat} {w : AW} {tx : Int → Int} {by0 : Int} {ru fa fe : Int → Int} {fc lw br me : Int} {mh ml mw : Int → Int} {mn fi : Int} {fm ln : Int → Int} {it : Int → Int → Int} {f0 j : Int} (hd : 1 ≤ d) (hC : ClassC w tx by0 ru fa fe fc lw br me mh ml mw mn fi fm ln it) (hf0 : R32 f0) (hj : R32 j) : Mt l x iX8_wrongItem d 0 0 50 w [vR 0, vI 2, vI f0, vI j] (Rd (vI (wrA (fm 2) (ln 2) f0 j)) w) := by
  have hC0 := hC
  obtain ⟨q0, ⟨on, ot, ho, wy, nu, fl, ⟨q1, q2, q3, q4, q5, q6⟩, hRd⟩, ⟨fd, ⟨q9, q10, q11⟩, ⟨q7, q8⟩, hO⟩, ⟨la, be, ne, q12, q13, q14⟩, ⟨sl, q15⟩, hbm, ⟨go, st, bn, B, ra, rb, q16, q17, q18⟩, ⟨⟨q19, q20, q21, q22⟩, hMm⟩, hSh⟩ := hC
  have hW : WarC w fa (warB lw fa ru fe fc) := ⟨fe, ru, fc, fd, lw, ⟨q9, q10, q11⟩, ⟨q7, q8⟩, hO, rfl⟩
  have hE := hRd.ed
  have hM := hRd.mat
  obtain ⟨⟨sf, q23, s0, s1, s2, s3⟩, ⟨fo0, le0, lo0, g0, q24, q25, r0, d0⟩, ⟨fo1, le1, lo1, g1, q26, q27, r1, d1⟩, ⟨fo2, le2, lo2, g2, q28, q29, r2, d2⟩, ⟨fo3, le3, lo3, g3, q30, q31, r3, d3⟩⟩ := hSh
  refine Mt.of (L0 := [some (vR 0), some (vI 2), some (vI f0), some (vI j)]) rfl rfl rfl ?_
  refine gj_al0 dX8_wrongItem_0 ?_
  refine gj_get dX8_wrongItem_1 fX8_66 q0 rfl rfl ?_
  refine gj_il1 dX8_wrongItem_4 ?_
  refine gj_aald dX8_wrongItem_5 q23 rfl rfl (by omega) s2 ?_
  refine gj_get dX8_wrongItem_6 fX8_123 q28 rfl rfl ?_
  refine gj_if_eq dX8_wrongItem_9 (by omega) (fun h9 => ?_) (fun h9 => ?_)
  · obtain ⟨e2, y2, m2, n2, t2, v2⟩ : lo2 = 0 ∧ fm 2 = fo2 ∧ (0 ≤ fo2 ∧ fo2 ≤ 2) ∧ ln 2 = le2 ∧ (0 ≤ le2 ∧ le2 ≤ 60) ∧ ∀ j : Int, 0 ≤ j → j < le2 → g2 j = it 2 j ∧ R32 (g2 j) := d2.resolve_left (fun z => absurd z.1 (by omega))
    refine gj_al0 dX8_wrongItem_14 ?_
    refine gj_get dX8_wrongItem_15 fX8_66 q0 rfl rfl ?_
    refine gj_il1 dX8_wrongItem_18 ?_
    refine gj_aald dX8_wrongItem_19 q23 rfl rfl (by omega) s2 ?_
    refine gj_get dX8_wrongItem_20 fX8_261 q28 rfl rfl ?_
    refine gj_il2 dX8_wrongItem_23 ?_
    refine gj_icmp_eq dX8_wrongItem_24 (by omega) (fun h24 => ?_) (fun h24 => ?_)
    · refine gj_il3 dX8_wrongItem_29 ?_
      refine gj_al0 dX8_wrongItem_30 ?_
      refine gj_get dX8_wrongItem_31 fX8_66 q0 rfl rfl ?_
      refine gj_il1 dX8_wrongItem_34 ?_
      refine gj_aald dX8_wrongItem_35 q23 rfl rfl (by omega) s2 ?_
      refine gj_get dX8_wrongItem_36 fX8_130 q28 rfl rfl ?_
      refine gj_iconst dX8_wrongItem_39 ?_
      refine gj_isub dX8_wrongItem_40 ?_
      refine gj_cS2r dX8_wrongItem_41 mX8_75 hX8_upTo (by omega) rfl (tX8_upTo  (by omega) (by omega) (by omega)) ?_
      refine gj_ifB_eq dX8_wrongItem_44 (fun h44 => ?_) (fun h44 => ?_)
      · refine gj_iconst dX8_wrongItem_51 ?_
        exact gj_iret dX8_wrongItem_52 rfl (rd_i (by unfold wrA; rw [if_neg (by omega), if_neg (by omega), n2, if_neg h44]))
      · refine gj_iconst dX8_wrongItem_47 ?_
        refine gj_goto dX8_wrongItem_48 ?_
        exact gj_iret dX8_wrongItem_52 rfl (rd_i (by unfold wrA; rw [if_neg (by omega), if_neg (by omega), n2, if_pos h44]))
    · refine gj_iconst dX8_wrongItem_27 ?_
      exact gj_iret dX8_wrongItem_28 rfl (rd_i (by unfold wrA; rw [if_neg (by omega), if_pos (by omega)]))
  · have e2 : lo2 = 1 ∧ fm 2 = -1 := d2.resolve_right (fun z => absurd z.1 (by omega))
    refine gj_iconst dX8_wrongItem_12 ?_
    exact gj_iret dX8_wrongItem_13 rfl (rd_i (by unfold wrA; rw [if_pos e2.2]))
set_option maxRecDepth 20000 in
set_option maxHeartbeats 4000000 in
theorem tWrong3 {l : Launch} {x : Cx} {d : Nat} {w : AW} {tx : Int → Int} {by0 : Int} {ru fa fe : Int → Int} {fc lw br me : Int} {mh ml mw : Int → Int} {mn fi : Int} {fm ln : Int → Int} {it : Int → Int → Int} {f0 j : Int} (hd : 1 ≤ d) (hC : ClassC w tx by0 ru fa fe fc lw br me mh ml mw mn fi fm ln it) (hf0 : R32 f0) (hj : R32 j) : Mt l x iX8_wrongItem d 0 0 50 w [vR 0, vI 3, vI f0, vI j] (Rd (vI (wrA (fm 3) (ln 3) f0 j)) w) := by
  have hC0 := hC
  obtain ⟨q0, ⟨on, ot, ho, wy, nu, fl, ⟨q1, q2, q3, q4, q5, q6⟩, hRd⟩, ⟨fd, ⟨q9, q10, q11⟩, ⟨q7, q8⟩, hO⟩, ⟨la, be, ne, q12, q13, q14⟩, ⟨sl, q15⟩, hbm, ⟨go, st, bn, B, ra, rb, q16, q17, q18⟩, ⟨⟨q19, q20, q21, q22⟩, hMm⟩, hSh⟩ := hC
  have hW : WarC w fa (warB lw fa ru fe fc) := ⟨fe, ru, fc, fd, lw, ⟨q9, q10, q11⟩, ⟨q7, q8⟩, hO, rfl⟩
  have hE := hRd.ed
  have hM := hRd.mat
  obtain ⟨⟨sf, q23, s0, s1, s2, s3⟩, ⟨fo0, le0, lo0, g0, q24, q25, r0, d0⟩, ⟨fo1, le1, lo1, g1, q26, q27, r1, d1⟩, ⟨fo2, le2, lo2, g2, q28, q29, r2, d2⟩, ⟨fo3, le3, lo3, g3, q30, q31, r3, d3⟩⟩ := hSh
  refine Mt.of (L0 := [some (vR 0), some (vI 3), some (vI f0), some (vI j)]) rfl rfl rfl ?_
  refine gj_al0 dX8_wrongItem_0 ?_
  refine gj_get dX8_wrongItem_1 fX8_66 q0 rfl rfl ?_
  refine gj_il1 dX8_wrongItem_4 ?_
  refine gj_aald dX8_wrongItem_5 q23 rfl rfl (by omega) s3 ?_
  refine gj_get dX8_wrongItem_6 fX8_123 q30 rfl rfl ?_
  refine gj_if_eq dX8_wrongItem_9 (by omega) (fun h9 => ?_) (fun h9 => ?_)
  · obtain ⟨e3, y3, m3, n3, t3, v3⟩ : lo3 = 0 ∧ fm 3 = fo3 ∧ (0 ≤ fo3 ∧ fo3 ≤ 2) ∧ ln 3 = le3 ∧ (0 ≤ le3 ∧ le3 ≤ 60) ∧ ∀ j : Int, 0 ≤ j → j < le3 → g3 j = it 3 j ∧ R32 (g3 j) := d3.resolve_left (fun z => absurd z.1 (by omega))
    refine gj_al0 dX8_wrongItem_14 ?_
    refine gj_get dX8_wrongItem_15 fX8_66 q0 rfl rfl ?_
    refine gj_il1 dX8_wrongItem_18 ?_
    refine gj_aald dX8_wrongItem_19 q23 rfl rfl (by omega) s3 ?_
    refine gj_get dX8_wrongItem_20 fX8_261 q30 rfl rfl ?_
    refine gj_il2 dX8_wrongItem_23 ?_
    refine gj_icmp_eq dX8_wrongItem_24 (by omega) (fun h24 => ?_) (fun h24 => ?_)
    · refine gj_il3 dX8_wrongItem_29 ?_
      refine gj_al0 dX8_wrongItem_30 ?_
      refine gj_get dX8_wrongItem_31 fX8_66 q0 rfl rfl ?_
      refine gj_il1 dX8_wrongItem_34 ?_
      refine gj_aald dX8_wrongItem_35 q23 rfl rfl (by omega) s3 ?_
      refine gj_get dX8_wrongItem_36 fX8_130 q30 rfl rfl ?_
      refine gj_iconst dX8_wrongItem_39 ?_
      refine gj_isub dX8_wrongItem_40 ?_
      refine gj_cS2r dX8_wrongItem_41 mX8_75 hX8_upTo (by omega) rfl (tX8_upTo  (by omega) (by omega) (by omega)) ?_
      refine gj_ifB_eq dX8_wrongItem_44 (fun h44 => ?_) (fun h44 => ?_)
      · refine gj_iconst dX8_wrongItem_51 ?_
        exact gj_iret dX8_wrongItem_52 rfl (rd_i (by unfold wrA; rw [if_neg (by omega), if_neg (by omega), n3, if_neg h44]))
      · refine gj_iconst dX8_wrongItem_47 ?_
        refine gj_goto dX8_wrongItem_48 ?_
        exact gj_iret dX8_wrongItem_52 rfl (rd_i (by unfold wrA; rw [if_neg (by omega), if_neg (by omega), n3, if_pos h44]))
    · refine gj_iconst dX8_wrongItem_27 ?_
      exact gj_iret dX8_wrongItem_28 rfl (rd_i (by unfold wrA; rw [if_neg (by omega), if_pos (by omega)]))
  · have e3 : lo3 = 1 ∧ fm 3 = -1 := d3.resolve_right (fun z => absurd z.1 (by omega))
    refine gj_iconst dX8_wrongItem_12 ?_
    exact gj_iret dX8_wrongItem_13 rfl (rd_i (by unfold wrA; rw [if_pos e3.2]))
theorem cutF_R {fo v : Int} (hv : R32 v) : R32 (cutF fo v) := by
  unfold cutF
  split
  · exact bB_R v
  · split
    · exact bS_R v
    · exact hv
set_option maxRecDepth 20000 in
set_option maxHeartbeats 4000000 in
theorem tLay0 {l : Launch} {x : Cx} {d : Nat} {w : AW} {tx : Int → Int} {by0 : Int} {ru fa fe : Int → Int} {fc lw br me : Int} {mh ml mw : Int → Int} {mn fi : Int} {fm ln : Int → Int} {it : Int → Int → Int} {f0 j v : Int} (hd : 2 ≤ d) (hC : ClassC w tx by0 ru fa fe fc lw br me mh ml mw mn fi fm ln it) (hf0 : R32 f0) (hj : R32 j) (hv : R32 v) : Mt l x iX8_lay d 0 0 50 w [vR 0, vI 0, vI f0, vI j, vI v] (fun v2 w2 => (((0 ≤ (0 : Int) ∧ (0 : Int) ≤ 3) ∧ (0 ≤ f0 ∧ f0 ≤ 2)) ∧ wrA (fm (0 : Int)) (ln (0 : Int)) f0 j = 0 ∧ v2 = some (vI 1) ∧ ClassC w2 tx by0 ru fa fe fc lw br me mh ml mw mn fi fm ln (upi it (0 : Int) (upf (it (0 : Int)) j (cutF f0 v))) ∧ ∀ k : Nat, 32 ≤ k → w2 k = w k) ∨ (((0 ≤ (0 : Int) ∧ (0 : Int) ≤ 3) ∧ (0 ≤ f0 ∧ f0 ≤ 2)) ∧ wrA (fm (0 : Int)) (ln (0 : Int)) f0 j ≠ 0 ∧ v2 = some (vI (-10 - wrA (fm (0 : Int)) (ln (0 : Int)) f0 j)) ∧ ClassC w2 tx by0 ru fa fe fc lw br me mh ml mw mn (wrA (fm (0 : Int)) (ln (0 : Int)) f0 j) fm ln it ∧ ∀ k : Nat, 32 ≤ k → w2 k = w k) ∨ (¬ ((0 ≤ (0 : Int) ∧ (0 : Int) ≤ 3) ∧ (0 ≤ f0 ∧ f0 ≤ 2)) ∧ v2 = some (vI (-2)) ∧ w2 = w)) := by
  have hC0 := hC
  obtain ⟨q0, ⟨on, ot, ho, wy, nu, fl, ⟨q1, q2, q3, q4, q5, q6⟩, hRd⟩, ⟨fd, ⟨q9, q10, q11⟩, ⟨q7, q8⟩, hO⟩, ⟨la, be, ne, q12, q13, q14⟩, ⟨sl, q15⟩, hbm, ⟨go, st, bn, B, ra, rb, q16, q17, q18⟩, ⟨⟨q19, q20, q21, q22⟩, hMm⟩, hSh⟩ := hC
  have hW : WarC w fa (warB lw fa ru fe fc) := ⟨fe, ru, fc, fd, lw, ⟨q9, q10, q11⟩, ⟨q7, q8⟩, hO, rfl⟩
  have hE := hRd.ed
  have hM := hRd.mat
  obtain ⟨⟨sf, q23, s0, s1, s2, s3⟩, ⟨fo0, le0, lo0, g0, q24, q25, r0, d0⟩, ⟨fo1, le1, lo1, g1, q26, q27, r1, d1⟩, ⟨fo2, le2, lo2, g2, q28, q29, r2, d2⟩, ⟨fo3, le3, lo3, g3, q30, q31, r3, d3⟩⟩ := hSh
  have w9 := wrA_R (fm 0) (ln 0) f0 j
  refine Mt.of (L0 := [some (vR 0), some (vI 0), some (vI f0), some (vI j), some (vI v), none]) rfl rfl rfl ?_
  refine gj_il1 dX8_lay_0 ?_
  refine gj_cS1r dX8_lay_1 mX8_120 hX8_isSheet (by omega) rfl (tX8_isSheet  (by omega) (by omega)) ?_
  refine gj_ifB_eq dX8_lay_4 (fun h4 => ?_) (fun h4 => ?_)
  · exact absurd (by omega) h4
  · refine gj_il2 dX8_lay_7 ?_
    refine gj_cS1r dX8_lay_8 mX8_248 hX8_isForm (by omega) rfl (tX8_isForm  (by omega) (by omega)) ?_
    refine gj_ifB_ne dX8_lay_11 (fun h11 => ?_) (fun h11 => ?_)
    · refine gj_al0 dX8_lay_17 ?_
      refine gj_il1 dX8_lay_18 ?_
      refine gj_il2 dX8_lay_19 ?_
      refine gj_il3 dX8_lay_20 ?_
      refine gj_cV3r dX8_lay_21 mX8_255 hX8_wrongItem q0 rfl (by omega) rfl (tWrong0  (by omega) hC0 (by omega) (by omega)) ?_
      refine gj_is5 dX8_lay_24 rfl rfl ?_
      refine gj_il5 dX8_lay_26 ?_
      refine gj_if_eq dX8_lay_28 (by omega) (fun h28 => ?_) (fun h28 => ?_)
      · have wz : fm 0 ≠ -1 ∧ fm 0 = f0 ∧ (0 ≤ j ∧ j ≤ ln 0 - 1) := by
          have z := h28
          unfold wrA at z
          by_cases c1 : fm 0 = -1
          · rw [if_pos c1] at z; omega
          · rw [if_neg c1] at z
            by_cases c2 : fm 0 ≠ f0
            · rw [if_pos c2] at z; omega
            · rw [if_neg c2] at z
              by_cases c3 : 0 ≤ j ∧ j ≤ ln 0 - 1
              · exact ⟨c1, Decidable.not_not.mp c2, c3⟩
              · rw [if_neg c3] at z; omega
        obtain ⟨e0, y0, m0, n0, t0, v0⟩ : lo0 = 0 ∧ fm 0 = fo0 ∧ (0 ≤ fo0 ∧ fo0 ≤ 2) ∧ ln 0 = le0 ∧ (0 ≤ le0 ∧ le0 ≤ 60) ∧ ∀ j : Int, 0 ≤ j → j < le0 → g0 j = it 0 j ∧ R32 (g0 j) := d0.resolve_left (fun z => absurd z.2 (by omega))
        refine gj_al0 dX8_lay_38 ?_
        refine gj_get dX8_lay_39 fX8_66 q0 rfl rfl ?_
        refine gj_il1 dX8_lay_42 ?_
        refine gj_aald dX8_lay_43 q23 rfl rfl (by omega) s0 ?_
        refine gj_il3 dX8_lay_44 ?_
        refine gj_il4 dX8_lay_45 ?_
        refine gj_cV2v dX8_lay_47 mX8_258 hX7_put q24 rfl (by omega) rfl (tX7_put0  (by omega) ⟨q24, q25⟩ (by omega) (by omega)) (fun w47 P47 => ?_)
        obtain rfl := P47
        refine gj_iconst dX8_lay_50 ?_
        exact gj_iret dX8_lay_51 rfl (Or.inl ⟨⟨by omega, by omega⟩, h28, rfl, ⟨⟨(upw_o (by decide) q0), ⟨_, _, _, _, _, _, ⟨(upw_o (by decide) q1), (upw_o (by decide) q2), (upw_o (by decide) q3), (upw_o (by decide) q4), (upw_o (by decide) q5), (upw_o (by decide) q6)⟩, hRd⟩, ⟨_, ⟨(upw_o (by decide) q9), (upw_o (by decide) q10), (upw_o (by decide) q11)⟩, ⟨(upw_o (by decide) q7), (upw_o (by decide) q8)⟩, hO⟩, ⟨_, _, _, (upw_o (by decide) q12), (upw_o (by decide) q13), (upw_o (by decide) q14)⟩, ⟨_, (upw_o (by decide) q15)⟩, hbm, ⟨_, _, _, B, _, _, (upw_o (by decide) q16), (upw_o (by decide) q17), (upw_o (by decide) q18)⟩, ⟨⟨(upw_o (by decide) q19), (upw_o (by decide) q20), (upw_o (by decide) q21), (upw_o (by decide) q22)⟩, hMm⟩, ⟨⟨_, (upw_o (by decide) q23), s0, s1, s2, s3⟩, ⟨_, _, _, _, (upw_o (by decide) q24), upw_s, r0, Or.inr ⟨e0, y0, m0, n0, t0, fun q g8 g9 => by
                    show upf g0 j (cutF fo0 v) q = upf (it 0) j (cutF f0 v) q ∧ R32 (upf g0 j (cutF fo0 v) q)
                    rw [show f0 = fo0 by omega]
                    by_cases e : q = j
                    · rw [e, upf_s, upf_s]; exact ⟨rfl, cutF_R hv⟩
                    · rw [upf_o _ _ e, upf_o _ _ e]; exact v0 q g8 g9⟩⟩, ⟨_, _, _, _, (upw_o (by decide) q26), (upw_o (by decide) q27), r1, d1⟩, ⟨_, _, _, _, (upw_o (by decide) q28), (upw_o (by decide) q29), r2, d2⟩, ⟨_, _, _, _, (upw_o (by decide) q30), (upw_o (by decide) q31), r3, d3⟩⟩⟩, (fun k hk => upw_o (by omega) ((fun (k : Nat) (_ : 32 ≤ k) => rfl) k hk))⟩⟩)
      · refine gj_al0 dX8_lay_31 ?_
        refine gj_il5 dX8_lay_32 ?_
        refine gj_cV1w dX8_lay_34 mX8_127 hX8_found q0 rfl (by omega) rfl (tX8_found  (by omega) q0) (fun w34 P34 => ?_)
        obtain rfl := P34
        exact gj_iret dX8_lay_37 rfl (Or.inr (Or.inl ⟨⟨by omega, by omega⟩, h28, rfl, ⟨⟨upw_s, ⟨_, _, _, _, _, _, ⟨(upw_o (by decide) q1), (upw_o (by decide) q2), (upw_o (by decide) q3), (upw_o (by decide) q4), (upw_o (by decide) q5), (upw_o (by decide) q6)⟩, hRd⟩, ⟨_, ⟨(upw_o (by decide) q9), (upw_o (by decide) q10), (upw_o (by decide) q11)⟩, ⟨(upw_o (by decide) q7), (upw_o (by decide) q8)⟩, hO⟩, ⟨_, _, _, (upw_o (by decide) q12), (upw_o (by decide) q13), (upw_o (by decide) q14)⟩, ⟨_, (upw_o (by decide) q15)⟩, hbm, ⟨_, _, _, B, _, _, (upw_o (by decide) q16), (upw_o (by decide) q17), (upw_o (by decide) q18)⟩, ⟨⟨(upw_o (by decide) q19), (upw_o (by decide) q20), (upw_o (by decide) q21), (upw_o (by decide) q22)⟩, hMm⟩, ⟨⟨_, (upw_o (by decide) q23), s0, s1, s2, s3⟩, ⟨_, _, _, _, (upw_o (by decide) q24), (upw_o (by decide) q25), r0, d0⟩, ⟨_, _, _, _, (upw_o (by decide) q26), (upw_o (by decide) q27), r1, d1⟩, ⟨_, _, _, _, (upw_o (by decide) q28), (upw_o (by decide) q29), r2, d2⟩, ⟨_, _, _, _, (upw_o (by decide) q30), (upw_o (by decide) q31), r3, d3⟩⟩⟩, (fun k hk => upw_o (by omega) ((fun (k : Nat) (_ : 32 ≤ k) => rfl) k hk))⟩⟩))
    · refine gj_bipush dX8_lay_14 rfl ?_
      exact gj_iret dX8_lay_16 rfl (Or.inr (Or.inr ⟨by omega, rfl, rfl⟩))
set_option maxRecDepth 20000 in
set_option maxHeartbeats 4000000 in
theorem tLay1 {l : Launch} {x : Cx} {d : Nat} {w : AW} {tx : Int → Int} {by0 : Int} {ru fa fe : Int → Int} {fc lw br me : Int} {mh ml mw : Int → Int} {mn fi : Int} {fm ln : Int → Int} {it : Int → Int → Int} {f0 j v : Int} (hd : 2 ≤ d) (hC : ClassC w tx by0 ru fa fe fc lw br me mh ml mw mn fi fm ln it) (hf0 : R32 f0) (hj : R32 j) (hv : R32 v) : Mt l x iX8_lay d 0 0 50 w [vR 0, vI 1, vI f0, vI j, vI v] (fun v2 w2 => (((0 ≤ (1 : Int) ∧ (1 : Int) ≤ 3) ∧ (0 ≤ f0 ∧ f0 ≤ 2)) ∧ wrA (fm (1 : Int)) (ln (1 : Int)) f0 j = 0 ∧ v2 = some (vI 1) ∧ ClassC w2 tx by0 ru fa fe fc lw br me mh ml mw mn fi fm ln (upi it (1 : Int) (upf (it (1 : Int)) j (cutF f0 v))) ∧ ∀ k : Nat, 32 ≤ k → w2 k = w k) ∨ (((0 ≤ (1 : Int) ∧ (1 : Int) ≤ 3) ∧ (0 ≤ f0 ∧ f0 ≤ 2)) ∧ wrA (fm (1 : Int)) (ln (1 : Int)) f0 j ≠ 0 ∧ v2 = some (vI (-10 - wrA (fm (1 : Int)) (ln (1 : Int)) f0 j)) ∧ ClassC w2 tx by0 ru fa fe fc lw br me mh ml mw mn (wrA (fm (1 : Int)) (ln (1 : Int)) f0 j) fm ln it ∧ ∀ k : Nat, 32 ≤ k → w2 k = w k) ∨ (¬ ((0 ≤ (1 : Int) ∧ (1 : Int) ≤ 3) ∧ (0 ≤ f0 ∧ f0 ≤ 2)) ∧ v2 = some (vI (-2)) ∧ w2 = w)) := by
  have hC0 := hC
  obtain ⟨q0, ⟨on, ot, ho, wy, nu, fl, ⟨q1, q2, q3, q4, q5, q6⟩, hRd⟩, ⟨fd, ⟨q9, q10, q11⟩, ⟨q7, q8⟩, hO⟩, ⟨la, be, ne, q12, q13, q14⟩, ⟨sl, q15⟩, hbm, ⟨go, st, bn, B, ra, rb, q16, q17, q18⟩, ⟨⟨q19, q20, q21, q22⟩, hMm⟩, hSh⟩ := hC
  have hW : WarC w fa (warB lw fa ru fe fc) := ⟨fe, ru, fc, fd, lw, ⟨q9, q10, q11⟩, ⟨q7, q8⟩, hO, rfl⟩
  have hE := hRd.ed
  have hM := hRd.mat
  obtain ⟨⟨sf, q23, s0, s1, s2, s3⟩, ⟨fo0, le0, lo0, g0, q24, q25, r0, d0⟩, ⟨fo1, le1, lo1, g1, q26, q27, r1, d1⟩, ⟨fo2, le2, lo2, g2, q28, q29, r2, d2⟩, ⟨fo3, le3, lo3, g3, q30, q31, r3, d3⟩⟩ := hSh
  have w9 := wrA_R (fm 1) (ln 1) f0 j
  refine Mt.of (L0 := [some (vR 0), some (vI 1), some (vI f0), some (vI j), some (vI v), none]) rfl rfl rfl ?_
  refine gj_il1 dX8_lay_0 ?_
  refine gj_cS1r dX8_lay_1 mX8_120 hX8_isSheet (by omega) rfl (tX8_isSheet  (by omega) (by omega)) ?_
  refine gj_ifB_eq dX8_lay_4 (fun h4 => ?_) (fun h4 => ?_)
  · exact absurd (by omega) h4
  · refine gj_il2 dX8_lay_7 ?_
    refine gj_cS1r dX8_lay_8 mX8_248 hX8_isForm (by omega) rfl (tX8_isForm  (by omega) (by omega)) ?_
    refine gj_ifB_ne dX8_lay_11 (fun h11 => ?_) (fun h11 => ?_)
    · refine gj_al0 dX8_lay_17 ?_
      refine gj_il1 dX8_lay_18 ?_
      refine gj_il2 dX8_lay_19 ?_
      refine gj_il3 dX8_lay_20 ?_
      refine gj_cV3r dX8_lay_21 mX8_255 hX8_wrongItem q0 rfl (by omega) rfl (tWrong1  (by omega) hC0 (by omega) (by omega)) ?_
      refine gj_is5 dX8_lay_24 rfl rfl ?_
      refine gj_il5 dX8_lay_26 ?_
      refine gj_if_eq dX8_lay_28 (by omega) (fun h28 => ?_) (fun h28 => ?_)
      · have wz : fm 1 ≠ -1 ∧ fm 1 = f0 ∧ (0 ≤ j ∧ j ≤ ln 1 - 1) := by
          have z := h28
          unfold wrA at z
          by_cases c1 : fm 1 = -1
          · rw [if_pos c1] at z; omega
          · rw [if_neg c1] at z
            by_cases c2 : fm 1 ≠ f0
            · rw [if_pos c2] at z; omega
            · rw [if_neg c2] at z
              by_cases c3 : 0 ≤ j ∧ j ≤ ln 1 - 1
              · exact ⟨c1, Decidable.not_not.mp c2, c3⟩
              · rw [if_neg c3] at z; omega
        obtain ⟨e1, y1, m1, n1, t1, v1⟩ : lo1 = 0 ∧ fm 1 = fo1 ∧ (0 ≤ fo1 ∧ fo1 ≤ 2) ∧ ln 1 = le1 ∧ (0 ≤ le1 ∧ le1 ≤ 60) ∧ ∀ j : Int, 0 ≤ j → j < le1 → g1 j = it 1 j ∧ R32 (g1 j) := d1.resolve_left (fun z => absurd z.2 (by omega))
        refine gj_al0 dX8_lay_38 ?_
        refine gj_get dX8_lay_39 fX8_66 q0 rfl rfl ?_
        refine gj_il1 dX8_lay_42 ?_
        refine gj_aald dX8_lay_43 q23 rfl rfl (by omega) s1 ?_
        refine gj_il3 dX8_lay_44 ?_
        refine gj_il4 dX8_lay_45 ?_
        refine gj_cV2v dX8_lay_47 mX8_258 hX7_put q26 rfl (by omega) rfl (tX7_put1  (by omega) ⟨q26, q27⟩ (by omega) (by omega)) (fun w47 P47 => ?_)
        obtain rfl := P47
        refine gj_iconst dX8_lay_50 ?_
        exact gj_iret dX8_lay_51 rfl (Or.inl ⟨⟨by omega, by omega⟩, h28, rfl, ⟨⟨(upw_o (by decide) q0), ⟨_, _, _, _, _, _, ⟨(upw_o (by decide) q1), (upw_o (by decide) q2), (upw_o (by decide) q3), (upw_o (by decide) q4), (upw_o (by decide) q5), (upw_o (by decide) q6)⟩, hRd⟩, ⟨_, ⟨(upw_o (by decide) q9), (upw_o (by decide) q10), (upw_o (by decide) q11)⟩, ⟨(upw_o (by decide) q7), (upw_o (by decide) q8)⟩, hO⟩, ⟨_, _, _, (upw_o (by decide) q12), (upw_o (by decide) q13), (upw_o (by decide) q14)⟩, ⟨_, (upw_o (by decide) q15)⟩, hbm, ⟨_, _, _, B, _, _, (upw_o (by decide) q16), (upw_o (by decide) q17), (upw_o (by decide) q18)⟩, ⟨⟨(upw_o (by decide) q19), (upw_o (by decide) q20), (upw_o (by decide) q21), (upw_o (by decide) q22)⟩, hMm⟩, ⟨⟨_, (upw_o (by decide) q23), s0, s1, s2, s3⟩, ⟨_, _, _, _, (upw_o (by decide) q24), (upw_o (by decide) q25), r0, d0⟩, ⟨_, _, _, _, (upw_o (by decide) q26), upw_s, r1, Or.inr ⟨e1, y1, m1, n1, t1, fun q g8 g9 => by
                    show upf g1 j (cutF fo1 v) q = upf (it 1) j (cutF f0 v) q ∧ R32 (upf g1 j (cutF fo1 v) q)
                    rw [show f0 = fo1 by omega]
                    by_cases e : q = j
                    · rw [e, upf_s, upf_s]; exact ⟨rfl, cutF_R hv⟩
                    · rw [upf_o _ _ e, upf_o _ _ e]; exact v1 q g8 g9⟩⟩, ⟨_, _, _, _, (upw_o (by decide) q28), (upw_o (by decide) q29), r2, d2⟩, ⟨_, _, _, _, (upw_o (by decide) q30), (upw_o (by decide) q31), r3, d3⟩⟩⟩, (fun k hk => upw_o (by omega) ((fun (k : Nat) (_ : 32 ≤ k) => rfl) k hk))⟩⟩)
      · refine gj_al0 dX8_lay_31 ?_
        refine gj_il5 dX8_lay_32 ?_
        refine gj_cV1w dX8_lay_34 mX8_127 hX8_found q0 rfl (by omega) rfl (tX8_found  (by omega) q0) (fun w34 P34 => ?_)
        obtain rfl := P34
        exact gj_iret dX8_lay_37 rfl (Or.inr (Or.inl ⟨⟨by omega, by omega⟩, h28, rfl, ⟨⟨upw_s, ⟨_, _, _, _, _, _, ⟨(upw_o (by decide) q1), (upw_o (by decide) q2), (upw_o (by decide) q3), (upw_o (by decide) q4), (upw_o (by decide) q5), (upw_o (by decide) q6)⟩, hRd⟩, ⟨_, ⟨(upw_o (by decide) q9), (upw_o (by decide) q10), (upw_o (by decide) q11)⟩, ⟨(upw_o (by decide) q7), (upw_o (by decide) q8)⟩, hO⟩, ⟨_, _, _, (upw_o (by decide) q12), (upw_o (by decide) q13), (upw_o (by decide) q14)⟩, ⟨_, (upw_o (by decide) q15)⟩, hbm, ⟨_, _, _, B, _, _, (upw_o (by decide) q16), (upw_o (by decide) q17), (upw_o (by decide) q18)⟩, ⟨⟨(upw_o (by decide) q19), (upw_o (by decide) q20), (upw_o (by decide) q21), (upw_o (by decide) q22)⟩, hMm⟩, ⟨⟨_, (upw_o (by decide) q23), s0, s1, s2, s3⟩, ⟨_, _, _, _, (upw_o (by decide) q24), (upw_o (by decide) q25), r0, d0⟩, ⟨_, _, _, _, (upw_o (by decide) q26), (upw_o (by decide) q27), r1, d1⟩, ⟨_, _, _, _, (upw_o (by decide) q28), (upw_o (by decide) q29), r2, d2⟩, ⟨_, _, _, _, (upw_o (by decide) q30), (upw_o (by decide) q31), r3, d3⟩⟩⟩, (fun k hk => upw_o (by omega) ((fun (k : Nat) (_ : 32 ≤ k) => rfl) k hk))⟩⟩))
    · refine gj_bipush dX8_lay_14 rfl ?_
      exact gj_iret dX8_lay_16 rfl (Or.inr (Or.inr ⟨by omega, rfl, rfl⟩))
set_option maxRecDepth 20000 in
set_option maxHeartbeats 4000000 in
theorem tLay2 {l : Launch} {x : Cx} {d : Nat} {w : AW} {tx : Int → Int} {by0 : Int} {ru fa fe : Int → Int} {fc lw br me : Int} {mh ml mw : Int → Int} {mn fi : Int} {fm ln : Int → Int} {it : Int → Int → Int} {f0 j v : Int} (hd : 2 ≤ d) (hC : ClassC w tx by0 ru fa fe fc lw br me mh ml mw mn fi fm ln it) (hf0 : R32 f0) (hj : R32 j) (hv : R32 v) : Mt l x iX8_lay d 0 0 50 w [vR 0, vI 2, vI f0, vI j, vI v] (fun v2 w2 => (((0 ≤ (2 : Int) ∧ (2 : Int) ≤ 3) ∧ (0 ≤ f0 ∧ f0 ≤ 2)) ∧ wrA (fm (2 : Int)) (ln (2 : Int)) f0 j = 0 ∧ v2 = some (vI 1) ∧ ClassC w2 tx by0 ru fa fe fc lw br me mh ml mw mn fi fm ln (upi it (2 : Int) (upf (it (2 : Int)) j (cutF f0 v))) ∧ ∀ k : Nat, 32 ≤ k → w2 k = w k) ∨ (((0 ≤ (2 : Int) ∧ (2 : Int) ≤ 3) ∧ (0 ≤ f0 ∧ f0 ≤ 2)) ∧ wrA (fm (2 : Int)) (ln (2 : Int)) f0 j ≠ 0 ∧ v2 = some (vI (-10 - wrA (fm (2 : Int)) (ln (2 : Int)) f0 j)) ∧ ClassC w2 tx by0 ru fa fe fc lw br me mh ml mw mn (wrA (fm (2 : Int)) (ln (2 : Int)) f0 j) fm ln it ∧ ∀ k : Nat, 32 ≤ k → w2 k = w k) ∨ (¬ ((0 ≤ (2 : Int) ∧ (2 : Int) ≤ 3) ∧ (0 ≤ f0 ∧ f0 ≤ 2)) ∧ v2 = some (vI (-2)) ∧ w2 = w)) := by
  have hC0 := hC
  obtain ⟨q0, ⟨on, ot, ho, wy, nu, fl, ⟨q1, q2, q3, q4, q5, q6⟩, hRd⟩, ⟨fd, ⟨q9, q10, q11⟩, ⟨q7, q8⟩, hO⟩, ⟨la, be, ne, q12, q13, q14⟩, ⟨sl, q15⟩, hbm, ⟨go, st, bn, B, ra, rb, q16, q17, q18⟩, ⟨⟨q19, q20, q21, q22⟩, hMm⟩, hSh⟩ := hC
  have hW : WarC w fa (warB lw fa ru fe fc) := ⟨fe, ru, fc, fd, lw, ⟨q9, q10, q11⟩, ⟨q7, q8⟩, hO, rfl⟩
  have hE := hRd.ed
  have hM := hRd.mat
  obtain ⟨⟨sf, q23, s0, s1, s2, s3⟩, ⟨fo0, le0, lo0, g0, q24, q25, r0, d0⟩, ⟨fo1, le1, lo1, g1, q26, q27, r1, d1⟩, ⟨fo2, le2, lo2, g2, q28, q29, r2, d2⟩, ⟨fo3, le3, lo3, g3, q30, q31, r3, d3⟩⟩ := hSh
  have w9 := wrA_R (fm 2) (ln 2) f0 j
  refine Mt.of (L0 := [some (vR 0), some (vI 2), some (vI f0), some (vI j), some (vI v), none]) rfl rfl rfl ?_
  refine gj_il1 dX8_lay_0 ?_
  refine gj_cS1r dX8_lay_1 mX8_120 hX8_isSheet (by omega) rfl (tX8_isSheet  (by omega) (by omega)) ?_
  refine gj_ifB_eq dX8_lay_4 (fun h4 => ?_) (fun h4 => ?_)
  · exact absurd (by omega) h4
  · refine gj_il2 dX8_lay_7 ?_
    refine gj_cS1r dX8_lay_8 mX8_248 hX8_isForm (by omega) rfl (tX8_isForm  (by omega) (by omega)) ?_
    refine gj_ifB_ne dX8_lay_11 (fun h11 => ?_) (fun h11 => ?_)
    · refine gj_al0 dX8_lay_17 ?_
      refine gj_il1 dX8_lay_18 ?_
      refine gj_il2 dX8_lay_19 ?_
      refine gj_il3 dX8_lay_20 ?_
      refine gj_cV3r dX8_lay_21 mX8_255 hX8_wrongItem q0 rfl (by omega) rfl (tWrong2  (by omega) hC0 (by omega) (by omega)) ?_
      refine gj_is5 dX8_lay_24 rfl rfl ?_
      refine gj_il5 dX8_lay_26 ?_
      refine gj_if_eq dX8_lay_28 (by omega) (fun h28 => ?_) (fun h28 => ?_)
      · have wz : fm 2 ≠ -1 ∧ fm 2 = f0 ∧ (0 ≤ j ∧ j ≤ ln 2 - 1) := by
          have z := h28
          unfold wrA at z
          by_cases c1 : fm 2 = -1
          · rw [if_pos c1] at z; omega
          · rw [if_neg c1] at z
            by_cases c2 : fm 2 ≠ f0
            · rw [if_pos c2] at z; omega
            · rw [if_neg c2] at z
              by_cases c3 : 0 ≤ j ∧ j ≤ ln 2 - 1
              · exact ⟨c1, Decidable.not_not.mp c2, c3⟩
              · rw [if_neg c3] at z; omega
        obtain ⟨e2, y2, m2, n2, t2, v2⟩ : lo2 = 0 ∧ fm 2 = fo2 ∧ (0 ≤ fo2 ∧ fo2 ≤ 2) ∧ ln 2 = le2 ∧ (0 ≤ le2 ∧ le2 ≤ 60) ∧ ∀ j : Int, 0 ≤ j → j < le2 → g2 j = it 2 j ∧ R32 (g2 j) := d2.resolve_left (fun z => absurd z.2 (by omega))
        refine gj_al0 dX8_lay_38 ?_
        refine gj_get dX8_lay_39 fX8_66 q0 rfl rfl ?_
        refine gj_il1 dX8_lay_42 ?_
        refine gj_aald dX8_lay_43 q23 rfl rfl (by omega) s2 ?_
        refine gj_il3 dX8_lay_44 ?_
        refine gj_il4 dX8_lay_45 ?_
        refine gj_cV2v dX8_lay_47 mX8_258 hX7_put q28 rfl (by omega) rfl (tX7_put2  (by omega) ⟨q28, q29⟩ (by omega) (by omega)) (fun w47 P47 => ?_)
        obtain rfl := P47
        refine gj_iconst dX8_lay_50 ?_
        exact gj_iret dX8_lay_51 rfl (Or.inl ⟨⟨by omega, by omega⟩, h28, rfl, ⟨⟨(upw_o (by decide) q0), ⟨_, _, _, _, _, _, ⟨(upw_o (by decide) q1), (upw_o (by decide) q2), (upw_o (by decide) q3), (upw_o (by decide) q4), (upw_o (by decide) q5), (upw_o (by decide) q6)⟩, hRd⟩, ⟨_, ⟨(upw_o (by decide) q9), (upw_o (by decide) q10), (upw_o (by decide) q11)⟩, ⟨(upw_o (by decide) q7), (upw_o (by decide) q8)⟩, hO⟩, ⟨_, _, _, (upw_o (by decide) q12), (upw_o (by decide) q13), (upw_o (by decide) q14)⟩, ⟨_, (upw_o (by decide) q15)⟩, hbm, ⟨_, _, _, B, _, _, (upw_o (by decide) q16), (upw_o (by decide) q17), (upw_o (by decide) q18)⟩, ⟨⟨(upw_o (by decide) q19), (upw_o (by decide) q20), (upw_o (by decide) q21), (upw_o (by decide) q22)⟩, hMm⟩, ⟨⟨_, (upw_o (by decide) q23), s0, s1, s2, s3⟩, ⟨_, _, _, _, (upw_o (by decide) q24), (upw_o (by decide) q25), r0, d0⟩, ⟨_, _, _, _, (upw_o (by decide) q26), (upw_o (by decide) q27), r1, d1⟩, ⟨_, _, _, _, (upw_o (by decide) q28), upw_s, r2, Or.inr ⟨e2, y2, m2, n2, t2, fun q g8 g9 => by
                    show upf g2 j (cutF fo2 v) q = upf (it 2) j (cutF f0 v) q ∧ R32 (upf g2 j (cutF fo2 v) q)
                    rw [show f0 = fo2 by omega]
                    by_cases e : q = j
                    · rw [e, upf_s, upf_s]; exact ⟨rfl, cutF_R hv⟩
                    · rw [upf_o _ _ e, upf_o _ _ e]; exact v2 q g8 g9⟩⟩, ⟨_, _, _, _, (upw_o (by decide) q30), (upw_o (by decide) q31), r3, d3⟩⟩⟩, (fun k hk => upw_o (by omega) ((fun (k : Nat) (_ : 32 ≤ k) => rfl) k hk))⟩⟩)
      · refine gj_al0 dX8_lay_31 ?_
        refine gj_il5 dX8_lay_32 ?_
        refine gj_cV1w dX8_lay_34 mX8_127 hX8_found q0 rfl (by omega) rfl (tX8_found  (by omega) q0) (fun w34 P34 => ?_)
        obtain rfl := P34
        exact gj_iret dX8_lay_37 rfl (Or.inr (Or.inl ⟨⟨by omega, by omega⟩, h28, rfl, ⟨⟨upw_s, ⟨_, _, _, _, _, _, ⟨(upw_o (by decide) q1), (upw_o (by decide) q2), (upw_o (by decide) q3), (upw_o (by decide) q4), (upw_o (by decide) q5), (upw_o (by decide) q6)⟩, hRd⟩, ⟨_, ⟨(upw_o (by decide) q9), (upw_o (by decide) q10), (upw_o (by decide) q11)⟩, ⟨(upw_o (by decide) q7), (upw_o (by decide) q8)⟩, hO⟩, ⟨_, _, _, (upw_o (by decide) q12), (upw_o (by decide) q13), (upw_o (by decide) q14)⟩, ⟨_, (upw_o (by decide) q15)⟩, hbm, ⟨_, _, _, B, _, _, (upw_o (by decide) q16), (upw_o (by decide) q17), (upw_o (by decide) q18)⟩, ⟨⟨(upw_o (by decide) q19), (upw_o (by decide) q20), (upw_o (by decide) q21), (upw_o (by decide) q22)⟩, hMm⟩, ⟨⟨_, (upw_o (by decide) q23), s0, s1, s2, s3⟩, ⟨_, _, _, _, (upw_o (by decide) q24), (upw_o (by decide) q25), r0, d0⟩, ⟨_, _, _, _, (upw_o (by decide) q26), (upw_o (by decide) q27), r1, d1⟩, ⟨_, _, _, _, (upw_o (by decide) q28), (upw_o (by decide) q29), r2, d2⟩, ⟨_, _, _, _, (upw_o (by decide) q30), (upw_o (by decide) q31), r3, d3⟩⟩⟩, (fun k hk => upw_o (by omega) ((fun (k : Nat) (_ : 32 ≤ k) => rfl) k hk))⟩⟩))
    · refine gj_bipush dX8_lay_14 rfl ?_
      exact gj_iret dX8_lay_16 rfl (Or.inr (Or.inr ⟨by omega, rfl, rfl⟩))
set_option maxRecDepth 20000 in
set_option maxHeartbeats 4000000 in
theorem tLay3 {l : Launch} {x : Cx} {d : Nat} {w : AW} {tx : Int → Int} {by0 : Int} {ru fa fe : Int → Int} {fc lw br me : Int} {mh ml mw : Int → Int} {mn fi : Int} {fm ln : Int → Int} {it : Int → Int → Int} {f0 j v : Int} (hd : 2 ≤ d) (hC : ClassC w tx by0 ru fa fe fc lw br me mh ml mw mn fi fm ln it) (hf0 : R32 f0) (hj : R32 j) (hv : R32 v) : Mt l x iX8_lay d 0 0 50 w [vR 0, vI 3, vI f0, vI j, vI v] (fun v2 w2 => (((0 ≤ (3 : Int) ∧ (3 : Int) ≤ 3) ∧ (0 ≤ f0 ∧ f0 ≤ 2)) ∧ wrA (fm (3 : Int)) (ln (3 : Int)) f0 j = 0 ∧ v2 = some (vI 1) ∧ ClassC w2 tx by0 ru fa fe fc lw br me mh ml mw mn fi fm ln (upi it (3 : Int) (upf (it (3 : Int)) j (cutF f0 v))) ∧ ∀ k : Nat, 32 ≤ k → w2 k = w k) ∨ (((0 ≤ (3 : Int) ∧ (3 : Int) ≤ 3) ∧ (0 ≤ f0 ∧ f0 ≤ 2)) ∧ wrA (fm (3 : Int)) (ln (3 : Int)) f0 j ≠ 0 ∧ v2 = some (vI (-10 - wrA (fm (3 : Int)) (ln (3 : Int)) f0 j)) ∧ ClassC w2 tx by0 ru fa fe fc lw br me mh ml mw mn (wrA (fm (3 : Int)) (ln (3 : Int)) f0 j) fm ln it ∧ ∀ k : Nat, 32 ≤ k → w2 k = w k) ∨ (¬ ((0 ≤ (3 : Int) ∧ (3 : Int) ≤ 3) ∧ (0 ≤ f0 ∧ f0 ≤ 2)) ∧ v2 = some (vI (-2)) ∧ w2 = w)) := by
  have hC0 := hC
  obtain ⟨q0, ⟨on, ot, ho, wy, nu, fl, ⟨q1, q2, q3, q4, q5, q6⟩, hRd⟩, ⟨fd, ⟨q9, q10, q11⟩, ⟨q7, q8⟩, hO⟩, ⟨la, be, ne, q12, q13, q14⟩, ⟨sl, q15⟩, hbm, ⟨go, st, bn, B, ra, rb, q16, q17, q18⟩, ⟨⟨q19, q20, q21, q22⟩, hMm⟩, hSh⟩ := hC
  have hW : WarC w fa (warB lw fa ru fe fc) := ⟨fe, ru, fc, fd, lw, ⟨q9, q10, q11⟩, ⟨q7, q8⟩, hO, rfl⟩
  have hE := hRd.ed
  have hM := hRd.mat
  obtain ⟨⟨sf, q23, s0, s1, s2, s3⟩, ⟨fo0, le0, lo0, g0, q24, q25, r0, d0⟩, ⟨fo1, le1, lo1, g1, q26, q27, r1, d1⟩, ⟨fo2, le2, lo2, g2, q28, q29, r2, d2⟩, ⟨fo3, le3, lo3, g3, q30, q31, r3, d3⟩⟩ := hSh
  have w9 := wrA_R (fm 3) (ln 3) f0 j
  refine Mt.of (L0 := [some (vR 0), some (vI 3), some (vI f0), some (vI j), some (vI v), none]) rfl rfl rfl ?_
  refine gj_il1 dX8_lay_0 ?_
  refine gj_cS1r dX8_lay_1 mX8_120 hX8_isSheet (by omega) rfl (tX8_isSheet  (by omega) (by omega)) ?_
  refine gj_ifB_eq dX8_lay_4 (fun h4 => ?_) (fun h4 => ?_)
  · exact absurd (by omega) h4
  · refine gj_il2 dX8_lay_7 ?_
    refine gj_cS1r dX8_lay_8 mX8_248 hX8_isForm (by omega) rfl (tX8_isForm  (by omega) (by omega)) ?_
    refine gj_ifB_ne dX8_lay_11 (fun h11 => ?_) (fun h11 => ?_)
    · refine gj_al0 dX8_lay_17 ?_
      refine gj_il1 dX8_lay_18 ?_
      refine gj_il2 dX8_lay_19 ?_
      refine gj_il3 dX8_lay_20 ?_
      refine gj_cV3r dX8_lay_21 mX8_255 hX8_wrongItem q0 rfl (by omega) rfl (tWrong3  (by omega) hC0 (by omega) (by omega)) ?_
      refine gj_is5 dX8_lay_24 rfl rfl ?_
      refine gj_il5 dX8_lay_26 ?_
      refine gj_if_eq dX8_lay_28 (by omega) (fun h28 => ?_) (fun h28 => ?_)
      · have wz : fm 3 ≠ -1 ∧ fm 3 = f0 ∧ (0 ≤ j ∧ j ≤ ln 3 - 1) := by
          have z := h28
          unfold wrA at z
          by_cases c1 : fm 3 = -1
          · rw [if_pos c1] at z; omega
          · rw [if_neg c1] at z
            by_cases c2 : fm 3 ≠ f0
            · rw [if_pos c2] at z; omega
            · rw [if_neg c2] at z
              by_cases c3 : 0 ≤ j ∧ j ≤ ln 3 - 1
              · exact ⟨c1, Decidable.not_not.mp c2, c3⟩
              · rw [if_neg c3] at z; omega
        obtain ⟨e3, y3, m3, n3, t3, v3⟩ : lo3 = 0 ∧ fm 3 = fo3 ∧ (0 ≤ fo3 ∧ fo3 ≤ 2) ∧ ln 3 = le3 ∧ (0 ≤ le3 ∧ le3 ≤ 60) ∧ ∀ j : Int, 0 ≤ j → j < le3 → g3 j = it 3 j ∧ R32 (g3 j) := d3.resolve_left (fun z => absurd z.2 (by omega))
        refine gj_al0 dX8_lay_38 ?_
        refine gj_get dX8_lay_39 fX8_66 q0 rfl rfl ?_
        refine gj_il1 dX8_lay_42 ?_
        refine gj_aald dX8_lay_43 q23 rfl rfl (by omega) s3 ?_
        refine gj_il3 dX8_lay_44 ?_
        refine gj_il4 dX8_lay_45 ?_
        refine gj_cV2v dX8_lay_47 mX8_258 hX7_put q30 rfl (by omega) rfl (tX7_put3  (by omega) ⟨q30, q31⟩ (by omega) (by omega)) (fun w47 P47 => ?_)
        obtain rfl := P47
        refine gj_iconst dX8_lay_50 ?_
        exact gj_iret dX8_lay_51 rfl (Or.inl ⟨⟨by omega, by omega⟩, h28, rfl, ⟨⟨(upw_o (by decide) q0), ⟨_, _, _, _, _, _, ⟨(upw_o (by decide) q1), (upw_o (by decide) q2), (upw_o (by decide) q3), (upw_o (by decide) q4), (upw_o (by decide) q5), (upw_o (by decide) q6)⟩, hRd⟩, ⟨_, ⟨(upw_o (by decide) q9), (upw_o (by decide) q10), (upw_o (by decide) q11)⟩, ⟨(upw_o (by decide) q7), (upw_o (by decide) q8)⟩, hO⟩, ⟨_, _, _, (upw_o (by decide) q12), (upw_o (by decide) q13), (upw_o (by decide) q14)⟩, ⟨_, (upw_o (by decide) q15)⟩, hbm, ⟨_, _, _, B, _, _, (upw_o (by decide) q16), (upw_o (by decide) q17), (upw_o (by decide) q18)⟩, ⟨⟨(upw_o (by decide) q19), (upw_o (by decide) q20), (upw_o (by decide) q21), (upw_o (by decide) q22)⟩, hMm⟩, ⟨⟨_, (upw_o (by decide) q23), s0, s1, s2, s3⟩, ⟨_, _, _, _, (upw_o (by decide) q24), (upw_o (by decide) q25), r0, d0⟩, ⟨_, _, _, _, (upw_o (by decide) q26), (upw_o (by decide) q27), r1, d1⟩, ⟨_, _, _, _, (upw_o (by decide) q28), (upw_o (by decide) q29), r2, d2⟩, ⟨_, _, _, _, (upw_o (by decide) q30), upw_s, r3, Or.inr ⟨e3, y3, m3, n3, t3, fun q g8 g9 => by
                    show upf g3 j (cutF fo3 v) q = upf (it 3) j (cutF f0 v) q ∧ R32 (upf g3 j (cutF fo3 v) q)
                    rw [show f0 = fo3 by omega]
                    by_cases e : q = j
                    · rw [e, upf_s, upf_s]; exact ⟨rfl, cutF_R hv⟩
                    · rw [upf_o _ _ e, upf_o _ _ e]; exact v3 q g8 g9⟩⟩⟩⟩, (fun k hk => upw_o (by omega) ((fun (k : Nat) (_ : 32 ≤ k) => rfl) k hk))⟩⟩)
      · refine gj_al0 dX8_lay_31 ?_
        refine gj_il5 dX8_lay_32 ?_
        refine gj_cV1w dX8_lay_34 mX8_127 hX8_found q0 rfl (by omega) rfl (tX8_found  (by omega) q0) (fun w34 P34 => ?_)
        obtain rfl := P34
        exact gj_iret dX8_lay_37 rfl (Or.inr (Or.inl ⟨⟨by omega, by omega⟩, h28, rfl, ⟨⟨upw_s, ⟨_, _, _, _, _, _, ⟨(upw_o (by decide) q1), (upw_o (by decide) q2), (upw_o (by decide) q3), (upw_o (by decide) q4), (upw_o (by decide) q5), (upw_o (by decide) q6)⟩, hRd⟩, ⟨_, ⟨(upw_o (by decide) q9), (upw_o (by decide) q10), (upw_o (by decide) q11)⟩, ⟨(upw_o (by decide) q7), (upw_o (by decide) q8)⟩, hO⟩, ⟨_, _, _, (upw_o (by decide) q12), (upw_o (by decide) q13), (upw_o (by decide) q14)⟩, ⟨_, (upw_o (by decide) q15)⟩, hbm, ⟨_, _, _, B, _, _, (upw_o (by decide) q16), (upw_o (by decide) q17), (upw_o (by decide) q18)⟩, ⟨⟨(upw_o (by decide) q19), (upw_o (by decide) q20), (upw_o (by decide) q21), (upw_o (by decide) q22)⟩, hMm⟩, ⟨⟨_, (upw_o (by decide) q23), s0, s1, s2, s3⟩, ⟨_, _, _, _, (upw_o (by decide) q24), (upw_o (by decide) q25), r0, d0⟩, ⟨_, _, _, _, (upw_o (by decide) q26), (upw_o (by decide) q27), r1, d1⟩, ⟨_, _, _, _, (upw_o (by decide) q28), (upw_o (by decide) q29), r2, d2⟩, ⟨_, _, _, _, (upw_o (by decide) q30), (upw_o (by decide) q31), r3, d3⟩⟩⟩, (fun k hk => upw_o (by omega) ((fun (k : Nat) (_ : 32 ≤ k) => rfl) k hk))⟩⟩))
    · refine gj_bipush dX8_lay_14 rfl ?_
      exact gj_iret dX8_lay_16 rfl (Or.inr (Or.inr ⟨by omega, rfl, rfl⟩))
set_option maxRecDepth 20000 in
set_option maxHeartbeats 4000000 in
theorem tLayB {l : Launch} {x : Cx} {d : Nat} {w : AW} {tx : Int → Int} {by0 : Int} {ru fa fe : Int → Int} {fc lw br me : Int} {mh ml mw : Int → Int} {mn fi : Int} {fm ln : Int → Int} {it : Int → Int → Int} {s : Int} {f0 j v : Int} (hd : 2 ≤ d) (hC : ClassC w tx by0 ru fa fe fc lw br me mh ml mw mn fi fm ln it) (hs : R32 s) (hf0 : R32 f0) (hj : R32 j) (hv : R32 v) (hs9 : ¬ (0 ≤ s ∧ s ≤ 3)) : Mt l x iX8_lay d 0 0 50 w [vR 0, vI s, vI f0, vI j, vI v] (fun v2 w2 => (((0 ≤ s ∧ s ≤ 3) ∧ (0 ≤ f0 ∧ f0 ≤ 2)) ∧ wrA (fm s) (ln s) f0 j = 0 ∧ v2 = some (vI 1) ∧ ClassC w2 tx by0 ru fa fe fc lw br me mh ml mw mn fi fm ln (upi it s (upf (it s) j (cutF f0 v))) ∧ ∀ k : Nat, 32 ≤ k → w2 k = w k) ∨ (((0 ≤ s ∧ s ≤ 3) ∧ (0 ≤ f0 ∧ f0 ≤ 2)) ∧ wrA (fm s) (ln s) f0 j ≠ 0 ∧ v2 = some (vI (-10 - wrA (fm s) (ln s) f0 j)) ∧ ClassC w2 tx by0 ru fa fe fc lw br me mh ml mw mn (wrA (fm s) (ln s) f0 j) fm ln it ∧ ∀ k : Nat, 32 ≤ k → w2 k = w k) ∨ (¬ ((0 ≤ s ∧ s ≤ 3) ∧ (0 ≤ f0 ∧ f0 ≤ 2)) ∧ v2 = some (vI (-2)) ∧ w2 = w)) := by
  have hC0 := hC
  obtain ⟨q0, ⟨on, ot, ho, wy, nu, fl, ⟨q1, q2, q3, q4, q5, q6⟩, hRd⟩, ⟨fd, ⟨q9, q10, q11⟩, ⟨q7, q8⟩, hO⟩, ⟨la, be, ne, q12, q13, q14⟩, ⟨sl, q15⟩, hbm, ⟨go, st, bn, B, ra, rb, q16, q17, q18⟩, ⟨⟨q19, q20, q21, q22⟩, hMm⟩, hSh⟩ := hC
  have hW : WarC w fa (warB lw fa ru fe fc) := ⟨fe, ru, fc, fd, lw, ⟨q9, q10, q11⟩, ⟨q7, q8⟩, hO, rfl⟩
  have hE := hRd.ed
  have hM := hRd.mat
  obtain ⟨⟨sf, q23, s0, s1, s2, s3⟩, ⟨fo0, le0, lo0, g0, q24, q25, r0, d0⟩, ⟨fo1, le1, lo1, g1, q26, q27, r1, d1⟩, ⟨fo2, le2, lo2, g2, q28, q29, r2, d2⟩, ⟨fo3, le3, lo3, g3, q30, q31, r3, d3⟩⟩ := hSh
  refine Mt.of (L0 := [some (vR 0), some (vI s), some (vI f0), some (vI j), some (vI v), none]) rfl rfl rfl ?_
  refine gj_il1 dX8_lay_0 ?_
  refine gj_cS1r dX8_lay_1 mX8_120 hX8_isSheet (by omega) rfl (tX8_isSheet  (by omega) (by omega)) ?_
  refine gj_ifB_eq dX8_lay_4 (fun h4 => ?_) (fun h4 => ?_)
  · refine gj_bipush dX8_lay_14 rfl ?_
    exact gj_iret dX8_lay_16 rfl (Or.inr (Or.inr ⟨by omega, rfl, rfl⟩))
  · exact absurd h4 hs9
theorem tLay {l : Launch} {x : Cx} {d : Nat} {w : AW} {tx : Int → Int} {by0 : Int} {ru fa fe : Int → Int} {fc lw br me : Int} {mh ml mw : Int → Int} {mn fi : Int} {fm ln : Int → Int} {it : Int → Int → Int} {s : Int} {f0 j v : Int} (hd : 2 ≤ d) (hC : ClassC w tx by0 ru fa fe fc lw br me mh ml mw mn fi fm ln it) (hs : R32 s) (hf0 : R32 f0) (hj : R32 j) (hv : R32 v) : Mt l x iX8_lay d 0 0 50 w [vR 0, vI s, vI f0, vI j, vI v] (fun v2 w2 => (((0 ≤ s ∧ s ≤ 3) ∧ (0 ≤ f0 ∧ f0 ≤ 2)) ∧ wrA (fm s) (ln s) f0 j = 0 ∧ v2 = some (vI 1) ∧ ClassC w2 tx by0 ru fa fe fc lw br me mh ml mw mn fi fm ln (upi it s (upf (it s) j (cutF f0 v))) ∧ ∀ k : Nat, 32 ≤ k → w2 k = w k) ∨ (((0 ≤ s ∧ s ≤ 3) ∧ (0 ≤ f0 ∧ f0 ≤ 2)) ∧ wrA (fm s) (ln s) f0 j ≠ 0 ∧ v2 = some (vI (-10 - wrA (fm s) (ln s) f0 j)) ∧ ClassC w2 tx by0 ru fa fe fc lw br me mh ml mw mn (wrA (fm s) (ln s) f0 j) fm ln it ∧ ∀ k : Nat, 32 ≤ k → w2 k = w k) ∨ (¬ ((0 ≤ s ∧ s ≤ 3) ∧ (0 ≤ f0 ∧ f0 ≤ 2)) ∧ v2 = some (vI (-2)) ∧ w2 = w)) := by
  by_cases c : 0 ≤ s ∧ s ≤ 3
  · rcases (show s = 0 ∨ s = 1 ∨ s = 2 ∨ s = 3 by omega) with rfl | rfl | rfl | rfl
    · exact tLay0 (by omega) hC hf0 hj hv
    · exact tLay1 (by omega) hC hf0 hj hv
    · exact tLay2 (by omega) hC hf0 hj hv
    · exact tLay3 (by omega) hC hf0 hj hv
  · exact tLayB (by omega) hC hs hf0 hj hv c
set_option maxRecDepth 20000 in
set_option maxHeartbeats 4000000 in
theorem tGet0 {l : Launch} {x : Cx} {d : Nat} {w : AW} {tx : Int → Int} {by0 : Int} {ru fa fe : Int → Int} {fc lw br me : Int} {mh ml mw : Int → Int} {mn fi : Int} {fm ln : Int → Int} {it : Int → Int → Int} {f0 j : Int} (hd : 2 ≤ d) (hC : ClassC w tx by0 ru fa fe fc lw br me mh ml mw mn fi fm ln it) (hf0 : R32 f0) (hj : R32 j) : Mt l x iX8_get d 0 0 50 w [vR 0, vI 0, vI f0, vI j] (fun v2 w2 => (((0 ≤ (0 : Int) ∧ (0 : Int) ≤ 3) ∧ (0 ≤ f0 ∧ f0 ≤ 2)) ∧ wrA (fm (0 : Int)) (ln (0 : Int)) f0 j = 0 ∧ v2 = some (vI (it (0 : Int) j)) ∧ w2 = w) ∨ (((0 ≤ (0 : Int) ∧ (0 : Int) ≤ 3) ∧ (0 ≤ f0 ∧ f0 ≤ 2)) ∧ wrA (fm (0 : Int)) (ln (0 : Int)) f0 j ≠ 0 ∧ v2 = some (vI (-2147483648)) ∧ ClassC w2 tx by0 ru fa fe fc lw br me mh ml mw mn (wrA (fm (0 : Int)) (ln (0 : Int)) f0 j) fm ln it ∧ ∀ k : Nat, 32 ≤ k → w2 k = w k) ∨ (¬ ((0 ≤ (0 : Int) ∧ (0 : Int) ≤ 3) ∧ (0 ≤ f0 ∧ f0 ≤ 2)) ∧ v2 = some (vI (-2147483648)) ∧ w2 = w)) := by
  have hC0 := hC
  obtain ⟨q0, ⟨on, ot, ho, wy, nu, fl, ⟨q1, q2, q3, q4, q5, q6⟩, hRd⟩, ⟨fd, ⟨q9, q10, q11⟩, ⟨q7, q8⟩, hO⟩, ⟨la, be, ne, q12, q13, q14⟩, ⟨sl, q15⟩, hbm, ⟨go, st, bn, B, ra, rb, q16, q17, q18⟩, ⟨⟨q19, q20, q21, q22⟩, hMm⟩, hSh⟩ := hC
  have hW : WarC w fa (warB lw fa ru fe fc) := ⟨fe, ru, fc, fd, lw, ⟨q9, q10, q11⟩, ⟨q7, q8⟩, hO, rfl⟩
  have hE := hRd.ed
  have hM := hRd.mat
  obtain ⟨⟨sf, q23, s0, s1, s2, s3⟩, ⟨fo0, le0, lo0, g0, q24, q25, r0, d0⟩, ⟨fo1, le1, lo1, g1, q26, q27, r1, d1⟩, ⟨fo2, le2, lo2, g2, q28, q29, r2, d2⟩, ⟨fo3, le3, lo3, g3, q30, q31, r3, d3⟩⟩ := hSh
  have w9 := wrA_R (fm 0) (ln 0) f0 j
  refine Mt.of (L0 := [some (vR 0), some (vI 0), some (vI f0), some (vI j), none]) rfl rfl rfl ?_
  refine gj_il1 dX8_get_0 ?_
  refine gj_cS1r dX8_get_1 mX8_120 hX8_isSheet (by omega) rfl (tX8_isSheet  (by omega) (by omega)) ?_
  refine gj_ifB_eq dX8_get_4 (fun h4 => ?_) (fun h4 => ?_)
  · exact absurd (by omega) h4
  · refine gj_il2 dX8_get_7 ?_
    refine gj_cS1r dX8_get_8 mX8_248 hX8_isForm (by omega) rfl (tX8_isForm  (by omega) (by omega)) ?_
    refine gj_ifB_ne dX8_get_11 (fun h11 => ?_) (fun h11 => ?_)
    · refine gj_al0 dX8_get_18 ?_
      refine gj_il1 dX8_get_19 ?_
      refine gj_il2 dX8_get_20 ?_
      refine gj_il3 dX8_get_21 ?_
      refine gj_cV3r dX8_get_22 mX8_255 hX8_wrongItem q0 rfl (by omega) rfl (tWrong0  (by omega) hC0 (by omega) (by omega)) ?_
      refine gj_is4 dX8_get_25 rfl rfl ?_
      refine gj_il4 dX8_get_27 ?_
      refine gj_if_eq dX8_get_29 (by omega) (fun h29 => ?_) (fun h29 => ?_)
      · have wz : fm 0 ≠ -1 ∧ fm 0 = f0 ∧ (0 ≤ j ∧ j ≤ ln 0 - 1) := by
          have z := h29
          unfold wrA at z
          by_cases c1 : fm 0 = -1
          · rw [if_pos c1] at z; omega
          · rw [if_neg c1] at z
            by_cases c2 : fm 0 ≠ f0
            · rw [if_pos c2] at z; omega
            · rw [if_neg c2] at z
              by_cases c3 : 0 ≤ j ∧ j ≤ ln 0 - 1
              · exact ⟨c1, Decidable.not_not.mp c2, c3⟩
              · rw [if_neg c3] at z; omega
        obtain ⟨e0, y0, m0, n0, t0, v0⟩ : lo0 = 0 ∧ fm 0 = fo0 ∧ (0 ≤ fo0 ∧ fo0 ≤ 2) ∧ ln 0 = le0 ∧ (0 ≤ le0 ∧ le0 ≤ 60) ∧ ∀ j : Int, 0 ≤ j → j < le0 → g0 j = it 0 j ∧ R32 (g0 j) := d0.resolve_left (fun z => absurd z.2 (by omega))
        refine gj_al0 dX8_get_42 ?_
        refine gj_get dX8_get_43 fX8_66 q0 rfl rfl ?_
        refine gj_il1 dX8_get_46 ?_
        refine gj_aald dX8_get_47 q23 rfl rfl (by omega) s0 ?_
        refine gj_get dX8_get_48 fX8_138 q24 rfl rfl ?_
        refine gj_il3 dX8_get_51 ?_
        refine gj_iald dX8_get_52 q25 rfl rfl (by omega) ?_
        exact gj_iret dX8_get_53 rfl (Or.inl ⟨⟨by omega, by omega⟩, h29, by rw [(v0 j wz.2.2.1 (by omega)).1], rfl⟩)
      · refine gj_al0 dX8_get_32 ?_
        refine gj_il4 dX8_get_33 ?_
        refine gj_pI8 dX8_get_35 fX8_71 q0 rfl ?_
        refine gj_ldcw dX8_get_38 kX8_260 ?_
        exact gj_iret dX8_get_41 rfl (Or.inr (Or.inl ⟨⟨by omega, by omega⟩, h29, rfl, ⟨⟨upw_s, ⟨_, _, _, _, _, _, ⟨(upw_o (by decide) q1), (upw_o (by decide) q2), (upw_o (by decide) q3), (upw_o (by decide) q4), (upw_o (by decide) q5), (upw_o (by decide) q6)⟩, hRd⟩, ⟨_, ⟨(upw_o (by decide) q9), (upw_o (by decide) q10), (upw_o (by decide) q11)⟩, ⟨(upw_o (by decide) q7), (upw_o (by decide) q8)⟩, hO⟩, ⟨_, _, _, (upw_o (by decide) q12), (upw_o (by decide) q13), (upw_o (by decide) q14)⟩, ⟨_, (upw_o (by decide) q15)⟩, hbm, ⟨_, _, _, B, _, _, (upw_o (by decide) q16), (upw_o (by decide) q17), (upw_o (by decide) q18)⟩, ⟨⟨(upw_o (by decide) q19), (upw_o (by decide) q20), (upw_o (by decide) q21), (upw_o (by decide) q22)⟩, hMm⟩, ⟨⟨_, (upw_o (by decide) q23), s0, s1, s2, s3⟩, ⟨_, _, _, _, (upw_o (by decide) q24), (upw_o (by decide) q25), r0, d0⟩, ⟨_, _, _, _, (upw_o (by decide) q26), (upw_o (by decide) q27), r1, d1⟩, ⟨_, _, _, _, (upw_o (by decide) q28), (upw_o (by decide) q29), r2, d2⟩, ⟨_, _, _, _, (upw_o (by decide) q30), (upw_o (by decide) q31), r3, d3⟩⟩⟩, (fun k hk => upw_o (by omega) ((fun (k : Nat) (_ : 32 ≤ k) => rfl) k hk))⟩⟩))
    · refine gj_ldcw dX8_get_14 kX8_260 ?_
      exact gj_iret dX8_get_17 rfl (Or.inr (Or.inr ⟨by omega, rfl, rfl⟩))
set_option maxRecDepth 20000 in
set_option maxHeartbeats 4000000 in
theorem tGet1 {l : Launch} {x : Cx} {d : Nat} {w : AW} {tx : Int → Int} {by0 : Int} {ru fa fe : Int → Int} {fc lw br me : Int} {mh ml mw : Int → Int} {mn fi : Int} {fm ln : Int → Int} {it : Int → Int → Int} {f0 j : Int} (hd : 2 ≤ d) (hC : ClassC w tx by0 ru fa fe fc lw br me mh ml mw mn fi fm ln it) (hf0 : R32 f0) (hj : R32 j) : Mt l x iX8_get d 0 0 50 w [vR 0, vI 1, vI f0, vI j] (fun v2 w2 => (((0 ≤ (1 : Int) ∧ (1 : Int) ≤ 3) ∧ (0 ≤ f0 ∧ f0 ≤ 2)) ∧ wrA (fm (1 : Int)) (ln (1 : Int)) f0 j = 0 ∧ v2 = some (vI (it (1 : Int) j)) ∧ w2 = w) ∨ (((0 ≤ (1 : Int) ∧ (1 : Int) ≤ 3) ∧ (0 ≤ f0 ∧ f0 ≤ 2)) ∧ wrA (fm (1 : Int)) (ln (1 : Int)) f0 j ≠ 0 ∧ v2 = some (vI (-2147483648)) ∧ ClassC w2 tx by0 ru fa fe fc lw br me mh ml mw mn (wrA (fm (1 : Int)) (ln (1 : Int)) f0 j) fm ln it ∧ ∀ k : Nat, 32 ≤ k → w2 k = w k) ∨ (¬ ((0 ≤ (1 : Int) ∧ (1 : Int) ≤ 3) ∧ (0 ≤ f0 ∧ f0 ≤ 2)) ∧ v2 = some (vI (-2147483648)) ∧ w2 = w)) := by
  have hC0 := hC
  obtain ⟨q0, ⟨on, ot, ho, wy, nu, fl, ⟨q1, q2, q3, q4, q5, q6⟩, hRd⟩, ⟨fd, ⟨q9, q10, q11⟩, ⟨q7, q8⟩, hO⟩, ⟨la, be, ne, q12, q13, q14⟩, ⟨sl, q15⟩, hbm, ⟨go, st, bn, B, ra, rb, q16, q17, q18⟩, ⟨⟨q19, q20, q21, q22⟩, hMm⟩, hSh⟩ := hC
  have hW : WarC w fa (warB lw fa ru fe fc) := ⟨fe, ru, fc, fd, lw, ⟨q9, q10, q11⟩, ⟨q7, q8⟩, hO, rfl⟩
  have hE := hRd.ed
  have hM := hRd.mat
  obtain ⟨⟨sf, q23, s0, s1, s2, s3⟩, ⟨fo0, le0, lo0, g0, q24, q25, r0, d0⟩, ⟨fo1, le1, lo1, g1, q26, q27, r1, d1⟩, ⟨fo2, le2, lo2, g2, q28, q29, r2, d2⟩, ⟨fo3, le3, lo3, g3, q30, q31, r3, d3⟩⟩ := hSh
  have w9 := wrA_R (fm 1) (ln 1) f0 j
  refine Mt.of (L0 := [some (vR 0), some (vI 1), some (vI f0), some (vI j), none]) rfl rfl rfl ?_
  refine gj_il1 dX8_get_0 ?_
  refine gj_cS1r dX8_get_1 mX8_120 hX8_isSheet (by omega) rfl (tX8_isSheet  (by omega) (by omega)) ?_
  refine gj_ifB_eq dX8_get_4 (fun h4 => ?_) (fun h4 => ?_)
  · exact absurd (by omega) h4
  · refine gj_il2 dX8_get_7 ?_
    refine gj_cS1r dX8_get_8 mX8_248 hX8_isForm (by omega) rfl (tX8_isForm  (by omega) (by omega)) ?_
    refine gj_ifB_ne dX8_get_11 (fun h11 => ?_) (fun h11 => ?_)
    · refine gj_al0 dX8_get_18 ?_
      refine gj_il1 dX8_get_19 ?_
      refine gj_il2 dX8_get_20 ?_
      refine gj_il3 dX8_get_21 ?_
      refine gj_cV3r dX8_get_22 mX8_255 hX8_wrongItem q0 rfl (by omega) rfl (tWrong1  (by omega) hC0 (by omega) (by omega)) ?_
      refine gj_is4 dX8_get_25 rfl rfl ?_
      refine gj_il4 dX8_get_27 ?_
      refine gj_if_eq dX8_get_29 (by omega) (fun h29 => ?_) (fun h29 => ?_)
      · have wz : fm 1 ≠ -1 ∧ fm 1 = f0 ∧ (0 ≤ j ∧ j ≤ ln 1 - 1) := by
          have z := h29
          unfold wrA at z
          by_cases c1 : fm 1 = -1
          · rw [if_pos c1] at z; omega
          · rw [if_neg c1] at z
            by_cases c2 : fm 1 ≠ f0
            · rw [if_pos c2] at z; omega
            · rw [if_neg c2] at z
              by_cases c3 : 0 ≤ j ∧ j ≤ ln 1 - 1
              · exact ⟨c1, Decidable.not_not.mp c2, c3⟩
              · rw [if_neg c3] at z; omega
        obtain ⟨e1, y1, m1, n1, t1, v1⟩ : lo1 = 0 ∧ fm 1 = fo1 ∧ (0 ≤ fo1 ∧ fo1 ≤ 2) ∧ ln 1 = le1 ∧ (0 ≤ le1 ∧ le1 ≤ 60) ∧ ∀ j : Int, 0 ≤ j → j < le1 → g1 j = it 1 j ∧ R32 (g1 j) := d1.resolve_left (fun z => absurd z.2 (by omega))
        refine gj_al0 dX8_get_42 ?_
        refine gj_get dX8_get_43 fX8_66 q0 rfl rfl ?_
        refine gj_il1 dX8_get_46 ?_
        refine gj_aald dX8_get_47 q23 rfl rfl (by omega) s1 ?_
        refine gj_get dX8_get_48 fX8_138 q26 rfl rfl ?_
        refine gj_il3 dX8_get_51 ?_
        refine gj_iald dX8_get_52 q27 rfl rfl (by omega) ?_
        exact gj_iret dX8_get_53 rfl (Or.inl ⟨⟨by omega, by omega⟩, h29, by rw [(v1 j wz.2.2.1 (by omega)).1], rfl⟩)
      · refine gj_al0 dX8_get_32 ?_
        refine gj_il4 dX8_get_33 ?_
        refine gj_pI8 dX8_get_35 fX8_71 q0 rfl ?_
        refine gj_ldcw dX8_get_38 kX8_260 ?_
        exact gj_iret dX8_get_41 rfl (Or.inr (Or.inl ⟨⟨by omega, by omega⟩, h29, rfl, ⟨⟨upw_s, ⟨_, _, _, _, _, _, ⟨(upw_o (by decide) q1), (upw_o (by decide) q2), (upw_o (by decide) q3), (upw_o (by decide) q4), (upw_o (by decide) q5), (upw_o (by decide) q6)⟩, hRd⟩, ⟨_, ⟨(upw_o (by decide) q9), (upw_o (by decide) q10), (upw_o (by decide) q11)⟩, ⟨(upw_o (by decide) q7), (upw_o (by decide) q8)⟩, hO⟩, ⟨_, _, _, (upw_o (by decide) q12), (upw_o (by decide) q13), (upw_o (by decide) q14)⟩, ⟨_, (upw_o (by decide) q15)⟩, hbm, ⟨_, _, _, B, _, _, (upw_o (by decide) q16), (upw_o (by decide) q17), (upw_o (by decide) q18)⟩, ⟨⟨(upw_o (by decide) q19), (upw_o (by decide) q20), (upw_o (by decide) q21), (upw_o (by decide) q22)⟩, hMm⟩, ⟨⟨_, (upw_o (by decide) q23), s0, s1, s2, s3⟩, ⟨_, _, _, _, (upw_o (by decide) q24), (upw_o (by decide) q25), r0, d0⟩, ⟨_, _, _, _, (upw_o (by decide) q26), (upw_o (by decide) q27), r1, d1⟩, ⟨_, _, _, _, (upw_o (by decide) q28), (upw_o (by decide) q29), r2, d2⟩, ⟨_, _, _, _, (upw_o (by decide) q30), (upw_o (by decide) q31), r3, d3⟩⟩⟩, (fun k hk => upw_o (by omega) ((fun (k : Nat) (_ : 32 ≤ k) => rfl) k hk))⟩⟩))
    · refine gj_ldcw dX8_get_14 kX8_260 ?_
      exact gj_iret dX8_get_17 rfl (Or.inr (Or.inr ⟨by omega, rfl, rfl⟩))
set_option maxRecDepth 20000 in
set_option maxHeartbeats 4000000 in
theorem tGet2 {l : Launch} {x : Cx} {d : Nat} {w : AW} {tx : Int → Int} {by0 : Int} {ru fa fe : Int → Int} {fc lw br me : Int} {mh ml mw : Int → Int} {mn fi : Int} {fm ln : Int → Int} {it : Int → Int → Int} {f0 j : Int} (hd : 2 ≤ d) (hC : ClassC w tx by0 ru fa fe fc lw br me mh ml mw mn fi fm ln it) (hf0 : R32 f0) (hj : R32 j) : Mt l x iX8_get d 0 0 50 w [vR 0, vI 2, vI f0, vI j] (fun v2 w2 => (((0 ≤ (2 : Int) ∧ (2 : Int) ≤ 3) ∧ (0 ≤ f0 ∧ f0 ≤ 2)) ∧ wrA (fm (2 : Int)) (ln (2 : Int)) f0 j = 0 ∧ v2 = some (vI (it (2 : Int) j)) ∧ w2 = w) ∨ (((0 ≤ (2 : Int) ∧ (2 : Int) ≤ 3) ∧ (0 ≤ f0 ∧ f0 ≤ 2)) ∧ wrA (fm (2 : Int)) (ln (2 : Int)) f0 j ≠ 0 ∧ v2 = some (vI (-2147483648)) ∧ ClassC w2 tx by0 ru fa fe fc lw br me mh ml mw mn (wrA (fm (2 : Int)) (ln (2 : Int)) f0 j) fm ln it ∧ ∀ k : Nat, 32 ≤ k → w2 k = w k) ∨ (¬ ((0 ≤ (2 : Int) ∧ (2 : Int) ≤ 3) ∧ (0 ≤ f0 ∧ f0 ≤ 2)) ∧ v2 = some (vI (-2147483648)) ∧ w2 = w)) := by
  have hC0 := hC
  obtain ⟨q0, ⟨on, ot, ho, wy, nu, fl, ⟨q1, q2, q3, q4, q5, q6⟩, hRd⟩, ⟨fd, ⟨q9, q10, q11⟩, ⟨q7, q8⟩, hO⟩, ⟨la, be, ne, q12, q13, q14⟩, ⟨sl, q15⟩, hbm, ⟨go, st, bn, B, ra, rb, q16, q17, q18⟩, ⟨⟨q19, q20, q21, q22⟩, hMm⟩, hSh⟩ := hC
  have hW : WarC w fa (warB lw fa ru fe fc) := ⟨fe, ru, fc, fd, lw, ⟨q9, q10, q11⟩, ⟨q7, q8⟩, hO, rfl⟩
  have hE := hRd.ed
  have hM := hRd.mat
  obtain ⟨⟨sf, q23, s0, s1, s2, s3⟩, ⟨fo0, le0, lo0, g0, q24, q25, r0, d0⟩, ⟨fo1, le1, lo1, g1, q26, q27, r1, d1⟩, ⟨fo2, le2, lo2, g2, q28, q29, r2, d2⟩, ⟨fo3, le3, lo3, g3, q30, q31, r3, d3⟩⟩ := hSh
  have w9 := wrA_R (fm 2) (ln 2) f0 j
  refine Mt.of (L0 := [some (vR 0), some (vI 2), some (vI f0), some (vI j), none]) rfl rfl rfl ?_
  refine gj_il1 dX8_get_0 ?_
  refine gj_cS1r dX8_get_1 mX8_120 hX8_isSheet (by omega) rfl (tX8_isSheet  (by omega) (by omega)) ?_
  refine gj_ifB_eq dX8_get_4 (fun h4 => ?_) (fun h4 => ?_)
  · exact absurd (by omega) h4
  · refine gj_il2 dX8_get_7 ?_
    refine gj_cS1r dX8_get_8 mX8_248 hX8_isForm (by omega) rfl (tX8_isForm  (by omega) (by omega)) ?_
    refine gj_ifB_ne dX8_get_11 (fun h11 => ?_) (fun h11 => ?_)
    · refine gj_al0 dX8_get_18 ?_
      refine gj_il1 dX8_get_19 ?_
      refine gj_il2 dX8_get_20 ?_
      refine gj_il3 dX8_get_21 ?_
      refine gj_cV3r dX8_get_22 mX8_255 hX8_wrongItem q0 rfl (by omega) rfl (tWrong2  (by omega) hC0 (by omega) (by omega)) ?_
      refine gj_is4 dX8_get_25 rfl rfl ?_
      refine gj_il4 dX8_get_27 ?_
      refine gj_if_eq dX8_get_29 (by omega) (fun h29 => ?_) (fun h29 => ?_)
      · have wz : fm 2 ≠ -1 ∧ fm 2 = f0 ∧ (0 ≤ j ∧ j ≤ ln 2 - 1) := by
          have z := h29
          unfold wrA at z
          by_cases c1 : fm 2 = -1
          · rw [if_pos c1] at z; omega
          · rw [if_neg c1] at z
            by_cases c2 : fm 2 ≠ f0
            · rw [if_pos c2] at z; omega
            · rw [if_neg c2] at z
              by_cases c3 : 0 ≤ j ∧ j ≤ ln 2 - 1
              · exact ⟨c1, Decidable.not_not.mp c2, c3⟩
              · rw [if_neg c3] at z; omega
        obtain ⟨e2, y2, m2, n2, t2, v2⟩ : lo2 = 0 ∧ fm 2 = fo2 ∧ (0 ≤ fo2 ∧ fo2 ≤ 2) ∧ ln 2 = le2 ∧ (0 ≤ le2 ∧ le2 ≤ 60) ∧ ∀ j : Int, 0 ≤ j → j < le2 → g2 j = it 2 j ∧ R32 (g2 j) := d2.resolve_left (fun z => absurd z.2 (by omega))
        refine gj_al0 dX8_get_42 ?_
        refine gj_get dX8_get_43 fX8_66 q0 rfl rfl ?_
        refine gj_il1 dX8_get_46 ?_
        refine gj_aald dX8_get_47 q23 rfl rfl (by omega) s2 ?_
        refine gj_get dX8_get_48 fX8_138 q28 rfl rfl ?_
        refine gj_il3 dX8_get_51 ?_
        refine gj_iald dX8_get_52 q29 rfl rfl (by omega) ?_
        exact gj_iret dX8_get_53 rfl (Or.inl ⟨⟨by omega, by omega⟩, h29, by rw [(v2 j wz.2.2.1 (by omega)).1], rfl⟩)
      · refine gj_al0 dX8_get_32 ?_
        refine gj_il4 dX8_get_33 ?_
        refine gj_pI8 dX8_get_35 fX8_71 q0 rfl ?_
        refine gj_ldcw dX8_get_38 kX8_260 ?_
        exact gj_iret dX8_get_41 rfl (Or.inr (Or.inl ⟨⟨by omega, by omega⟩, h29, rfl, ⟨⟨upw_s, ⟨_, _, _, _, _, _, ⟨(upw_o (by decide) q1), (upw_o (by decide) q2), (upw_o (by decide) q3), (upw_o (by decide) q4), (upw_o (by decide) q5), (upw_o (by decide) q6)⟩, hRd⟩, ⟨_, ⟨(upw_o (by decide) q9), (upw_o (by decide) q10), (upw_o (by decide) q11)⟩, ⟨(upw_o (by decide) q7), (upw_o (by decide) q8)⟩, hO⟩, ⟨_, _, _, (upw_o (by decide) q12), (upw_o (by decide) q13), (upw_o (by decide) q14)⟩, ⟨_, (upw_o (by decide) q15)⟩, hbm, ⟨_, _, _, B, _, _, (upw_o (by decide) q16), (upw_o (by decide) q17), (upw_o (by decide) q18)⟩, ⟨⟨(upw_o (by decide) q19), (upw_o (by decide) q20), (upw_o (by decide) q21), (upw_o (by decide) q22)⟩, hMm⟩, ⟨⟨_, (upw_o (by decide) q23), s0, s1, s2, s3⟩, ⟨_, _, _, _, (upw_o (by decide) q24), (upw_o (by decide) q25), r0, d0⟩, ⟨_, _, _, _, (upw_o (by decide) q26), (upw_o (by decide) q27), r1, d1⟩, ⟨_, _, _, _, (upw_o (by decide) q28), (upw_o (by decide) q29), r2, d2⟩, ⟨_, _, _, _, (upw_o (by decide) q30), (upw_o (by decide) q31), r3, d3⟩⟩⟩, (fun k hk => upw_o (by omega) ((fun (k : Nat) (_ : 32 ≤ k) => rfl) k hk))⟩⟩))
    · refine gj_ldcw dX8_get_14 kX8_260 ?_
      exact gj_iret dX8_get_17 rfl (Or.inr (Or.inr ⟨by omega, rfl, rfl⟩))
set_option maxRecDepth 20000 in
set_option maxHeartbeats 4000000 in
theorem tGet3 {l : Launch} {x : Cx} {d : Nat} {w : AW} {tx : Int → Int} {by0 : Int} {ru fa fe : Int → Int} {fc lw br me : Int} {mh ml mw : Int → Int} {mn fi : Int} {fm ln : Int → Int} {it : Int → Int → Int} {f0 j : Int} (hd : 2 ≤ d) (hC : ClassC w tx by0 ru fa fe fc lw br me mh ml mw mn fi fm ln it) (hf0 : R32 f0) (hj : R32 j) : Mt l x iX8_get d 0 0 50 w [vR 0, vI 3, vI f0, vI j] (fun v2 w2 => (((0 ≤ (3 : Int) ∧ (3 : Int) ≤ 3) ∧ (0 ≤ f0 ∧ f0 ≤ 2)) ∧ wrA (fm (3 : Int)) (ln (3 : Int)) f0 j = 0 ∧ v2 = some (vI (it (3 : Int) j)) ∧ w2 = w) ∨ (((0 ≤ (3 : Int) ∧ (3 : Int) ≤ 3) ∧ (0 ≤ f0 ∧ f0 ≤ 2)) ∧ wrA (fm (3 : Int)) (ln (3 : Int)) f0 j ≠ 0 ∧ v2 = some (vI (-2147483648)) ∧ ClassC w2 tx by0 ru fa fe fc lw br me mh ml mw mn (wrA (fm (3 : Int)) (ln (3 : Int)) f0 j) fm ln it ∧ ∀ k : Nat, 32 ≤ k → w2 k = w k) ∨ (¬ ((0 ≤ (3 : Int) ∧ (3 : Int) ≤ 3) ∧ (0 ≤ f0 ∧ f0 ≤ 2)) ∧ v2 = some (vI (-2147483648)) ∧ w2 = w)) := by
  have hC0 := hC
  obtain ⟨q0, ⟨on, ot, ho, wy, nu, fl, ⟨q1, q2, q3, q4, q5, q6⟩, hRd⟩, ⟨fd, ⟨q9, q10, q11⟩, ⟨q7, q8⟩, hO⟩, ⟨la, be, ne, q12, q13, q14⟩, ⟨sl, q15⟩, hbm, ⟨go, st, bn, B, ra, rb, q16, q17, q18⟩, ⟨⟨q19, q20, q21, q22⟩, hMm⟩, hSh⟩ := hC
  have hW : WarC w fa (warB lw fa ru fe fc) := ⟨fe, ru, fc, fd, lw, ⟨q9, q10, q11⟩, ⟨q7, q8⟩, hO, rfl⟩
  have hE := hRd.ed
  have hM := hRd.mat
  obtain ⟨⟨sf, q23, s0, s1, s2, s3⟩, ⟨fo0, le0, lo0, g0, q24, q25, r0, d0⟩, ⟨fo1, le1, lo1, g1, q26, q27, r1, d1⟩, ⟨fo2, le2, lo2, g2, q28, q29, r2, d2⟩, ⟨fo3, le3, lo3, g3, q30, q31, r3, d3⟩⟩ := hSh
  have w9 := wrA_R (fm 3) (ln 3) f0 j
  refine Mt.of (L0 := [some (vR 0), some (vI 3), some (vI f0), some (vI j), none]) rfl rfl rfl ?_
  refine gj_il1 dX8_get_0 ?_
  refine gj_cS1r dX8_get_1 mX8_120 hX8_isSheet (by omega) rfl (tX8_isSheet  (by omega) (by omega)) ?_
  refine gj_ifB_eq dX8_get_4 (fun h4 => ?_) (fun h4 => ?_)
  · exact absurd (by omega) h4
  · refine gj_il2 dX8_get_7 ?_
    refine gj_cS1r dX8_get_8 mX8_248 hX8_isForm (by omega) rfl (tX8_isForm  (by omega) (by omega)) ?_
    refine gj_ifB_ne dX8_get_11 (fun h11 => ?_) (fun h11 => ?_)
    · refine gj_al0 dX8_get_18 ?_
      refine gj_il1 dX8_get_19 ?_
      refine gj_il2 dX8_get_20 ?_
      refine gj_il3 dX8_get_21 ?_
      refine gj_cV3r dX8_get_22 mX8_255 hX8_wrongItem q0 rfl (by omega) rfl (tWrong3  (by omega) hC0 (by omega) (by omega)) ?_
      refine gj_is4 dX8_get_25 rfl rfl ?_
      refine gj_il4 dX8_get_27 ?_
      refine gj_if_eq dX8_get_29 (by omega) (fun h29 => ?_) (fun h29 => ?_)
      · have wz : fm 3 ≠ -1 ∧ fm 3 = f0 ∧ (0 ≤ j ∧ j ≤ ln 3 - 1) := by
          have z := h29
          unfold wrA at z
          by_cases c1 : fm 3 = -1
          · rw [if_pos c1] at z; omega
          · rw [if_neg c1] at z
            by_cases c2 : fm 3 ≠ f0
            · rw [if_pos c2] at z; omega
            · rw [if_neg c2] at z
              by_cases c3 : 0 ≤ j ∧ j ≤ ln 3 - 1
              · exact ⟨c1, Decidable.not_not.mp c2, c3⟩
              · rw [if_neg c3] at z; omega
        obtain ⟨e3, y3, m3, n3, t3, v3⟩ : lo3 = 0 ∧ fm 3 = fo3 ∧ (0 ≤ fo3 ∧ fo3 ≤ 2) ∧ ln 3 = le3 ∧ (0 ≤ le3 ∧ le3 ≤ 60) ∧ ∀ j : Int, 0 ≤ j → j < le3 → g3 j = it 3 j ∧ R32 (g3 j) := d3.resolve_left (fun z => absurd z.2 (by omega))
        refine gj_al0 dX8_get_42 ?_
        refine gj_get dX8_get_43 fX8_66 q0 rfl rfl ?_
        refine gj_il1 dX8_get_46 ?_
        refine gj_aald dX8_get_47 q23 rfl rfl (by omega) s3 ?_
        refine gj_get dX8_get_48 fX8_138 q30 rfl rfl ?_
        refine gj_il3 dX8_get_51 ?_
        refine gj_iald dX8_get_52 q31 rfl rfl (by omega) ?_
        exact gj_iret dX8_get_53 rfl (Or.inl ⟨⟨by omega, by omega⟩, h29, by rw [(v3 j wz.2.2.1 (by omega)).1], rfl⟩)
      · refine gj_al0 dX8_get_32 ?_
        refine gj_il4 dX8_get_33 ?_
        refine gj_pI8 dX8_get_35 fX8_71 q0 rfl ?_
        refine gj_ldcw dX8_get_38 kX8_260 ?_
        exact gj_iret dX8_get_41 rfl (Or.inr (Or.inl ⟨⟨by omega, by omega⟩, h29, rfl, ⟨⟨upw_s, ⟨_, _, _, _, _, _, ⟨(upw_o (by decide) q1), (upw_o (by decide) q2), (upw_o (by decide) q3), (upw_o (by decide) q4), (upw_o (by decide) q5), (upw_o (by decide) q6)⟩, hRd⟩, ⟨_, ⟨(upw_o (by decide) q9), (upw_o (by decide) q10), (upw_o (by decide) q11)⟩, ⟨(upw_o (by decide) q7), (upw_o (by decide) q8)⟩, hO⟩, ⟨_, _, _, (upw_o (by decide) q12), (upw_o (by decide) q13), (upw_o (by decide) q14)⟩, ⟨_, (upw_o (by decide) q15)⟩, hbm, ⟨_, _, _, B, _, _, (upw_o (by decide) q16), (upw_o (by decide) q17), (upw_o (by decide) q18)⟩, ⟨⟨(upw_o (by decide) q19), (upw_o (by decide) q20), (upw_o (by decide) q21), (upw_o (by decide) q22)⟩, hMm⟩, ⟨⟨_, (upw_o (by decide) q23), s0, s1, s2, s3⟩, ⟨_, _, _, _, (upw_o (by decide) q24), (upw_o (by decide) q25), r0, d0⟩, ⟨_, _, _, _, (upw_o (by decide) q26), (upw_o (by decide) q27), r1, d1⟩, ⟨_, _, _, _, (upw_o (by decide) q28), (upw_o (by decide) q29), r2, d2⟩, ⟨_, _, _, _, (upw_o (by decide) q30), (upw_o (by decide) q31), r3, d3⟩⟩⟩, (fun k hk => upw_o (by omega) ((fun (k : Nat) (_ : 32 ≤ k) => rfl) k hk))⟩⟩))
    · refine gj_ldcw dX8_get_14 kX8_260 ?_
      exact gj_iret dX8_get_17 rfl (Or.inr (Or.inr ⟨by omega, rfl, rfl⟩))
set_option maxRecDepth 20000 in
set_option maxHeartbeats 4000000 in
theorem tGetB {l : Launch} {x : Cx} {d : Nat} {w : AW} {tx : Int → Int} {by0 : Int} {ru fa fe : Int → Int} {fc lw br me : Int} {mh ml mw : Int → Int} {mn fi : Int} {fm ln : Int → Int} {it : Int → Int → Int} {s : Int} {f0 j : Int} (hd : 2 ≤ d) (hC : ClassC w tx by0 ru fa fe fc lw br me mh ml mw mn fi fm ln it) (hs : R32 s) (hf0 : R32 f0) (hj : R32 j) (hs9 : ¬ (0 ≤ s ∧ s ≤ 3)) : Mt l x iX8_get d 0 0 50 w [vR 0, vI s, vI f0, vI j] (fun v2 w2 => (((0 ≤ s ∧ s ≤ 3) ∧ (0 ≤ f0 ∧ f0 ≤ 2)) ∧ wrA (fm s) (ln s) f0 j = 0 ∧ v2 = some (vI (it s j)) ∧ w2 = w) ∨ (((0 ≤ s ∧ s ≤ 3) ∧ (0 ≤ f0 ∧ f0 ≤ 2)) ∧ wrA (fm s) (ln s) f0 j ≠ 0 ∧ v2 = some (vI (-2147483648)) ∧ ClassC w2 tx by0 ru fa fe fc lw br me mh ml mw mn (wrA (fm s) (ln s) f0 j) fm ln it ∧ ∀ k : Nat, 32 ≤ k → w2 k = w k) ∨ (¬ ((0 ≤ s ∧ s ≤ 3) ∧ (0 ≤ f0 ∧ f0 ≤ 2)) ∧ v2 = some (vI (-2147483648)) ∧ w2 = w)) := by
  have hC0 := hC
  obtain ⟨q0, ⟨on, ot, ho, wy, nu, fl, ⟨q1, q2, q3, q4, q5, q6⟩, hRd⟩, ⟨fd, ⟨q9, q10, q11⟩, ⟨q7, q8⟩, hO⟩, ⟨la, be, ne, q12, q13, q14⟩, ⟨sl, q15⟩, hbm, ⟨go, st, bn, B, ra, rb, q16, q17, q18⟩, ⟨⟨q19, q20, q21, q22⟩, hMm⟩, hSh⟩ := hC
  have hW : WarC w fa (warB lw fa ru fe fc) := ⟨fe, ru, fc, fd, lw, ⟨q9, q10, q11⟩, ⟨q7, q8⟩, hO, rfl⟩
  have hE := hRd.ed
  have hM := hRd.mat
  obtain ⟨⟨sf, q23, s0, s1, s2, s3⟩, ⟨fo0, le0, lo0, g0, q24, q25, r0, d0⟩, ⟨fo1, le1, lo1, g1, q26, q27, r1, d1⟩, ⟨fo2, le2, lo2, g2, q28, q29, r2, d2⟩, ⟨fo3, le3, lo3, g3, q30, q31, r3, d3⟩⟩ := hSh
  refine Mt.of (L0 := [some (vR 0), some (vI s), some (vI f0), some (vI j), none]) rfl rfl rfl ?_
  refine gj_il1 dX8_get_0 ?_
  refine gj_cS1r dX8_get_1 mX8_120 hX8_isSheet (by omega) rfl (tX8_isSheet  (by omega) (by omega)) ?_
  refine gj_ifB_eq dX8_get_4 (fun h4 => ?_) (fun h4 => ?_)
  · refine gj_ldcw dX8_get_14 kX8_260 ?_
    exact gj_iret dX8_get_17 rfl (Or.inr (Or.inr ⟨by omega, rfl, rfl⟩))
  · exact absurd h4 hs9
theorem tGet {l : Launch} {x : Cx} {d : Nat} {w : AW} {tx : Int → Int} {by0 : Int} {ru fa fe : Int → Int} {fc lw br me : Int} {mh ml mw : Int → Int} {mn fi : Int} {fm ln : Int → Int} {it : Int → Int → Int} {s : Int} {f0 j : Int} (hd : 2 ≤ d) (hC : ClassC w tx by0 ru fa fe fc lw br me mh ml mw mn fi fm ln it) (hs : R32 s) (hf0 : R32 f0) (hj : R32 j) : Mt l x iX8_get d 0 0 50 w [vR 0, vI s, vI f0, vI j] (fun v2 w2 => (((0 ≤ s ∧ s ≤ 3) ∧ (0 ≤ f0 ∧ f0 ≤ 2)) ∧ wrA (fm s) (ln s) f0 j = 0 ∧ v2 = some (vI (it s j)) ∧ w2 = w) ∨ (((0 ≤ s ∧ s ≤ 3) ∧ (0 ≤ f0 ∧ f0 ≤ 2)) ∧ wrA (fm s) (ln s) f0 j ≠ 0 ∧ v2 = some (vI (-2147483648)) ∧ ClassC w2 tx by0 ru fa fe fc lw br me mh ml mw mn (wrA (fm s) (ln s) f0 j) fm ln it ∧ ∀ k : Nat, 32 ≤ k → w2 k = w k) ∨ (¬ ((0 ≤ s ∧ s ≤ 3) ∧ (0 ≤ f0 ∧ f0 ≤ 2)) ∧ v2 = some (vI (-2147483648)) ∧ w2 = w)) := by
  by_cases c : 0 ≤ s ∧ s ≤ 3
  · rcases (show s = 0 ∨ s = 1 ∨ s = 2 ∨ s = 3 by omega) with rfl | rfl | rfl | rfl
    · exact tGet0 (by omega) hC hf0 hj
    · exact tGet1 (by omega) hC hf0 hj
    · exact tGet2 (by omega) hC hf0 hj
    · exact tGet3 (by omega) hC hf0 hj
  · exact tGetB (by omega) hC hs hf0 hj c
