/-! contract: copy of the class -/
set_option maxRecDepth 20000 in
set_option maxHeartbeats 4000000 in
theorem tCopy00 {l : Launch} {x : Cx} {d : Nat} {w : AW} {tx : Int → Int} {by0 : Int} {ru fa fe : Int → Int} {fc lw br me : Int} {mh ml mw : Int → Int} {mn fi : Int} {fm ln : Int → Int} {it : Int → Int → Int} {i j cn : Int} (hd : 2 ≤ d) (hC : ClassC w tx by0 ru fa fe fc lw br me mh ml mw mn fi fm ln it) (hi : R32 i) (hj : R32 j) (hcn : R32 cn) : Mt l x iX8_copy d 0 0 50 w [vR 0, vI 0, vI i, vI 0, vI j, vI cn] (fun v2 w2 => (((0 ≤ (0 : Int) ∧ (0 : Int) ≤ 3) ∧ (0 ≤ (0 : Int) ∧ (0 : Int) ≤ 3)) ∧ ¬ (fm (0 : Int) = -1 ∨ fm (0 : Int) = -1) ∧ fm (0 : Int) = fm (0 : Int) ∧ (0 ≤ i ∧ 0 ≤ cn ∧ i ≤ ln (0 : Int) ∧ cn ≤ ln (0 : Int) - i ∧ 0 ≤ j ∧ j ≤ ln (0 : Int) ∧ cn ≤ ln (0 : Int) - j) ∧ v2 = some (vI 1) ∧ ClassC w2 tx by0 ru fa fe fc lw br me mh ml mw mn fi fm ln (upi it (0 : Int) (cpf (it (0 : Int)) (it (0 : Int)) i j cn)) ∧ ∀ k : Nat, 32 ≤ k → w2 k = w k) ∨ (((0 ≤ (0 : Int) ∧ (0 : Int) ≤ 3) ∧ (0 ≤ (0 : Int) ∧ (0 : Int) ≤ 3)) ∧ ¬ (fm (0 : Int) = -1 ∨ fm (0 : Int) = -1) ∧ fm (0 : Int) = fm (0 : Int) ∧ ¬ (0 ≤ i ∧ 0 ≤ cn ∧ i ≤ ln (0 : Int) ∧ cn ≤ ln (0 : Int) - i ∧ 0 ≤ j ∧ j ≤ ln (0 : Int) ∧ cn ≤ ln (0 : Int) - j) ∧ v2 = some (vI (-12)) ∧ ClassC w2 tx by0 ru fa fe fc lw br me mh ml mw mn 2 fm ln it ∧ ∀ k : Nat, 32 ≤ k → w2 k = w k) ∨ (((0 ≤ (0 : Int) ∧ (0 : Int) ≤ 3) ∧ (0 ≤ (0 : Int) ∧ (0 : Int) ≤ 3)) ∧ ¬ (fm (0 : Int) = -1 ∨ fm (0 : Int) = -1) ∧ fm (0 : Int) ≠ fm (0 : Int) ∧ v2 = some (vI (-14)) ∧ ClassC w2 tx by0 ru fa fe fc lw br me mh ml mw mn 4 fm ln it ∧ ∀ k : Nat, 32 ≤ k → w2 k = w k) ∨ (((0 ≤ (0 : Int) ∧ (0 : Int) ≤ 3) ∧ (0 ≤ (0 : Int) ∧ (0 : Int) ≤ 3)) ∧ (fm (0 : Int) = -1 ∨ fm (0 : Int) = -1) ∧ v2 = some (vI (-11)) ∧ ClassC w2 tx by0 ru fa fe fc lw br me mh ml mw mn 1 fm ln it ∧ ∀ k : Nat, 32 ≤ k → w2 k = w k) ∨ (¬ ((0 ≤ (0 : Int) ∧ (0 : Int) ≤ 3) ∧ (0 ≤ (0 : Int) ∧ (0 : Int) ≤ 3)) ∧ v2 = some (vI (-2)) ∧ w2 = w)) := by
  have hC0 := hC
  obtain ⟨q0, ⟨on, ot, ho, wy, nu, fl, ⟨q1, q2, q3, q4, q5, q6⟩, hRd⟩, ⟨fd, ⟨q9, q10, q11⟩, ⟨q7, q8⟩, hO⟩, ⟨la, be, ne, q12, q13, q14⟩, ⟨sl, q15⟩, hbm, ⟨go, st, bn, B, ra, rb, q16, q17, q18⟩, ⟨⟨q19, q20, q21, q22⟩, hMm⟩, hSh⟩ := hC
  have hW : WarC w fa (warB lw fa ru fe fc) := ⟨fe, ru, fc, fd, lw, ⟨q9, q10, q11⟩, ⟨q7, q8⟩, hO, rfl⟩
  have hE := hRd.ed
  have hM := hRd.mat
  obtain ⟨⟨sf, q23, s0, s1, s2, s3⟩, ⟨fo0, le0, lo0, g0, q24, q25, r0, d0⟩, ⟨fo1, le1, lo1, g1, q26, q27, r1, d1⟩, ⟨fo2, le2, lo2, g2, q28, q29, r2, d2⟩, ⟨fo3, le3, lo3, g3, q30, q31, r3, d3⟩⟩ := hSh
  refine Mt.of (L0 := [some (vR 0), some (vI 0), some (vI i), some (vI 0), some (vI j), some (vI cn), none, none]) rfl rfl rfl ?_
  refine gj_il1 dX8_copy_0 ?_
  refine gj_cS1r dX8_copy_1 mX8_120 hX8_isSheet (by omega) rfl (tX8_isSheet  (by omega) (by omega)) ?_
  refine gj_ifB_eq dX8_copy_4 (fun h4 => ?_) (fun h4 => ?_)
  · exact absurd (by omega) h4
  · refine gj_il3 dX8_copy_7 ?_
    refine gj_cS1r dX8_copy_8 mX8_120 hX8_isSheet (by omega) rfl (tX8_isSheet  (by omega) (by omega)) ?_
    refine gj_ifB_ne dX8_copy_11 (fun h11 => ?_) (fun h11 => ?_)
    · refine gj_al0 dX8_copy_17 ?_
      refine gj_get dX8_copy_18 fX8_66 q0 rfl rfl ?_
      refine gj_il1 dX8_copy_21 ?_
      refine gj_aald dX8_copy_22 q23 rfl rfl (by omega) s0 ?_
      refine gj_as6 dX8_copy_23 rfl rfl ?_
      refine gj_al0 dX8_copy_25 ?_
      refine gj_get dX8_copy_26 fX8_66 q0 rfl rfl ?_
      refine gj_il3 dX8_copy_29 ?_
      refine gj_aald dX8_copy_30 q23 rfl rfl (by omega) s0 ?_
      refine gj_as7 dX8_copy_31 rfl rfl ?_
      refine gj_al6 dX8_copy_33 ?_
      refine gj_get dX8_copy_35 fX8_123 q24 rfl rfl ?_
      refine gj_if_ne dX8_copy_38 (by omega) (fun h38 => ?_) (fun h38 => ?_)
      · have e0 : lo0 = 1 ∧ fm 0 = -1 := d0.resolve_right (fun z => absurd z.1 (by omega))
        refine gj_al0 dX8_copy_49 ?_
        refine gj_iconst dX8_copy_50 ?_
        refine gj_cV1w dX8_copy_51 mX8_127 hX8_found q0 rfl (by omega) rfl (tX8_found  (by omega) q0) (fun w51 P51 => ?_)
        obtain rfl := P51
        exact gj_iret dX8_copy_54 rfl (Or.inr (Or.inr (Or.inr (Or.inl ⟨⟨by omega, by omega⟩, Or.inl e0.2, rfl, ⟨⟨upw_s, ⟨_, _, _, _, _, _, ⟨(upw_o (by decide) q1), (upw_o (by decide) q2), (upw_o (by decide) q3), (upw_o (by decide) q4), (upw_o (by decide) q5), (upw_o (by decide) q6)⟩, hRd⟩, ⟨_, ⟨(upw_o (by decide) q9), (upw_o (by decide) q10), (upw_o (by decide) q11)⟩, ⟨(upw_o (by decide) q7), (upw_o (by decide) q8)⟩, hO⟩, ⟨_, _, _, (upw_o (by decide) q12), (upw_o (by decide) q13), (upw_o (by decide) q14)⟩, ⟨_, (upw_o (by decide) q15)⟩, hbm, ⟨_, _, _, B, _, _, (upw_o (by decide) q16), (upw_o (by decide) q17), (upw_o (by decide) q18)⟩, ⟨⟨(upw_o (by decide) q19), (upw_o (by decide) q20), (upw_o (by decide) q21), (upw_o (by decide) q22)⟩, hMm⟩, ⟨⟨_, (upw_o (by decide) q23), s0, s1, s2, s3⟩, ⟨_, _, _, _, (upw_o (by decide) q24), (upw_o (by decide) q25), r0, d0⟩, ⟨_, _, _, _, (upw_o (by decide) q26), (upw_o (by decide) q27), r1, d1⟩, ⟨_, _, _, _, (upw_o (by decide) q28), (upw_o (by decide) q29), r2, d2⟩, ⟨_, _, _, _, (upw_o (by decide) q30), (upw_o (by decide) q31), r3, d3⟩⟩⟩, (fun k hk => upw_o (by omega) ((fun (k : Nat) (_ : 32 ≤ k) => rfl) k hk))⟩⟩))))
      · obtain ⟨e0, y0, m0, n0, t0, v0⟩ : lo0 = 0 ∧ fm 0 = fo0 ∧ (0 ≤ fo0 ∧ fo0 ≤ 2) ∧ ln 0 = le0 ∧ (0 ≤ le0 ∧ le0 ≤ 60) ∧ ∀ j : Int, 0 ≤ j → j < le0 → g0 j = it 0 j ∧ R32 (g0 j) := d0.resolve_left (fun z => absurd z.1 (by omega))
        refine gj_al7 dX8_copy_41 ?_
        refine gj_get dX8_copy_43 fX8_123 q24 rfl rfl ?_
        refine gj_if_eq dX8_copy_46 (by omega) (fun h46 => ?_) (fun h46 => ?_)
        · refine gj_al6 dX8_copy_55 ?_
          refine gj_get dX8_copy_57 fX8_261 q24 rfl rfl ?_
          refine gj_al7 dX8_copy_60 ?_
          refine gj_get dX8_copy_62 fX8_261 q24 rfl rfl ?_
          refine gj_icmp_eq dX8_copy_65 (by omega) (fun h65 => ?_) (fun h65 => ?_)
          · refine gj_al6 dX8_copy_74 ?_
            refine gj_il2 dX8_copy_76 ?_
            refine gj_il5 dX8_copy_77 ?_
            refine gj_cV2r dX8_copy_79 mX8_264 hX7_holdsRun q24 rfl (by omega) rfl (tX7_holdsRun0  (by omega) ⟨q24, q25⟩ (by omega) (by omega) (by omega)) ?_
            refine gj_ifB_eq dX8_copy_82 (fun h82 => ?_) (fun h82 => ?_)
            · refine gj_al0 dX8_copy_97 ?_
              refine gj_iconst dX8_copy_98 ?_
              refine gj_cV1w dX8_copy_99 mX8_127 hX8_found q0 rfl (by omega) rfl (tX8_found  (by omega) q0) (fun w99 P99 => ?_)
              obtain rfl := P99
              exact gj_iret dX8_copy_102 rfl (Or.inr (Or.inl ⟨⟨by omega, by omega⟩, by omega, by omega, by omega, rfl, ⟨⟨upw_s, ⟨_, _, _, _, _, _, ⟨(upw_o (by decide) q1), (upw_o (by decide) q2), (upw_o (by decide) q3), (upw_o (by decide) q4), (upw_o (by decide) q5), (upw_o (by decide) q6)⟩, hRd⟩, ⟨_, ⟨(upw_o (by decide) q9), (upw_o (by decide) q10), (upw_o (by decide) q11)⟩, ⟨(upw_o (by decide) q7), (upw_o (by decide) q8)⟩, hO⟩, ⟨_, _, _, (upw_o (by decide) q12), (upw_o (by decide) q13), (upw_o (by decide) q14)⟩, ⟨_, (upw_o (by decide) q15)⟩, hbm, ⟨_, _, _, B, _, _, (upw_o (by decide) q16), (upw_o (by decide) q17), (upw_o (by decide) q18)⟩, ⟨⟨(upw_o (by decide) q19), (upw_o (by decide) q20), (upw_o (by decide) q21), (upw_o (by decide) q22)⟩, hMm⟩, ⟨⟨_, (upw_o (by decide) q23), s0, s1, s2, s3⟩, ⟨_, _, _, _, (upw_o (by decide) q24), (upw_o (by decide) q25), r0, d0⟩, ⟨_, _, _, _, (upw_o (by decide) q26), (upw_o (by decide) q27), r1, d1⟩, ⟨_, _, _, _, (upw_o (by decide) q28), (upw_o (by decide) q29), r2, d2⟩, ⟨_, _, _, _, (upw_o (by decide) q30), (upw_o (by decide) q31), r3, d3⟩⟩⟩, (fun k hk => upw_o (by omega) ((fun (k : Nat) (_ : 32 ≤ k) => rfl) k hk))⟩⟩))
            · refine gj_al7 dX8_copy_85 ?_
              refine gj_il4 dX8_copy_87 ?_
              refine gj_il5 dX8_copy_89 ?_
              refine gj_cV2r dX8_copy_91 mX8_264 hX7_holdsRun q24 rfl (by omega) rfl (tX7_holdsRun0  (by omega) ⟨q24, q25⟩ (by omega) (by omega) (by omega)) ?_
              refine gj_ifB_ne dX8_copy_94 (fun h94 => ?_) (fun h94 => ?_)
              · refine gj_al6 dX8_copy_103 ?_
                refine gj_get dX8_copy_105 fX8_138 q24 rfl rfl ?_
                refine gj_il2 dX8_copy_108 ?_
                refine gj_al7 dX8_copy_109 ?_
                refine gj_get dX8_copy_111 fX8_138 q24 rfl rfl ?_
                refine gj_il4 dX8_copy_114 ?_
                refine gj_il5 dX8_copy_116 ?_
                refine gj_acopy dX8_copy_118 mX8_267 (by omega) rfl q25 rfl q25 rfl ⟨rfl, rfl⟩ (by omega) ?_
                refine gj_iconst dX8_copy_121 ?_
                exact gj_iret dX8_copy_122 rfl (Or.inl ⟨⟨by omega, by omega⟩, by omega, by omega, by omega, rfl, ⟨⟨(upw_o (by decide) q0), ⟨_, _, _, _, _, _, ⟨(upw_o (by decide) q1), (upw_o (by decide) q2), (upw_o (by decide) q3), (upw_o (by decide) q4), (upw_o (by decide) q5), (upw_o (by decide) q6)⟩, hRd⟩, ⟨_, ⟨(upw_o (by decide) q9), (upw_o (by decide) q10), (upw_o (by decide) q11)⟩, ⟨(upw_o (by decide) q7), (upw_o (by decide) q8)⟩, hO⟩, ⟨_, _, _, (upw_o (by decide) q12), (upw_o (by decide) q13), (upw_o (by decide) q14)⟩, ⟨_, (upw_o (by decide) q15)⟩, hbm, ⟨_, _, _, B, _, _, (upw_o (by decide) q16), (upw_o (by decide) q17), (upw_o (by decide) q18)⟩, ⟨⟨(upw_o (by decide) q19), (upw_o (by decide) q20), (upw_o (by decide) q21), (upw_o (by decide) q22)⟩, hMm⟩, ⟨⟨_, (upw_o (by decide) q23), s0, s1, s2, s3⟩, ⟨_, _, _, _, (upw_o (by decide) q24), upw_s, r0, Or.inr ⟨e0, y0, m0, n0, t0, fun q g8 g9 => by
                            show cpf g0 g0 i j cn q = cpf (it 0) (it 0) i j cn q ∧ R32 (cpf g0 g0 i j cn q)
                            unfold cpf
                            by_cases z : j ≤ q ∧ q < j + cn
                            · rw [if_pos z, if_pos z]; exact v0 _ (by omega) (by omega)
                            · rw [if_neg z, if_neg z]; exact v0 q g8 g9⟩⟩, ⟨_, _, _, _, (upw_o (by decide) q26), (upw_o (by decide) q27), r1, d1⟩, ⟨_, _, _, _, (upw_o (by decide) q28), (upw_o (by decide) q29), r2, d2⟩, ⟨_, _, _, _, (upw_o (by decide) q30), (upw_o (by decide) q31), r3, d3⟩⟩⟩, (fun k hk => upw_o (by omega) ((fun (k : Nat) (_ : 32 ≤ k) => rfl) k hk))⟩⟩)
              · refine gj_al0 dX8_copy_97 ?_
                refine gj_iconst dX8_copy_98 ?_
                refine gj_cV1w dX8_copy_99 mX8_127 hX8_found q0 rfl (by omega) rfl (tX8_found  (by omega) q0) (fun w99 P99 => ?_)
                obtain rfl := P99
                exact gj_iret dX8_copy_102 rfl (Or.inr (Or.inl ⟨⟨by omega, by omega⟩, by omega, by omega, by omega, rfl, ⟨⟨upw_s, ⟨_, _, _, _, _, _, ⟨(upw_o (by decide) q1), (upw_o (by decide) q2), (upw_o (by decide) q3), (upw_o (by decide) q4), (upw_o (by decide) q5), (upw_o (by decide) q6)⟩, hRd⟩, ⟨_, ⟨(upw_o (by decide) q9), (upw_o (by decide) q10), (upw_o (by decide) q11)⟩, ⟨(upw_o (by decide) q7), (upw_o (by decide) q8)⟩, hO⟩, ⟨_, _, _, (upw_o (by decide) q12), (upw_o (by decide) q13), (upw_o (by decide) q14)⟩, ⟨_, (upw_o (by decide) q15)⟩, hbm, ⟨_, _, _, B, _, _, (upw_o (by decide) q16), (upw_o (by decide) q17), (upw_o (by decide) q18)⟩, ⟨⟨(upw_o (by decide) q19), (upw_o (by decide) q20), (upw_o (by decide) q21), (upw_o (by decide) q22)⟩, hMm⟩, ⟨⟨_, (upw_o (by decide) q23), s0, s1, s2, s3⟩, ⟨_, _, _, _, (upw_o (by decide) q24), (upw_o (by decide) q25), r0, d0⟩, ⟨_, _, _, _, (upw_o (by decide) q26), (upw_o (by decide) q27), r1, d1⟩, ⟨_, _, _, _, (upw_o (by decide) q28), (upw_o (by decide) q29), r2, d2⟩, ⟨_, _, _, _, (upw_o (by decide) q30), (upw_o (by decide) q31), r3, d3⟩⟩⟩, (fun k hk => upw_o (by omega) ((fun (k : Nat) (_ : 32 ≤ k) => rfl) k hk))⟩⟩))
          · refine gj_al0 dX8_copy_68 ?_
            refine gj_iconst dX8_copy_69 ?_
            refine gj_cV1w dX8_copy_70 mX8_127 hX8_found q0 rfl (by omega) rfl (tX8_found  (by omega) q0) (fun w70 P70 => ?_)
            obtain rfl := P70
            exact gj_iret dX8_copy_73 rfl (Or.inr (Or.inr (Or.inl ⟨⟨by omega, by omega⟩, by omega, by omega, rfl, ⟨⟨upw_s, ⟨_, _, _, _, _, _, ⟨(upw_o (by decide) q1), (upw_o (by decide) q2), (upw_o (by decide) q3), (upw_o (by decide) q4), (upw_o (by decide) q5), (upw_o (by decide) q6)⟩, hRd⟩, ⟨_, ⟨(upw_o (by decide) q9), (upw_o (by decide) q10), (upw_o (by decide) q11)⟩, ⟨(upw_o (by decide) q7), (upw_o (by decide) q8)⟩, hO⟩, ⟨_, _, _, (upw_o (by decide) q12), (upw_o (by decide) q13), (upw_o (by decide) q14)⟩, ⟨_, (upw_o (by decide) q15)⟩, hbm, ⟨_, _, _, B, _, _, (upw_o (by decide) q16), (upw_o (by decide) q17), (upw_o (by decide) q18)⟩, ⟨⟨(upw_o (by decide) q19), (upw_o (by decide) q20), (upw_o (by decide) q21), (upw_o (by decide) q22)⟩, hMm⟩, ⟨⟨_, (upw_o (by decide) q23), s0, s1, s2, s3⟩, ⟨_, _, _, _, (upw_o (by decide) q24), (upw_o (by decide) q25), r0, d0⟩, ⟨_, _, _, _, (upw_o (by decide) q26), (upw_o (by decide) q27), r1, d1⟩, ⟨_, _, _, _, (upw_o (by decide) q28), (upw_o (by decide) q29), r2, d2⟩, ⟨_, _, _, _, (upw_o (by decide) q30), (upw_o (by decide) q31), r3, d3⟩⟩⟩, (fun k hk => upw_o (by omega) ((fun (k : Nat) (_ : 32 ≤ k) => rfl) k hk))⟩⟩)))
        · refine gj_al0 dX8_copy_49 ?_
          refine gj_iconst dX8_copy_50 ?_
          refine gj_cV1w dX8_copy_51 mX8_127 hX8_found q0 rfl (by omega) rfl (tX8_found  (by omega) q0) (fun w51 P51 => ?_)
          obtain rfl := P51
          exact gj_iret dX8_copy_54 rfl (absurd e0 h46)
    · exact absurd (by omega) h11
set_option maxRecDepth 20000 in
set_option maxHeartbeats 4000000 in
theorem tCopy01 {l : Launch} {x : Cx} {d : Nat} {w : AW} {tx : Int → Int} {by0 : Int} {ru fa fe : Int → Int} {fc lw br me : Int} {mh ml mw : Int → Int} {mn fi : Int} {fm ln : Int → Int} {it : Int → Int → Int} {i j cn : Int} (hd : 2 ≤ d) (hC : ClassC w tx by0 ru fa fe fc lw br me mh ml mw mn fi fm ln it) (hi : R32 i) (hj : R32 j) (hcn : R32 cn) : Mt l x iX8_copy d 0 0 50 w [vR 0, vI 0, vI i, vI 1, vI j, vI cn] (fun v2 w2 => (((0 ≤ (0 : Int) ∧ (0 : Int) ≤ 3) ∧ (0 ≤ (1 : Int) ∧ (1 : Int) ≤ 3)) ∧ ¬ (fm (0 : Int) = -1 ∨ fm (1 : Int) = -1) ∧ fm (0 : Int) = fm (1 : Int) ∧ (0 ≤ i ∧ 0 ≤ cn ∧ i ≤ ln (0 : Int) ∧ cn ≤ ln (0 : Int) - i ∧ 0 ≤ j ∧ j ≤ ln (1 : Int) ∧ cn ≤ ln (1 : Int) - j) ∧ v2 = some (vI 1) ∧ ClassC w2 tx by0 ru fa fe fc lw br me mh ml mw mn fi fm ln (upi it (1 : Int) (cpf (it (0 : Int)) (it (1 : Int)) i j cn)) ∧ ∀ k : Nat, 32 ≤ k → w2 k = w k) ∨ (((0 ≤ (0 : Int) ∧ (0 : Int) ≤ 3) ∧ (0 ≤ (1 : Int) ∧ (1 : Int) ≤ 3)) ∧ ¬ (fm (0 : Int) = -1 ∨ fm (1 : Int) = -1) ∧ fm (0 : Int) = fm (1 : Int) ∧ ¬ (0 ≤ i ∧ 0 ≤ cn ∧ i ≤ ln (0 : Int) ∧ cn ≤ ln (0 : Int) - i ∧ 0 ≤ j ∧ j ≤ ln (1 : Int) ∧ cn ≤ ln (1 : Int) - j) ∧ v2 = some (vI (-12)) ∧ ClassC w2 tx by0 ru fa fe fc lw br me mh ml mw mn 2 fm ln it ∧ ∀ k : Nat, 32 ≤ k → w2 k = w k) ∨ (((0 ≤ (0 : Int) ∧ (0 : Int) ≤ 3) ∧ (0 ≤ (1 : Int) ∧ (1 : Int) ≤ 3)) ∧ ¬ (fm (0 : Int) = -1 ∨ fm (1 : Int) = -1) ∧ fm (0 : Int) ≠ fm (1 : Int) ∧ v2 = some (vI (-14)) ∧ ClassC w2 tx by0 ru fa fe fc lw br me mh ml mw mn 4 fm ln it ∧ ∀ k : Nat, 32 ≤ k → w2 k = w k) ∨ (((0 ≤ (0 : Int) ∧ (0 : Int) ≤ 3) ∧ (0 ≤ (1 : Int) ∧ (1 : Int) ≤ 3)) ∧ (fm (0 : Int) = -1 ∨ fm (1 : Int) = -1) ∧ v2 = some (vI (-11)) ∧ ClassC w2 tx by0 ru fa fe fc lw br me mh ml mw mn 1 fm ln it ∧ ∀ k : Nat, 32 ≤ k → w2 k = w k) ∨ (¬ ((0 ≤ (0 : Int) ∧ (0 : Int) ≤ 3) ∧ (0 ≤ (1 : Int) ∧ (1 : Int) ≤ 3)) ∧ v2 = some (vI (-2)) ∧ w2 = w)) := by
  have hC0 := hC
  obtain ⟨q0, ⟨on, ot, ho, wy, nu, fl, ⟨q1, q2, q3, q4, q5, q6⟩, hRd⟩, ⟨fd, ⟨q9, q10, q11⟩, ⟨q7, q8⟩, hO⟩, ⟨la, be, ne, q12, q13, q14⟩, ⟨sl, q15⟩, hbm, ⟨go, st, bn, B, ra, rb, q16, q17, q18⟩, ⟨⟨q19, q20, q21, q22⟩, hMm⟩, hSh⟩ := hC
  have hW : WarC w fa (warB lw fa ru fe fc) := ⟨fe, ru, fc, fd, lw, ⟨q9, q10, q11⟩, ⟨q7, q8⟩, hO, rfl⟩
  have hE := hRd.ed
  have hM := hRd.mat
  obtain ⟨⟨sf, q23, s0, s1, s2, s3⟩, ⟨fo0, le0, lo0, g0, q24, q25, r0, d0⟩, ⟨fo1, le1, lo1, g1, q26, q27, r1, d1⟩, ⟨fo2, le2, lo2, g2, q28, q29, r2, d2⟩, ⟨fo3, le3, lo3, g3, q30, q31, r3, d3⟩⟩ := hSh
  refine Mt.of (L0 := [some (vR 0), some (vI 0), some (vI i), some (vI 1), some (vI j), some (vI cn), none, none]) rfl rfl rfl ?_
  refine gj_il1 dX8_copy_0 ?_
  refine gj_cS1r dX8_copy_1 mX8_120 hX8_isSheet (by omega) rfl (tX8_isSheet  (by omega) (by omega)) ?_
  refine gj_ifB_eq dX8_copy_4 (fun h4 => ?_) (fun h4 => ?_)
  · exact absurd (by omega) h4
  · refine gj_il3 dX8_copy_7 ?_
    refine gj_cS1r dX8_copy_8 mX8_120 hX8_isSheet (by omega) rfl (tX8_isSheet  (by omega) (by omega)) ?_
    refine gj_ifB_ne dX8_copy_11 (fun h11 => ?_) (fun h11 => ?_)
    · refine gj_al0 dX8_copy_17 ?_
      refine gj_get dX8_copy_18 fX8_66 q0 rfl rfl ?_
      refine gj_il1 dX8_copy_21 ?_
      refine gj_aald dX8_copy_22 q23 rfl rfl (by omega) s0 ?_
      refine gj_as6 dX8_copy_23 rfl rfl ?_
      refine gj_al0 dX8_copy_25 ?_
      refine gj_get dX8_copy_26 fX8_66 q0 rfl rfl ?_
      refine gj_il3 dX8_copy_29 ?_
      refine gj_aald dX8_copy_30 q23 rfl rfl (by omega) s1 ?_
      refine gj_as7 dX8_copy_31 rfl rfl ?_
      refine gj_al6 dX8_copy_33 ?_
      refine gj_get dX8_copy_35 fX8_123 q24 rfl rfl ?_
      refine gj_if_ne dX8_copy_38 (by omega) (fun h38 => ?_) (fun h38 => ?_)
      · have e0 : lo0 = 1 ∧ fm 0 = -1 := d0.resolve_right (fun z => absurd z.1 (by omega))
        refine gj_al0 dX8_copy_49 ?_
        refine gj_iconst dX8_copy_50 ?_
        refine gj_cV1w dX8_copy_51 mX8_127 hX8_found q0 rfl (by omega) rfl (tX8_found  (by omega) q0) (fun w51 P51 => ?_)
        obtain rfl := P51
        exact gj_iret dX8_copy_54 rfl (Or.inr (Or.inr (Or.inr (Or.inl ⟨⟨by omega, by omega⟩, Or.inl e0.2, rfl, ⟨⟨upw_s, ⟨_, _, _, _, _, _, ⟨(upw_o (by decide) q1), (upw_o (by decide) q2), (upw_o (by decide) q3), (upw_o (by decide) q4), (upw_o (by decide) q5), (upw_o (by decide) q6)⟩, hRd⟩, ⟨_, ⟨(upw_o (by decide) q9), (upw_o (by decide) q10), (upw_o (by decide) q11)⟩, ⟨(upw_o (by decide) q7), (upw_o (by decide) q8)⟩, hO⟩, ⟨_, _, _, (upw_o (by decide) q12), (upw_o (by decide) q13), (upw_o (by decide) q14)⟩, ⟨_, (upw_o (by decide) q15)⟩, hbm, ⟨_, _, _, B, _, _, (upw_o (by decide) q16), (upw_o (by decide) q17), (upw_o (by decide) q18)⟩, ⟨⟨(upw_o (by decide) q19), (upw_o (by decide) q20), (upw_o (by decide) q21), (upw_o (by decide) q22)⟩, hMm⟩, ⟨⟨_, (upw_o (by decide) q23), s0, s1, s2, s3⟩, ⟨_, _, _, _, (upw_o (by decide) q24), (upw_o (by decide) q25), r0, d0⟩, ⟨_, _, _, _, (upw_o (by decide) q26), (upw_o (by decide) q27), r1, d1⟩, ⟨_, _, _, _, (upw_o (by decide) q28), (upw_o (by decide) q29), r2, d2⟩, ⟨_, _, _, _, (upw_o (by decide) q30), (upw_o (by decide) q31), r3, d3⟩⟩⟩, (fun k hk => upw_o (by omega) ((fun (k : Nat) (_ : 32 ≤ k) => rfl) k hk))⟩⟩))))
      · obtain ⟨e0, y0, m0, n0, t0, v0⟩ : lo0 = 0 ∧ fm 0 = fo0 ∧ (0 ≤ fo0 ∧ fo0 ≤ 2) ∧ ln 0 = le0 ∧ (0 ≤ le0 ∧ le0 ≤ 60) ∧ ∀ j : Int, 0 ≤ j → j < le0 → g0 j = it 0 j ∧ R32 (g0 j) := d0.resolve_left (fun z => absurd z.1 (by omega))
        refine gj_al7 dX8_copy_41 ?_
        refine gj_get dX8_copy_43 fX8_123 q26 rfl rfl ?_
        refine gj_if_eq dX8_copy_46 (by omega) (fun h46 => ?_) (fun h46 => ?_)
        · obtain ⟨e1, y1, m1, n1, t1, v1⟩ : lo1 = 0 ∧ fm 1 = fo1 ∧ (0 ≤ fo1 ∧ fo1 ≤ 2) ∧ ln 1 = le1 ∧ (0 ≤ le1 ∧ le1 ≤ 60) ∧ ∀ j : Int, 0 ≤ j → j < le1 → g1 j = it 1 j ∧ R32 (g1 j) := d1.resolve_left (fun z => absurd z.1 (by omega))
          refine gj_al6 dX8_copy_55 ?_
          refine gj_get dX8_copy_57 fX8_261 q24 rfl rfl ?_
          refine gj_al7 dX8_copy_60 ?_
          refine gj_get dX8_copy_62 fX8_261 q26 rfl rfl ?_
          refine gj_icmp_eq dX8_copy_65 (by omega) (fun h65 => ?_) (fun h65 => ?_)
          · refine gj_al6 dX8_copy_74 ?_
            refine gj_il2 dX8_copy_76 ?_
            refine gj_il5 dX8_copy_77 ?_
            refine gj_cV2r dX8_copy_79 mX8_264 hX7_holdsRun q24 rfl (by omega) rfl (tX7_holdsRun0  (by omega) ⟨q24, q25⟩ (by omega) (by omega) (by omega)) ?_
            refine gj_ifB_eq dX8_copy_82 (fun h82 => ?_) (fun h82 => ?_)
            · refine gj_al0 dX8_copy_97 ?_
              refine gj_iconst dX8_copy_98 ?_
              refine gj_cV1w dX8_copy_99 mX8_127 hX8_found q0 rfl (by omega) rfl (tX8_found  (by omega) q0) (fun w99 P99 => ?_)
              obtain rfl := P99
              exact gj_iret dX8_copy_102 rfl (Or.inr (Or.inl ⟨⟨by omega, by omega⟩, by omega, by omega, by omega, rfl, ⟨⟨upw_s, ⟨_, _, _, _, _, _, ⟨(upw_o (by decide) q1), (upw_o (by decide) q2), (upw_o (by decide) q3), (upw_o (by decide) q4), (upw_o (by decide) q5), (upw_o (by decide) q6)⟩, hRd⟩, ⟨_, ⟨(upw_o (by decide) q9), (upw_o (by decide) q10), (upw_o (by decide) q11)⟩, ⟨(upw_o (by decide) q7), (upw_o (by decide) q8)⟩, hO⟩, ⟨_, _, _, (upw_o (by decide) q12), (upw_o (by decide) q13), (upw_o (by decide) q14)⟩, ⟨_, (upw_o (by decide) q15)⟩, hbm, ⟨_, _, _, B, _, _, (upw_o (by decide) q16), (upw_o (by decide) q17), (upw_o (by decide) q18)⟩, ⟨⟨(upw_o (by decide) q19), (upw_o (by decide) q20), (upw_o (by decide) q21), (upw_o (by decide) q22)⟩, hMm⟩, ⟨⟨_, (upw_o (by decide) q23), s0, s1, s2, s3⟩, ⟨_, _, _, _, (upw_o (by decide) q24), (upw_o (by decide) q25), r0, d0⟩, ⟨_, _, _, _, (upw_o (by decide) q26), (upw_o (by decide) q27), r1, d1⟩, ⟨_, _, _, _, (upw_o (by decide) q28), (upw_o (by decide) q29), r2, d2⟩, ⟨_, _, _, _, (upw_o (by decide) q30), (upw_o (by decide) q31), r3, d3⟩⟩⟩, (fun k hk => upw_o (by omega) ((fun (k : Nat) (_ : 32 ≤ k) => rfl) k hk))⟩⟩))
            · refine gj_al7 dX8_copy_85 ?_
              refine gj_il4 dX8_copy_87 ?_
              refine gj_il5 dX8_copy_89 ?_
              refine gj_cV2r dX8_copy_91 mX8_264 hX7_holdsRun q26 rfl (by omega) rfl (tX7_holdsRun1  (by omega) ⟨q26, q27⟩ (by omega) (by omega) (by omega)) ?_
              refine gj_ifB_ne dX8_copy_94 (fun h94 => ?_) (fun h94 => ?_)
              · refine gj_al6 dX8_copy_103 ?_
                refine gj_get dX8_copy_105 fX8_138 q24 rfl rfl ?_
                refine gj_il2 dX8_copy_108 ?_
                refine gj_al7 dX8_copy_109 ?_
                refine gj_get dX8_copy_111 fX8_138 q26 rfl rfl ?_
                refine gj_il4 dX8_copy_114 ?_
                refine gj_il5 dX8_copy_116 ?_
                refine gj_acopy dX8_copy_118 mX8_267 (by omega) rfl q25 rfl q27 rfl ⟨rfl, rfl⟩ (by omega) ?_
                refine gj_iconst dX8_copy_121 ?_
                exact gj_iret dX8_copy_122 rfl (Or.inl ⟨⟨by omega, by omega⟩, by omega, by omega, by omega, rfl, ⟨⟨(upw_o (by decide) q0), ⟨_, _, _, _, _, _, ⟨(upw_o (by decide) q1), (upw_o (by decide) q2), (upw_o (by decide) q3), (upw_o (by decide) q4), (upw_o (by decide) q5), (upw_o (by decide) q6)⟩, hRd⟩, ⟨_, ⟨(upw_o (by decide) q9), (upw_o (by decide) q10), (upw_o (by decide) q11)⟩, ⟨(upw_o (by decide) q7), (upw_o (by decide) q8)⟩, hO⟩, ⟨_, _, _, (upw_o (by decide) q12), (upw_o (by decide) q13), (upw_o (by decide) q14)⟩, ⟨_, (upw_o (by decide) q15)⟩, hbm, ⟨_, _, _, B, _, _, (upw_o (by decide) q16), (upw_o (by decide) q17), (upw_o (by decide) q18)⟩, ⟨⟨(upw_o (by decide) q19), (upw_o (by decide) q20), (upw_o (by decide) q21), (upw_o (by decide) q22)⟩, hMm⟩, ⟨⟨_, (upw_o (by decide) q23), s0, s1, s2, s3⟩, ⟨_, _, _, _, (upw_o (by decide) q24), (upw_o (by decide) q25), r0, d0⟩, ⟨_, _, _, _, (upw_o (by decide) q26), upw_s, r1, Or.inr ⟨e1, y1, m1, n1, t1, fun q g8 g9 => by
                            show cpf g0 g1 i j cn q = cpf (it 0) (it 1) i j cn q ∧ R32 (cpf g0 g1 i j cn q)
                            unfold cpf
                            by_cases z : j ≤ q ∧ q < j + cn
                            · rw [if_pos z, if_pos z]; exact v0 _ (by omega) (by omega)
                            · rw [if_neg z, if_neg z]; exact v1 q g8 g9⟩⟩, ⟨_, _, _, _, (upw_o (by decide) q28), (upw_o (by decide) q29), r2, d2⟩, ⟨_, _, _, _, (upw_o (by decide) q30), (upw_o (by decide) q31), r3, d3⟩⟩⟩, (fun k hk => upw_o (by omega) ((fun (k : Nat) (_ : 32 ≤ k) => rfl) k hk))⟩⟩)
              · refine gj_al0 dX8_copy_97 ?_
                refine gj_iconst dX8_copy_98 ?_
                refine gj_cV1w dX8_copy_99 mX8_127 hX8_found q0 rfl (by omega) rfl (tX8_found  (by omega) q0) (fun w99 P99 => ?_)
                obtain rfl := P99
                exact gj_iret dX8_copy_102 rfl (Or.inr (Or.inl ⟨⟨by omega, by omega⟩, by omega, by omega, by omega, rfl, ⟨⟨upw_s, ⟨_, _, _, _, _, _, ⟨(upw_o (by decide) q1), (upw_o (by decide) q2), (upw_o (by decide) q3), (upw_o (by decide) q4), (upw_o (by decide) q5), (upw_o (by decide) q6)⟩, hRd⟩, ⟨_, ⟨(upw_o (by decide) q9), (upw_o (by decide) q10), (upw_o (by decide) q11)⟩, ⟨(upw_o (by decide) q7), (upw_o (by decide) q8)⟩, hO⟩, ⟨_, _, _, (upw_o (by decide) q12), (upw_o (by decide) q13), (upw_o (by decide) q14)⟩, ⟨_, (upw_o (by decide) q15)⟩, hbm, ⟨_, _, _, B, _, _, (upw_o (by decide) q16), (upw_o (by decide) q17), (upw_o (by decide) q18)⟩, ⟨⟨(upw_o (by decide) q19), (upw_o (by decide) q20), (upw_o (by decide) q21), (upw_o (by decide) q22)⟩, hMm⟩, ⟨⟨_, (upw_o (by decide) q23), s0, s1, s2, s3⟩, ⟨_, _, _, _, (upw_o (by decide) q24), (upw_o (by decide) q25), r0, d0⟩, ⟨_, _, _, _, (upw_o (by decide) q26), (upw_o (by decide) q27), r1, d1⟩, ⟨_, _, _, _, (upw_o (by decide) q28), (upw_o (by decide) q29), r2, d2⟩, ⟨_, _, _, _, (upw_o (by decide) q30), (upw_o (by decide) q31), r3, d3⟩⟩⟩, (fun k hk => upw_o (by omega) ((fun (k : Nat) (_ : 32 ≤ k) => rfl) k hk))⟩⟩))
          · refine gj_al0 dX8_copy_68 ?_
            refine gj_iconst dX8_copy_69 ?_
            refine gj_cV1w dX8_copy_70 mX8_127 hX8_found q0 rfl (by omega) rfl (tX8_found  (by omega) q0) (fun w70 P70 => ?_)
            obtain rfl := P70
            exact gj_iret dX8_copy_73 rfl (Or.inr (Or.inr (Or.inl ⟨⟨by omega, by omega⟩, by omega, by omega, rfl, ⟨⟨upw_s, ⟨_, _, _, _, _, _, ⟨(upw_o (by decide) q1), (upw_o (by decide) q2), (upw_o (by decide) q3), (upw_o (by decide) q4), (upw_o (by decide) q5), (upw_o (by decide) q6)⟩, hRd⟩, ⟨_, ⟨(upw_o (by decide) q9), (upw_o (by decide) q10), (upw_o (by decide) q11)⟩, ⟨(upw_o (by decide) q7), (upw_o (by decide) q8)⟩, hO⟩, ⟨_, _, _, (upw_o (by decide) q12), (upw_o (by decide) q13), (upw_o (by decide) q14)⟩, ⟨_, (upw_o (by decide) q15)⟩, hbm, ⟨_, _, _, B, _, _, (upw_o (by decide) q16), (upw_o (by decide) q17), (upw_o (by decide) q18)⟩, ⟨⟨(upw_o (by decide) q19), (upw_o (by decide) q20), (upw_o (by decide) q21), (upw_o (by decide) q22)⟩, hMm⟩, ⟨⟨_, (upw_o (by decide) q23), s0, s1, s2, s3⟩, ⟨_, _, _, _, (upw_o (by decide) q24), (upw_o (by decide) q25), r0, d0⟩, ⟨_, _, _, _, (upw_o (by decide) q26), (upw_o (by decide) q27), r1, d1⟩, ⟨_, _, _, _, (upw_o (by decide) q28), (upw_o (by decide) q29), r2, d2⟩, ⟨_, _, _, _, (upw_o (by decide) q30), (upw_o (by decide) q31), r3, d3⟩⟩⟩, (fun k hk => upw_o (by omega) ((fun (k : Nat) (_ : 32 ≤ k) => rfl) k hk))⟩⟩)))
        · have et : lo1 = 1 ∧ fm 1 = -1 := d1.resolve_right (fun z => absurd z.1 (by omega))
          refine gj_al0 dX8_copy_49 ?_
          refine gj_iconst dX8_copy_50 ?_
          refine gj_cV1w dX8_copy_51 mX8_127 hX8_found q0 rfl (by omega) rfl (tX8_found  (by omega) q0) (fun w51 P51 => ?_)
          obtain rfl := P51
          exact gj_iret dX8_copy_54 rfl (Or.inr (Or.inr (Or.inr (Or.inl ⟨⟨by omega, by omega⟩, Or.inr et.2, rfl, ⟨⟨upw_s, ⟨_, _, _, _, _, _, ⟨(upw_o (by decide) q1), (upw_o (by decide) q2), (upw_o (by decide) q3), (upw_o (by decide) q4), (upw_o (by decide) q5), (upw_o (by decide) q6)⟩, hRd⟩, ⟨_, ⟨(upw_o (by decide) q9), (upw_o (by decide) q10), (upw_o (by decide) q11)⟩, ⟨(upw_o (by decide) q7), (upw_o (by decide) q8)⟩, hO⟩, ⟨_, _, _, (upw_o (by decide) q12), (upw_o (by decide) q13), (upw_o (by decide) q14)⟩, ⟨_, (upw_o (by decide) q15)⟩, hbm, ⟨_, _, _, B, _, _, (upw_o (by decide) q16), (upw_o (by decide) q17), (upw_o (by decide) q18)⟩, ⟨⟨(upw_o (by decide) q19), (upw_o (by decide) q20), (upw_o (by decide) q21), (upw_o (by decide) q22)⟩, hMm⟩, ⟨⟨_, (upw_o (by decide) q23), s0, s1, s2, s3⟩, ⟨_, _, _, _, (upw_o (by decide) q24), (upw_o (by decide) q25), r0, d0⟩, ⟨_, _, _, _, (upw_o (by decide) q26), (upw_o (by decide) q27), r1, d1⟩, ⟨_, _, _, _, (upw_o (by decide) q28), (upw_o (by decide) q29), r2, d2⟩, ⟨_, _, _, _, (upw_o (by decide) q30), (upw_o (by decide) q31), r3, d3⟩⟩⟩, (fun k hk => upw_o (by omega) ((fun (k : Nat) (_ : 32 ≤ k) => rfl) k hk))⟩⟩))))
    · exact absurd (by omega) h11
set_option maxRecDepth 20000 in
set_option maxHeartbeats 4000000 in
theorem tCopy02 {l : Launch} {x : Cx} {d : Nat} {w : AW} {tx : Int → Int} {by0 : Int} {ru fa fe : Int → Int} {fc lw br me : Int} {mh ml mw : Int → Int} {mn fi : Int} {fm ln : Int → Int} {it : Int → Int → Int} {i j cn : Int} (hd : 2 ≤ d) (hC : ClassC w tx by0 ru fa fe fc lw br me mh ml mw mn fi fm ln it) (hi : R32 i) (hj : R32 j) (hcn : R32 cn) : Mt l x iX8_copy d 0 0 50 w [vR 0, vI 0, vI i, vI 2, vI j, vI cn] (fun v2 w2 => (((0 ≤ (0 : Int) ∧ (0 : Int) ≤ 3) ∧ (0 ≤ (2 : Int) ∧ (2 : Int) ≤ 3)) ∧ ¬ (fm (0 : Int) = -1 ∨ fm (2 : Int) = -1) ∧ fm (0 : Int) = fm (2 : Int) ∧ (0 ≤ i ∧ 0 ≤ cn ∧ i ≤ ln (0 : Int) ∧ cn ≤ ln (0 : Int) - i ∧ 0 ≤ j ∧ j ≤ ln (2 : Int) ∧ cn ≤ ln (2 : Int) - j) ∧ v2 = some (vI 1) ∧ ClassC w2 tx by0 ru fa fe fc lw br me mh ml mw mn fi fm ln (upi it (2 : Int) (cpf (it (0 : Int)) (it (2 : Int)) i j cn)) ∧ ∀ k : Nat, 32 ≤ k → w2 k = w k) ∨ (((0 ≤ (0 : Int) ∧ (0 : Int) ≤ 3) ∧ (0 ≤ (2 : Int) ∧ (2 : Int) ≤ 3)) ∧ ¬ (fm (0 : Int) = -1 ∨ fm (2 : Int) = -1) ∧ fm (0 : Int) = fm (2 : Int) ∧ ¬ (0 ≤ i ∧ 0 ≤ cn ∧ i ≤ ln (0 : Int) ∧ cn ≤ ln (0 : Int) - i ∧ 0 ≤ j ∧ j ≤ ln (2 : Int) ∧ cn ≤ ln (2 : Int) - j) ∧ v2 = some (vI (-12)) ∧ ClassC w2 tx by0 ru fa fe fc lw br me mh ml mw mn 2 fm ln it ∧ ∀ k : Nat, 32 ≤ k → w2 k = w k) ∨ (((0 ≤ (0 : Int) ∧ (0 : Int) ≤ 3) ∧ (0 ≤ (2 : Int) ∧ (2 : Int) ≤ 3)) ∧ ¬ (fm (0 : Int) = -1 ∨ fm (2 : Int) = -1) ∧ fm (0 : Int) ≠ fm (2 : Int) ∧ v2 = some (vI (-14)) ∧ ClassC w2 tx by0 ru fa fe fc lw br me mh ml mw mn 4 fm ln it ∧ ∀ k : Nat, 32 ≤ k → w2 k = w k) ∨ (((0 ≤ (0 : Int) ∧ (0 : Int) ≤ 3) ∧ (0 ≤ (2 : Int) ∧ (2 : Int) ≤ 3)) ∧ (fm (0 : Int) = -1 ∨ fm (2 : Int) = -1) ∧ v2 = some (vI (-11)) ∧ ClassC w2 tx by0 ru fa fe fc lw br me mh ml mw mn 1 fm ln it ∧ ∀ k : Nat, 32 ≤ k → w2 k = w k) ∨ (¬ ((0 ≤ (0 : Int) ∧ (0 : Int) ≤ 3) ∧ (0 ≤ (2 : Int) ∧ (2 : Int) ≤ 3)) ∧ v2 = some (vI (-2)) ∧ w2 = w)) := by
  have hC0 := hC
  obtain ⟨q0, ⟨on, ot, ho, wy, nu, fl, ⟨q1, q2, q3, q4, q5, q6⟩, hRd⟩, ⟨fd, ⟨q9, q10, q11⟩, ⟨q7, q8⟩, hO⟩, ⟨la, be, ne, q12, q13, q14⟩, ⟨sl, q15⟩, hbm, ⟨go, st, bn, B, ra, rb, q16, q17, q18⟩, ⟨⟨q19, q20, q21, q22⟩, hMm⟩, hSh⟩ := hC
  have hW : WarC w fa (warB lw fa ru fe fc) := ⟨fe, ru, fc, fd, lw, ⟨q9, q10, q11⟩, ⟨q7, q8⟩, hO, rfl⟩
  have hE := hRd.ed
  have hM := hRd.mat
  obtain ⟨⟨sf, q23, s0, s1, s2, s3⟩, ⟨fo0, le0, lo0, g0, q24, q25, r0, d0⟩, ⟨fo1, le1, lo1, g1, q26, q27, r1, d1⟩, ⟨fo2, le2, lo2, g2, q28, q29, r2, d2⟩, ⟨fo3, le3, lo3, g3, q30, q31, r3, d3⟩⟩ := hSh
  refine Mt.of (L0 := [some (vR 0), some (vI 0), some (vI i), some (vI 2), some (vI j), some (vI cn), none, none]) rfl rfl rfl ?_
  refine gj_il1 dX8_copy_0 ?_
  refine gj_cS1r dX8_copy_1 mX8_120 hX8_isSheet (by omega) rfl (tX8_isSheet  (by omega) (by omega)) ?_
  refine gj_ifB_eq dX8_copy_4 (fun h4 => ?_) (fun h4 => ?_)
  · exact absurd (by omega) h4
  · refine gj_il3 dX8_copy_7 ?_
    refine gj_cS1r dX8_copy_8 mX8_120 hX8_isSheet (by omega) rfl (tX8_isSheet  (by omega) (by omega)) ?_
    refine gj_ifB_ne dX8_copy_11 (fun h11 => ?_) (fun h11 => ?_)
    · refine gj_al0 dX8_copy_17 ?_
      refine gj_get dX8_copy_18 fX8_66 q0 rfl rfl ?_
      refine gj_il1 dX8_copy_21 ?_
      refine gj_aald dX8_copy_22 q23 rfl rfl (by omega) s0 ?_
      refine gj_as6 dX8_copy_23 rfl rfl ?_
      refine gj_al0 dX8_copy_25 ?_
      refine gj_get dX8_copy_26 fX8_66 q0 rfl rfl ?_
      refine gj_il3 dX8_copy_29 ?_
      refine gj_aald dX8_copy_30 q23 rfl rfl (by omega) s2 ?_
      refine gj_as7 dX8_copy_31 rfl rfl ?_
      refine gj_al6 dX8_copy_33 ?_
      refine gj_get dX8_copy_35 fX8_123 q24 rfl rfl ?_
      refine gj_if_ne dX8_copy_38 (by omega) (fun h38 => ?_) (fun h38 => ?_)
      · have e0 : lo0 = 1 ∧ fm 0 = -1 := d0.resolve_right (fun z => absurd z.1 (by omega))
        refine gj_al0 dX8_copy_49 ?_
        refine gj_iconst dX8_copy_50 ?_
        refine gj_cV1w dX8_copy_51 mX8_127 hX8_found q0 rfl (by omega) rfl (tX8_found  (by omega) q0) (fun w51 P51 => ?_)
        obtain rfl := P51
        exact gj_iret dX8_copy_54 rfl (Or.inr (Or.inr (Or.inr (Or.inl ⟨⟨by omega, by omega⟩, Or.inl e0.2, rfl, ⟨⟨upw_s, ⟨_, _, _, _, _, _, ⟨(upw_o (by decide) q1), (upw_o (by decide) q2), (upw_o (by decide) q3), (upw_o (by decide) q4), (upw_o (by decide) q5), (upw_o (by decide) q6)⟩, hRd⟩, ⟨_, ⟨(upw_o (by decide) q9), (upw_o (by decide) q10), (upw_o (by decide) q11)⟩, ⟨(upw_o (by decide) q7), (upw_o (by decide) q8)⟩, hO⟩, ⟨_, _, _, (upw_o (by decide) q12), (upw_o (by decide) q13), (upw_o (by decide) q14)⟩, ⟨_, (upw_o (by decide) q15)⟩, hbm, ⟨_, _, _, B, _, _, (upw_o (by decide) q16), (upw_o (by decide) q17), (upw_o (by decide) q18)⟩, ⟨⟨(upw_o (by decide) q19), (upw_o (by decide) q20), (upw_o (by decide) q21), (upw_o (by decide) q22)⟩, hMm⟩, ⟨⟨_, (upw_o (by decide) q23), s0, s1, s2, s3⟩, ⟨_, _, _, _, (upw_o (by decide) q24), (upw_o (by decide) q25), r0, d0⟩, ⟨_, _, _, _, (upw_o (by decide) q26), (upw_o (by decide) q27), r1, d1⟩, ⟨_, _, _, _, (upw_o (by decide) q28), (upw_o (by decide) q29), r2, d2⟩, ⟨_, _, _, _, (upw_o (by decide) q30), (upw_o (by decide) q31), r3, d3⟩⟩⟩, (fun k hk => upw_o (by omega) ((fun (k : Nat) (_ : 32 ≤ k) => rfl) k hk))⟩⟩))))
      · obtain ⟨e0, y0, m0, n0, t0, v0⟩ : lo0 = 0 ∧ fm 0 = fo0 ∧ (0 ≤ fo0 ∧ fo0 ≤ 2) ∧ ln 0 = le0 ∧ (0 ≤ le0 ∧ le0 ≤ 60) ∧ ∀ j : Int, 0 ≤ j → j < le0 → g0 j = it 0 j ∧ R32 (g0 j) := d0.resolve_left (fun z => absurd z.1 (by omega))
        refine gj_al7 dX8_copy_41 ?_
        refine gj_get dX8_copy_43 fX8_123 q28 rfl rfl ?_
        refine gj_if_eq dX8_copy_46 (by omega) (fun h46 => ?_) (fun h46 => ?_)
        · obtain ⟨e2, y2, m2, n2, t2, v2⟩ : lo2 = 0 ∧ fm 2 = fo2 ∧ (0 ≤ fo2 ∧ fo2 ≤ 2) ∧ ln 2 = le2 ∧ (0 ≤ le2 ∧ le2 ≤ 60) ∧ ∀ j : Int, 0 ≤ j → j < le2 → g2 j = it 2 j ∧ R32 (g2 j) := d2.resolve_left (fun z => absurd z.1 (by omega))
          refine gj_al6 dX8_copy_55 ?_
          refine gj_get dX8_copy_57 fX8_261 q24 rfl rfl ?_
          refine gj_al7 dX8_copy_60 ?_
          refine gj_get dX8_copy_62 fX8_261 q28 rfl rfl ?_
          refine gj_icmp_eq dX8_copy_65 (by omega) (fun h65 => ?_) (fun h65 => ?_)
          · refine gj_al6 dX8_copy_74 ?_
            refine gj_il2 dX8_copy_76 ?_
            refine gj_il5 dX8_copy_77 ?_
            refine gj_cV2r dX8_copy_79 mX8_264 hX7_holdsRun q24 rfl (by omega) rfl (tX7_holdsRun0  (by omega) ⟨q24, q25⟩ (by omega) (by omega) (by omega)) ?_
            refine gj_ifB_eq dX8_copy_82 (fun h82 => ?_) (fun h82 => ?_)
            · refine gj_al0 dX8_copy_97 ?_
              refine gj_iconst dX8_copy_98 ?_
              refine gj_cV1w dX8_copy_99 mX8_127 hX8_found q0 rfl (by omega) rfl (tX8_found  (by omega) q0) (fun w99 P99 => ?_)
              obtain rfl := P99
              exact gj_iret dX8_copy_102 rfl (Or.inr (Or.inl ⟨⟨by omega, by omega⟩, by omega, by omega, by omega, rfl, ⟨⟨upw_s, ⟨_, _, _, _, _, _, ⟨(upw_o (by decide) q1), (upw_o (by decide) q2), (upw_o (by decide) q3), (upw_o (by decide) q4), (upw_o (by decide) q5), (upw_o (by decide) q6)⟩, hRd⟩, ⟨_, ⟨(upw_o (by decide) q9), (upw_o (by decide) q10), (upw_o (by decide) q11)⟩, ⟨(upw_o (by decide) q7), (upw_o (by decide) q8)⟩, hO⟩, ⟨_, _, _, (upw_o (by decide) q12), (upw_o (by decide) q13), (upw_o (by decide) q14)⟩, ⟨_, (upw_o (by decide) q15)⟩, hbm, ⟨_, _, _, B, _, _, (upw_o (by decide) q16), (upw_o (by decide) q17), (upw_o (by decide) q18)⟩, ⟨⟨(upw_o (by decide) q19), (upw_o (by decide) q20), (upw_o (by decide) q21), (upw_o (by decide) q22)⟩, hMm⟩, ⟨⟨_, (upw_o (by decide) q23), s0, s1, s2, s3⟩, ⟨_, _, _, _, (upw_o (by decide) q24), (upw_o (by decide) q25), r0, d0⟩, ⟨_, _, _, _, (upw_o (by decide) q26), (upw_o (by decide) q27), r1, d1⟩, ⟨_, _, _, _, (upw_o (by decide) q28), (upw_o (by decide) q29), r2, d2⟩, ⟨_, _, _, _, (upw_o (by decide) q30), (upw_o (by decide) q31), r3, d3⟩⟩⟩, (fun k hk => upw_o (by omega) ((fun (k : Nat) (_ : 32 ≤ k) => rfl) k hk))⟩⟩))
            · refine gj_al7 dX8_copy_85 ?_
              refine gj_il4 dX8_copy_87 ?_
              refine gj_il5 dX8_copy_89 ?_
              refine gj_cV2r dX8_copy_91 mX8_264 hX7_holdsRun q28 rfl (by omega) rfl (tX7_holdsRun2  (by omega) ⟨q28, q29⟩ (by omega) (by omega) (by omega)) ?_
              refine gj_ifB_ne dX8_copy_94 (fun h94 => ?_) (fun h94 => ?_)
              · refine gj_al6 dX8_copy_103 ?_
                refine gj_get dX8_copy_105 fX8_138 q24 rfl rfl ?_
                refine gj_il2 dX8_copy_108 ?_
                refine gj_al7 dX8_copy_109 ?_
                refine gj_get dX8_copy_111 fX8_138 q28 rfl rfl ?_
                refine gj_il4 dX8_copy_114 ?_
                refine gj_il5 dX8_copy_116 ?_
                refine gj_acopy dX8_copy_118 mX8_267 (by omega) rfl q25 rfl q29 rfl ⟨rfl, rfl⟩ (by omega) ?_
                refine gj_iconst dX8_copy_121 ?_
                exact gj_iret dX8_copy_122 rfl (Or.inl ⟨⟨by omega, by omega⟩, by omega, by omega, by omega, rfl, ⟨⟨(upw_o (by decide) q0), ⟨_, _, _, _, _, _, ⟨(upw_o (by decide) q1), (upw_o (by decide) q2), (upw_o (by decide) q3), (upw_o (by decide) q4), (upw_o (by decide) q5), (upw_o (by decide) q6)⟩, hRd⟩, ⟨_, ⟨(upw_o (by decide) q9), (upw_o (by decide) q10), (upw_o (by decide) q11)⟩, ⟨(upw_o (by decide) q7), (upw_o (by decide) q8)⟩, hO⟩, ⟨_, _, _, (upw_o (by decide) q12), (upw_o (by decide) q13), (upw_o (by decide) q14)⟩, ⟨_, (upw_o (by decide) q15)⟩, hbm, ⟨_, _, _, B, _, _, (upw_o (by decide) q16), (upw_o (by decide) q17), (upw_o (by decide) q18)⟩, ⟨⟨(upw_o (by decide) q19), (upw_o (by decide) q20), (upw_o (by decide) q21), (upw_o (by decide) q22)⟩, hMm⟩, ⟨⟨_, (upw_o (by decide) q23), s0, s1, s2, s3⟩, ⟨_, _, _, _, (upw_o (by decide) q24), (upw_o (by decide) q25), r0, d0⟩, ⟨_, _, _, _, (upw_o (by decide) q26), (upw_o (by decide) q27), r1, d1⟩, ⟨_, _, _, _, (upw_o (by decide) q28), upw_s, r2, Or.inr ⟨e2, y2, m2, n2, t2, fun q g8 g9 => by
                            show cpf g0 g2 i j cn q = cpf (it 0) (it 2) i j cn q ∧ R32 (cpf g0 g2 i j cn q)
                            unfold cpf
                            by_cases z : j ≤ q ∧ q < j + cn
                            · rw [if_pos z, if_pos z]; exact v0 _ (by omega) (by omega)
                            · rw [if_neg z, if_neg z]; exact v2 q g8 g9⟩⟩, ⟨_, _, _, _, (upw_o (by decide) q30), (upw_o (by decide) q31), r3, d3⟩⟩⟩, (fun k hk => upw_o (by omega) ((fun (k : Nat) (_ : 32 ≤ k) => rfl) k hk))⟩⟩)
              · refine gj_al0 dX8_copy_97 ?_
                refine gj_iconst dX8_copy_98 ?_
                refine gj_cV1w dX8_copy_99 mX8_127 hX8_found q0 rfl (by omega) rfl (tX8_found  (by omega) q0) (fun w99 P99 => ?_)
                obtain rfl := P99
                exact gj_iret dX8_copy_102 rfl (Or.inr (Or.inl ⟨⟨by omega, by omega⟩, by omega, by omega, by omega, rfl, ⟨⟨upw_s, ⟨_, _, _, _, _, _, ⟨(upw_o (by decide) q1), (upw_o (by decide) q2), (upw_o (by decide) q3), (upw_o (by decide) q4), (upw_o (by decide) q5), (upw_o (by decide) q6)⟩, hRd⟩, ⟨_, ⟨(upw_o (by decide) q9), (upw_o (by decide) q10), (upw_o (by decide) q11)⟩, ⟨(upw_o (by decide) q7), (upw_o (by decide) q8)⟩, hO⟩, ⟨_, _, _, (upw_o (by decide) q12), (upw_o (by decide) q13), (upw_o (by decide) q14)⟩, ⟨_, (upw_o (by decide) q15)⟩, hbm, ⟨_, _, _, B, _, _, (upw_o (by decide) q16), (upw_o (by decide) q17), (upw_o (by decide) q18)⟩, ⟨⟨(upw_o (by decide) q19), (upw_o (by decide) q20), (upw_o (by decide) q21), (upw_o (by decide) q22)⟩, hMm⟩, ⟨⟨_, (upw_o (by decide) q23), s0, s1, s2, s3⟩, ⟨_, _, _, _, (upw_o (by decide) q24), (upw_o (by decide) q25), r0, d0⟩, ⟨_, _, _, _, (upw_o (by decide) q26), (upw_o (by decide) q27), r1, d1⟩, ⟨_, _, _, _, (upw_o (by decide) q28), (upw_o (by decide) q29), r2, d2⟩, ⟨_, _, _, _, (upw_o (by decide) q30), (upw_o (by decide) q31), r3, d3⟩⟩⟩, (fun k hk => upw_o (by omega) ((fun (k : Nat) (_ : 32 ≤ k) => rfl) k hk))⟩⟩))
          · refine gj_al0 dX8_copy_68 ?_
            refine gj_iconst dX8_copy_69 ?_
            refine gj_cV1w dX8_copy_70 mX8_127 hX8_found q0 rfl (by omega) rfl (tX8_found  (by omega) q0) (fun w70 P70 => ?_)
            obtain rfl := P70
            exact gj_iret dX8_copy_73 rfl (Or.inr (Or.inr (Or.inl ⟨⟨by omega, by omega⟩, by omega, by omega, rfl, ⟨⟨upw_s, ⟨_, _, _, _, _, _, ⟨(upw_o (by decide) q1), (upw_o (by decide) q2), (upw_o (by decide) q3), (upw_o (by decide) q4), (upw_o (by decide) q5), (upw_o (by decide) q6)⟩, hRd⟩, ⟨_, ⟨(upw_o (by decide) q9), (upw_o (by decide) q10), (upw_o (by decide) q11)⟩, ⟨(upw_o (by decide) q7), (upw_o (by decide) q8)⟩, hO⟩, ⟨_, _, _, (upw_o (by decide) q12), (upw_o (by decide) q13), (upw_o (by decide) q14)⟩, ⟨_, (upw_o (by decide) q15)⟩, hbm, ⟨_, _, _, B, _, _, (upw_o (by decide) q16), (upw_o (by decide) q17), (upw_o (by decide) q18)⟩, ⟨⟨(upw_o (by decide) q19), (upw_o (by decide) q20), (upw_o (by decide) q21), (upw_o (by decide) q22)⟩, hMm⟩, ⟨⟨_, (upw_o (by decide) q23), s0, s1, s2, s3⟩, ⟨_, _, _, _, (upw_o (by decide) q24), (upw_o (by decide) q25), r0, d0⟩, ⟨_, _, _, _, (upw_o (by decide) q26), (upw_o (by decide) q27), r1, d1⟩, ⟨_, _, _, _, (upw_o (by decide) q28), (upw_o (by decide) q29), r2, d2⟩, ⟨_, _, _, _, (upw_o (by decide) q30), (upw_o (by decide) q31), r3, d3⟩⟩⟩, (fun k hk => upw_o (by omega) ((fun (k : Nat) (_ : 32 ≤ k) => rfl) k hk))⟩⟩)))
        · have et : lo2 = 1 ∧ fm 2 = -1 := d2.resolve_right (fun z => absurd z.1 (by omega))
          refine gj_al0 dX8_copy_49 ?_
          refine gj_iconst dX8_copy_50 ?_
          refine gj_cV1w dX8_copy_51 mX8_127 hX8_found q0 rfl (by omega) rfl (tX8_found  (by omega) q0) (fun w51 P51 => ?_)
          obtain rfl := P51
          exact gj_iret dX8_copy_54 rfl (Or.inr (Or.inr (Or.inr (Or.inl ⟨⟨by omega, by omega⟩, Or.inr et.2, rfl, ⟨⟨upw_s, ⟨_, _, _, _, _, _, ⟨(upw_o (by decide) q1), (upw_o (by decide) q2), (upw_o (by decide) q3), (upw_o (by decide) q4), (upw_o (by decide) q5), (upw_o (by decide) q6)⟩, hRd⟩, ⟨_, ⟨(upw_o (by decide) q9), (upw_o (by decide) q10), (upw_o (by decide) q11)⟩, ⟨(upw_o (by decide) q7), (upw_o (by decide) q8)⟩, hO⟩, ⟨_, _, _, (upw_o (by decide) q12), (upw_o (by decide) q13), (upw_o (by decide) q14)⟩, ⟨_, (upw_o (by decide) q15)⟩, hbm, ⟨_, _, _, B, _, _, (upw_o (by decide) q16), (upw_o (by decide) q17), (upw_o (by decide) q18)⟩, ⟨⟨(upw_o (by decide) q19), (upw_o (by decide) q20), (upw_o (by decide) q21), (upw_o (by decide) q22)⟩, hMm⟩, ⟨⟨_, (upw_o (by decide) q23), s0, s1, s2, s3⟩, ⟨_, _, _, _, (upw_o (by decide) q24), (upw_o (by decide) q25), r0, d0⟩, ⟨_, _, _, _, (upw_o (by decide) q26), (upw_o (by decide) q27), r1, d1⟩, ⟨_, _, _, _, (upw_o (by decide) q28), (upw_o (by decide) q29), r2, d2⟩, ⟨_, _, _, _, (upw_o (by decide) q30), (upw_o (by decide) q31), r3, d3⟩⟩⟩, (fun k hk => upw_o (by omega) ((fun (k : Nat) (_ : 32 ≤ k) => rfl) k hk))⟩⟩))))
    · exact absurd (by omega) h11
set_option maxRecDepth 20000 in
set_option maxHeartbeats 4000000 in
theorem tCopy03 {l : Launch} {x : Cx} {d : Nat} {w : AW} {tx : Int → Int} {by0 : Int} {ru fa fe : Int → Int} {fc lw br me : Int} {mh ml mw : Int → Int} {mn fi : Int} {fm ln : Int → Int} {it : Int → Int → Int} {i j cn : Int} (hd : 2 ≤ d) (hC : ClassC w tx by0 ru fa fe fc lw br me mh ml mw mn fi fm ln it) (hi : R32 i) (hj : R32 j) (hcn : R32 cn) : Mt l x iX8_copy d 0 0 50 w [vR 0, vI 0, vI i, vI 3, vI j, vI cn] (fun v2 w2 => (((0 ≤ (0 : Int) ∧ (0 : Int) ≤ 3) ∧ (0 ≤ (3 : Int) ∧ (3 : Int) ≤ 3)) ∧ ¬ (fm (0 : Int) = -1 ∨ fm (3 : Int) = -1) ∧ fm (0 : Int) = fm (3 : Int) ∧ (0 ≤ i ∧ 0 ≤ cn ∧ i ≤ ln (0 : Int) ∧ cn ≤ ln (0 : Int) - i ∧ 0 ≤ j ∧ j ≤ ln (3 : Int) ∧ cn ≤ ln (3 : Int) - j) ∧ v2 = some (vI 1) ∧ ClassC w2 tx by0 ru fa fe fc lw br me mh ml mw mn fi fm ln (upi it (3 : Int) (cpf (it (0 : Int)) (it (3 : Int)) i j cn)) ∧ ∀ k : Nat, 32 ≤ k → w2 k = w k) ∨ (((0 ≤ (0 : Int) ∧ (0 : Int) ≤ 3) ∧ (0 ≤ (3 : Int) ∧ (3 : Int) ≤ 3)) ∧ ¬ (fm (0 : Int) = -1 ∨ fm (3 : Int) = -1) ∧ fm (0 : Int) = fm (3 : Int) ∧ ¬ (0 ≤ i ∧ 0 ≤ cn ∧ i ≤ ln (0 : Int) ∧ cn ≤ ln (0 : Int) - i ∧ 0 ≤ j ∧ j ≤ ln (3 : Int) ∧ cn ≤ ln (3 : Int) - j) ∧ v2 = some (vI (-12)) ∧ ClassC w2 tx by0 ru fa fe fc lw br me mh ml mw mn 2 fm ln it ∧ ∀ k : Nat, 32 ≤ k → w2 k = w k) ∨ (((0 ≤ (0 : Int) ∧ (0 : Int) ≤ 3) ∧ (0 ≤ (3 : Int) ∧ (3 : Int) ≤ 3)) ∧ ¬ (fm (0 : Int) = -1 ∨ fm (3 : Int) = -1) ∧ fm (0 : Int) ≠ fm (3 : Int) ∧ v2 = some (vI (-14)) ∧ ClassC w2 tx by0 ru fa fe fc lw br me mh ml mw mn 4 fm ln it ∧ ∀ k : Nat, 32 ≤ k → w2 k = w k) ∨ (((0 ≤ (0 : Int) ∧ (0 : Int) ≤ 3) ∧ (0 ≤ (3 : Int) ∧ (3 : Int) ≤ 3)) ∧ (fm (0 : Int) = -1 ∨ fm (3 : Int) = -1) ∧ v2 = some (vI (-11)) ∧ ClassC w2 tx by0 ru fa fe fc lw br me mh ml mw mn 1 fm ln it ∧ ∀ k : Nat, 32 ≤ k → w2 k = w k) ∨ (¬ ((0 ≤ (0 : Int) ∧ (0 : Int) ≤ 3) ∧ (0 ≤ (3 : Int) ∧ (3 : Int) ≤ 3)) ∧ v2 = some (vI (-2)) ∧ w2 = w)) := by
  have hC0 := hC
  obtain ⟨q0, ⟨on, ot, ho, wy, nu, fl, ⟨q1, q2, q3, q4, q5, q6⟩, hRd⟩, ⟨fd, ⟨q9, q10, q11⟩, ⟨q7, q8⟩, hO⟩, ⟨la, be, ne, q12, q13, q14⟩, ⟨sl, q15⟩, hbm, ⟨go, st, bn, B, ra, rb, q16, q17, q18⟩, ⟨⟨q19, q20, q21, q22⟩, hMm⟩, hSh⟩ := hC
  have hW : WarC w fa (warB lw fa ru fe fc) := ⟨fe, ru, fc, fd, lw, ⟨q9, q10, q11⟩, ⟨q7, q8⟩, hO, rfl⟩
  have hE := hRd.ed
  have hM := hRd.mat
  obtain ⟨⟨sf, q23, s0, s1, s2, s3⟩, ⟨fo0, le0, lo0, g0, q24, q25, r0, d0⟩, ⟨fo1, le1, lo1, g1, q26, q27, r1, d1⟩, ⟨fo2, le2, lo2, g2, q28, q29, r2, d2⟩, ⟨fo3, le3, lo3, g3, q30, q31, r3, d3⟩⟩ := hSh
  refine Mt.of (L0 := [some (vR 0), some (vI 0), some (vI i), some (vI 3), some (vI j), some (vI cn), none, none]) rfl rfl rfl ?_
  refine gj_il1 dX8_copy_0 ?_
  refine gj_cS1r dX8_copy_1 mX8_120 hX8_isSheet (by omega) rfl (tX8_isSheet  (by omega) (by omega)) ?_
  refine gj_ifB_eq dX8_copy_4 (fun h4 => ?_) (fun h4 => ?_)
  · exact absurd (by omega) h4
  · refine gj_il3 dX8_copy_7 ?_
    refine gj_cS1r dX8_copy_8 mX8_120 hX8_isSheet (by omega) rfl (tX8_isSheet  (by omega) (by omega)) ?_
    refine gj_ifB_ne dX8_copy_11 (fun h11 => ?_) (fun h11 => ?_)
    · refine gj_al0 dX8_copy_17 ?_
      refine gj_get dX8_copy_18 fX8_66 q0 rfl rfl ?_
      refine gj_il1 dX8_copy_21 ?_
      refine gj_aald dX8_copy_22 q23 rfl rfl (by omega) s0 ?_
      refine gj_as6 dX8_copy_23 rfl rfl ?_
      refine gj_al0 dX8_copy_25 ?_
      refine gj_get dX8_copy_26 fX8_66 q0 rfl rfl ?_
      refine gj_il3 dX8_copy_29 ?_
      refine gj_aald dX8_copy_30 q23 rfl rfl (by omega) s3 ?_
      refine gj_as7 dX8_copy_31 rfl rfl ?_
      refine gj_al6 dX8_copy_33 ?_
      refine gj_get dX8_copy_35 fX8_123 q24 rfl rfl ?_
      refine gj_if_ne dX8_copy_38 (by omega) (fun h38 => ?_) (fun h38 => ?_)
      · have e0 : lo0 = 1 ∧ fm 0 = -1 := d0.resolve_right (fun z => absurd z.1 (by omega))
        refine gj_al0 dX8_copy_49 ?_
        refine gj_iconst dX8_copy_50 ?_
        refine gj_cV1w dX8_copy_51 mX8_127 hX8_found q0 rfl (by omega) rfl (tX8_found  (by omega) q0) (fun w51 P51 => ?_)
        obtain rfl := P51
        exact gj_iret dX8_copy_54 rfl (Or.inr (Or.inr (Or.inr (Or.inl ⟨⟨by omega, by omega⟩, Or.inl e0.2, rfl, ⟨⟨upw_s, ⟨_, _, _, _, _, _, ⟨(upw_o (by decide) q1), (upw_o (by decide) q2), (upw_o (by decide) q3), (upw_o (by decide) q4), (upw_o (by decide) q5), (upw_o (by decide) q6)⟩, hRd⟩, ⟨_, ⟨(upw_o (by decide) q9), (upw_o (by decide) q10), (upw_o (by decide) q11)⟩, ⟨(upw_o (by decide) q7), (upw_o (by decide) q8)⟩, hO⟩, ⟨_, _, _, (upw_o (by decide) q12), (upw_o (by decide) q13), (upw_o (by decide) q14)⟩, ⟨_, (upw_o (by decide) q15)⟩, hbm, ⟨_, _, _, B, _, _, (upw_o (by decide) q16), (upw_o (by decide) q17), (upw_o (by decide) q18)⟩, ⟨⟨(upw_o (by decide) q19), (upw_o (by decide) q20), (upw_o (by decide) q21), (upw_o (by decide) q22)⟩, hMm⟩, ⟨⟨_, (upw_o (by decide) q23), s0, s1, s2, s3⟩, ⟨_, _, _, _, (upw_o (by decide) q24), (upw_o (by decide) q25), r0, d0⟩, ⟨_, _, _, _, (upw_o (by decide) q26), (upw_o (by decide) q27), r1, d1⟩, ⟨_, _, _, _, (upw_o (by decide) q28), (upw_o (by decide) q29), r2, d2⟩, ⟨_, _, _, _, (upw_o (by decide) q30), (upw_o (by decide) q31), r3, d3⟩⟩⟩, (fun k hk => upw_o (by omega) ((fun (k : Nat) (_ : 32 ≤ k) => rfl) k hk))⟩⟩))))
      · obtain ⟨e0, y0, m0, n0, t0, v0⟩ : lo0 = 0 ∧ fm 0 = fo0 ∧ (0 ≤ fo0 ∧ fo0 ≤ 2) ∧ ln 0 = le0 ∧ (0 ≤ le0 ∧ le0 ≤ 60) ∧ ∀ j : Int, 0 ≤ j → j < le0 → g0 j = it 0 j ∧ R32 (g0 j) := d0.resolve_left (fun z => absurd z.1 (by omega))
        refine gj_al7 dX8_copy_41 ?_
        refine gj_get dX8_copy_43 fX8_123 q30 rfl rfl ?_
        refine gj_if_eq dX8_copy_46 (by omega) (fun h46 => ?_) (fun h46 => ?_)
        · obtain ⟨e3, y3, m3, n3, t3, v3⟩ : lo3 = 0 ∧ fm 3 = fo3 ∧ (0 ≤ fo3 ∧ fo3 ≤ 2) ∧ ln 3 = le3 ∧ (0 ≤ le3 ∧ le3 ≤ 60) ∧ ∀ j : Int, 0 ≤ j → j < le3 → g3 j = it 3 j ∧ R32 (g3 j) := d3.resolve_left (fun z => absurd z.1 (by omega))
          refine gj_al6 dX8_copy_55 ?_
          refine gj_get dX8_copy_57 fX8_261 q24 rfl rfl ?_
          refine gj_al7 dX8_copy_60 ?_
          refine gj_get dX8_copy_62 fX8_261 q30 rfl rfl ?_
          refine gj_icmp_eq dX8_copy_65 (by omega) (fun h65 => ?_) (fun h65 => ?_)
          · refine gj_al6 dX8_copy_74 ?_
            refine gj_il2 dX8_copy_76 ?_
            refine gj_il5 dX8_copy_77 ?_
            refine gj_cV2r dX8_copy_79 mX8_264 hX7_holdsRun q24 rfl (by omega) rfl (tX7_holdsRun0  (by omega) ⟨q24, q25⟩ (by omega) (by omega) (by omega)) ?_
            refine gj_ifB_eq dX8_copy_82 (fun h82 => ?_) (fun h82 => ?_)
            · refine gj_al0 dX8_copy_97 ?_
              refine gj_iconst dX8_copy_98 ?_
              refine gj_cV1w dX8_copy_99 mX8_127 hX8_found q0 rfl (by omega) rfl (tX8_found  (by omega) q0) (fun w99 P99 => ?_)
              obtain rfl := P99
              exact gj_iret dX8_copy_102 rfl (Or.inr (Or.inl ⟨⟨by omega, by omega⟩, by omega, by omega, by omega, rfl, ⟨⟨upw_s, ⟨_, _, _, _, _, _, ⟨(upw_o (by decide) q1), (upw_o (by decide) q2), (upw_o (by decide) q3), (upw_o (by decide) q4), (upw_o (by decide) q5), (upw_o (by decide) q6)⟩, hRd⟩, ⟨_, ⟨(upw_o (by decide) q9), (upw_o (by decide) q10), (upw_o (by decide) q11)⟩, ⟨(upw_o (by decide) q7), (upw_o (by decide) q8)⟩, hO⟩, ⟨_, _, _, (upw_o (by decide) q12), (upw_o (by decide) q13), (upw_o (by decide) q14)⟩, ⟨_, (upw_o (by decide) q15)⟩, hbm, ⟨_, _, _, B, _, _, (upw_o (by decide) q16), (upw_o (by decide) q17), (upw_o (by decide) q18)⟩, ⟨⟨(upw_o (by decide) q19), (upw_o (by decide) q20), (upw_o (by decide) q21), (upw_o (by decide) q22)⟩, hMm⟩, ⟨⟨_, (upw_o (by decide) q23), s0, s1, s2, s3⟩, ⟨_, _, _, _, (upw_o (by decide) q24), (upw_o (by decide) q25), r0, d0⟩, ⟨_, _, _, _, (upw_o (by decide) q26), (upw_o (by decide) q27), r1, d1⟩, ⟨_, _, _, _, (upw_o (by decide) q28), (upw_o (by decide) q29), r2, d2⟩, ⟨_, _, _, _, (upw_o (by decide) q30), (upw_o (by decide) q31), r3, d3⟩⟩⟩, (fun k hk => upw_o (by omega) ((fun (k : Nat) (_ : 32 ≤ k) => rfl) k hk))⟩⟩))
            · refine gj_al7 dX8_copy_85 ?_
              refine gj_il4 dX8_copy_87 ?_
              refine gj_il5 dX8_copy_89 ?_
              refine gj_cV2r dX8_copy_91 mX8_264 hX7_holdsRun q30 rfl (by omega) rfl (tX7_holdsRun3  (by omega) ⟨q30, q31⟩ (by omega) (by omega) (by omega)) ?_
              refine gj_ifB_ne dX8_copy_94 (fun h94 => ?_) (fun h94 => ?_)
              · refine gj_al6 dX8_copy_103 ?_
                refine gj_get dX8_copy_105 fX8_138 q24 rfl rfl ?_
                refine gj_il2 dX8_copy_108 ?_
                refine gj_al7 dX8_copy_109 ?_
                refine gj_get dX8_copy_111 fX8_138 q30 rfl rfl ?_
                refine gj_il4 dX8_copy_114 ?_
                refine gj_il5 dX8_copy_116 ?_
                refine gj_acopy dX8_copy_118 mX8_267 (by omega) rfl q25 rfl q31 rfl ⟨rfl, rfl⟩ (by omega) ?_
                refine gj_iconst dX8_copy_121 ?_
                exact gj_iret dX8_copy_122 rfl (Or.inl ⟨⟨by omega, by omega⟩, by omega, by omega, by omega, rfl, ⟨⟨(upw_o (by decide) q0), ⟨_, _, _, _, _, _, ⟨(upw_o (by decide) q1), (upw_o (by decide) q2), (upw_o (by decide) q3), (upw_o (by decide) q4), (upw_o (by decide) q5), (upw_o (by decide) q6)⟩, hRd⟩, ⟨_, ⟨(upw_o (by decide) q9), (upw_o (by decide) q10), (upw_o (by decide) q11)⟩, ⟨(upw_o (by decide) q7), (upw_o (by decide) q8)⟩, hO⟩, ⟨_, _, _, (upw_o (by decide) q12), (upw_o (by decide) q13), (upw_o (by decide) q14)⟩, ⟨_, (upw_o (by decide) q15)⟩, hbm, ⟨_, _, _, B, _, _, (upw_o (by decide) q16), (upw_o (by decide) q17), (upw_o (by decide) q18)⟩, ⟨⟨(upw_o (by decide) q19), (upw_o (by decide) q20), (upw_o (by decide) q21), (upw_o (by decide) q22)⟩, hMm⟩, ⟨⟨_, (upw_o (by decide) q23), s0, s1, s2, s3⟩, ⟨_, _, _, _, (upw_o (by decide) q24), (upw_o (by decide) q25), r0, d0⟩, ⟨_, _, _, _, (upw_o (by decide) q26), (upw_o (by decide) q27), r1, d1⟩, ⟨_, _, _, _, (upw_o (by decide) q28), (upw_o (by decide) q29), r2, d2⟩, ⟨_, _, _, _, (upw_o (by decide) q30), upw_s, r3, Or.inr ⟨e3, y3, m3, n3, t3, fun q g8 g9 => by
                            show cpf g0 g3 i j cn q = cpf (it 0) (it 3) i j cn q ∧ R32 (cpf g0 g3 i j cn q)
                            unfold cpf
                            by_cases z : j ≤ q ∧ q < j + cn
                            · rw [if_pos z, if_pos z]; exact v0 _ (by omega) (by omega)
                            · rw [if_neg z, if_neg z]; exact v3 q g8 g9⟩⟩⟩⟩, (fun k hk => upw_o (by omega) ((fun (k : Nat) (_ : 32 ≤ k) => rfl) k hk))⟩⟩)
              · refine gj_al0 dX8_copy_97 ?_
                refine gj_iconst dX8_copy_98 ?_
                refine gj_cV1w dX8_copy_99 mX8_127 hX8_found q0 rfl (by omega) rfl (tX8_found  (by omega) q0) (fun w99 P99 => ?_)
                obtain rfl := P99
                exact gj_iret dX8_copy_102 rfl (Or.inr (Or.inl ⟨⟨by omega, by omega⟩, by omega, by omega, by omega, rfl, ⟨⟨upw_s, ⟨_, _, _, _, _, _, ⟨(upw_o (by decide) q1), (upw_o (by decide) q2), (upw_o (by decide) q3), (upw_o (by decide) q4), (upw_o (by decide) q5), (upw_o (by decide) q6)⟩, hRd⟩, ⟨_, ⟨(upw_o (by decide) q9), (upw_o (by decide) q10), (upw_o (by decide) q11)⟩, ⟨(upw_o (by decide) q7), (upw_o (by decide) q8)⟩, hO⟩, ⟨_, _, _, (upw_o (by decide) q12), (upw_o (by decide) q13), (upw_o (by decide) q14)⟩, ⟨_, (upw_o (by decide) q15)⟩, hbm, ⟨_, _, _, B, _, _, (upw_o (by decide) q16), (upw_o (by decide) q17), (upw_o (by decide) q18)⟩, ⟨⟨(upw_o (by decide) q19), (upw_o (by decide) q20), (upw_o (by decide) q21), (upw_o (by decide) q22)⟩, hMm⟩, ⟨⟨_, (upw_o (by decide) q23), s0, s1, s2, s3⟩, ⟨_, _, _, _, (upw_o (by decide) q24), (upw_o (by decide) q25), r0, d0⟩, ⟨_, _, _, _, (upw_o (by decide) q26), (upw_o (by decide) q27), r1, d1⟩, ⟨_, _, _, _, (upw_o (by decide) q28), (upw_o (by decide) q29), r2, d2⟩, ⟨_, _, _, _, (upw_o (by decide) q30), (upw_o (by decide) q31), r3, d3⟩⟩⟩, (fun k hk => upw_o (by omega) ((fun (k : Nat) (_ : 32 ≤ k) => rfl) k hk))⟩⟩))
          · refine gj_al0 dX8_copy_68 ?_
            refine gj_iconst dX8_copy_69 ?_
            refine gj_cV1w dX8_copy_70 mX8_127 hX8_found q0 rfl (by omega) rfl (tX8_found  (by omega) q0) (fun w70 P70 => ?_)
            obtain rfl := P70
            exact gj_iret dX8_copy_73 rfl (Or.inr (Or.inr (Or.inl ⟨⟨by omega, by omega⟩, by omega, by omega, rfl, ⟨⟨upw_s, ⟨_, _, _, _, _, _, ⟨(upw_o (by decide) q1), (upw_o (by decide) q2), (upw_o (by decide) q3), (upw_o (by decide) q4), (upw_o (by decide) q5), (upw_o (by decide) q6)⟩, hRd⟩, ⟨_, ⟨(upw_o (by decide) q9), (upw_o (by decide) q10), (upw_o (by decide) q11)⟩, ⟨(upw_o (by decide) q7), (upw_o (by decide) q8)⟩, hO⟩, ⟨_, _, _, (upw_o (by decide) q12), (upw_o (by decide) q13), (upw_o (by decide) q14)⟩, ⟨_, (upw_o (by decide) q15)⟩, hbm, ⟨_, _, _, B, _, _, (upw_o (by decide) q16), (upw_o (by decide) q17), (upw_o (by decide) q18)⟩, ⟨⟨(upw_o (by decide) q19), (upw_o (by decide) q20), (upw_o (by decide) q21), (upw_o (by decide) q22)⟩, hMm⟩, ⟨⟨_, (upw_o (by decide) q23), s0, s1, s2, s3⟩, ⟨_, _, _, _, (upw_o (by decide) q24), (upw_o (by decide) q25), r0, d0⟩, ⟨_, _, _, _, (upw_o (by decide) q26), (upw_o (by decide) q27), r1, d1⟩, ⟨_, _, _, _, (upw_o (by decide) q28), (upw_o (by decide) q29), r2, d2⟩, ⟨_, _, _, _, (upw_o (by decide) q30), (upw_o (by decide) q31), r3, d3⟩⟩⟩, (fun k hk => upw_o (by omega) ((fun (k : Nat) (_ : 32 ≤ k) => rfl) k hk))⟩⟩)))
        · have et : lo3 = 1 ∧ fm 3 = -1 := d3.resolve_right (fun z => absurd z.1 (by omega))
          refine gj_al0 dX8_copy_49 ?_
          refine gj_iconst dX8_copy_50 ?_
          refine gj_cV1w dX8_copy_51 mX8_127 hX8_found q0 rfl (by omega) rfl (tX8_found  (by omega) q0) (fun w51 P51 => ?_)
          obtain rfl := P51
          exact gj_iret dX8_copy_54 rfl (Or.inr (Or.inr (Or.inr (Or.inl ⟨⟨by omega, by omega⟩, Or.inr et.2, rfl, ⟨⟨upw_s, ⟨_, _, _, _, _, _, ⟨(upw_o (by decide) q1), (upw_o (by decide) q2), (upw_o (by decide) q3), (upw_o (by decide) q4), (upw_o (by decide) q5), (upw_o (by decide) q6)⟩, hRd⟩, ⟨_, ⟨(upw_o (by decide) q9), (upw_o (by decide) q10), (upw_o (by decide) q11)⟩, ⟨(upw_o (by decide) q7), (upw_o (by decide) q8)⟩, hO⟩, ⟨_, _, _, (upw_o (by decide) q12), (upw_o (by decide) q13), (upw_o (by decide) q14)⟩, ⟨_, (upw_o (by decide) q15)⟩, hbm, ⟨_, _, _, B, _, _, (upw_o (by decide) q16), (upw_o (by decide) q17), (upw_o (by decide) q18)⟩, ⟨⟨(upw_o (by decide) q19), (upw_o (by decide) q20), (upw_o (by decide) q21), (upw_o (by decide) q22)⟩, hMm⟩, ⟨⟨_, (upw_o (by decide) q23), s0, s1, s2, s3⟩, ⟨_, _, _, _, (upw_o (by decide) q24), (upw_o (by decide) q25), r0, d0⟩, ⟨_, _, _, _, (upw_o (by decide) q26), (upw_o (by decide) q27), r1, d1⟩, ⟨_, _, _, _, (upw_o (by decide) q28), (upw_o (by decide) q29), r2, d2⟩, ⟨_, _, _, _, (upw_o (by decide) q30), (upw_o (by decide) q31), r3, d3⟩⟩⟩, (fun k hk => upw_o (by omega) ((fun (k : Nat) (_ : 32 ≤ k) => rfl) k hk))⟩⟩))))
    · exact absurd (by omega) h11
set_option maxRecDepth 20000 in
set_option maxHeartbeats 4000000 in
theorem tCopy10 {l : Launch} {x : Cx} {d : Nat} {w : AW} {tx : Int → Int} {by0 : Int} {ru fa fe : Int → Int} {fc lw br me : Int} {mh ml mw : Int → Int} {mn fi : Int} {fm ln : Int → Int} {it : Int → Int → Int} {i j cn : Int} (hd : 2 ≤ d) (hC : ClassC w tx by0 ru fa fe fc lw br me mh ml mw mn fi fm ln it) (hi : R32 i) (hj : R32 j) (hcn : R32 cn) : Mt l x iX8_copy d 0 0 50 w [vR 0, vI 1, vI i, vI 0, vI j, vI cn] (fun v2 w2 => (((0 ≤ (1 : Int) ∧ (1 : Int) ≤ 3) ∧ (0 ≤ (0 : Int) ∧ (0 : Int) ≤ 3)) ∧ ¬ (fm (1 : Int) = -1 ∨ fm (0 : Int) = -1) ∧ fm (1 : Int) = fm (0 : Int) ∧ (0 ≤ i ∧ 0 ≤ cn ∧ i ≤ ln (1 : Int) ∧ cn ≤ ln (1 : Int) - i ∧ 0 ≤ j ∧ j ≤ ln (0 : Int) ∧ cn ≤ ln (0 : Int) - j) ∧ v2 = some (vI 1) ∧ ClassC w2 tx by0 ru fa fe fc lw br me mh ml mw mn fi fm ln (upi it (0 : Int) (cpf (it (1 : Int)) (it (0 : Int)) i j cn)) ∧ ∀ k : Nat, 32 ≤ k → w2 k = w k) ∨ (((0 ≤ (1 : Int) ∧ (1 : Int) ≤ 3) ∧ (0 ≤ (0 : Int) ∧ (0 : Int) ≤ 3)) ∧ ¬ (fm (1 : Int) = -1 ∨ fm (0 : Int) = -1) ∧ fm (1 : Int) = fm (0 : Int) ∧ ¬ (0 ≤ i ∧ 0 ≤ cn ∧ i ≤ ln (1 : Int) ∧ cn ≤ ln (1 : Int) - i ∧ 0 ≤ j ∧ j ≤ ln (0 : Int) ∧ cn ≤ ln (0 : Int) - j) ∧ v2 = some (vI (-12)) ∧ ClassC w2 tx by0 ru fa fe fc lw br me mh ml mw mn 2 fm ln it ∧ ∀ k : Nat, 32 ≤ k → w2 k = w k) ∨ (((0 ≤ (1 : Int) ∧ (1 : Int) ≤ 3) ∧ (0 ≤ (0 : Int) ∧ (0 : Int) ≤ 3)) ∧ ¬ (fm (1 : Int) = -1 ∨ fm (0 : Int) = -1) ∧ fm (1 : Int) ≠ fm (0 : Int) ∧ v2 = some (vI (-14)) ∧ ClassC w2 tx by0 ru fa fe fc lw br me mh ml mw mn 4 fm ln it ∧ ∀ k : Nat, 32 ≤ k → w2 k = w k) ∨ (((0 ≤ (1 : Int) ∧ (1 : Int) ≤ 3) ∧ (0 ≤ (0 : Int) ∧ (0 : Int) ≤ 3)) ∧ (fm (1 : Int) = -1 ∨ fm (0 : Int) = -1) ∧ v2 = some (vI (-11)) ∧ ClassC w2 tx by0 ru fa fe fc lw br me mh ml mw mn 1 fm ln it ∧ ∀ k : Nat, 32 ≤ k → w2 k = w k) ∨ (¬ ((0 ≤ (1 : Int) ∧ (1 : Int) ≤ 3) ∧ (0 ≤ (0 : Int) ∧ (0 : Int) ≤ 3)) ∧ v2 = some (vI (-2)) ∧ w2 = w)) := by
  have hC0 := hC
  obtain ⟨q0, ⟨on, ot, ho, wy, nu, fl, ⟨q1, q2, q3, q4, q5, q6⟩, hRd⟩, ⟨fd, ⟨q9, q10, q11⟩, ⟨q7, q8⟩, hO⟩, ⟨la, be, ne, q12, q13, q14⟩, ⟨sl, q15⟩, hbm, ⟨go, st, bn, B, ra, rb, q16, q17, q18⟩, ⟨⟨q19, q20, q21, q22⟩, hMm⟩, hSh⟩ := hC
  have hW : WarC w fa (warB lw fa ru fe fc) := ⟨fe, ru, fc, fd, lw, ⟨q9, q10, q11⟩, ⟨q7, q8⟩, hO, rfl⟩
  have hE := hRd.ed
  have hM := hRd.mat
  obtain ⟨⟨sf, q23, s0, s1, s2, s3⟩, ⟨fo0, le0, lo0, g0, q24, q25, r0, d0⟩, ⟨fo1, le1, lo1, g1, q26, q27, r1, d1⟩, ⟨fo2, le2, lo2, g2, q28, q29, r2, d2⟩, ⟨fo3, le3, lo3, g3, q30, q31, r3, d3⟩⟩ := hSh
  refine Mt.of (L0 := [some (vR 0), some (vI 1), some (vI i), some (vI 0), some (vI j), some (vI cn), none, none]) rfl rfl rfl ?_
  refine gj_il1 dX8_copy_0 ?_
  refine gj_cS1r dX8_copy_1 mX8_120 hX8_isSheet (by omega) rfl (tX8_isSheet  (by omega) (by omega)) ?_
  refine gj_ifB_eq dX8_copy_4 (fun h4 => ?_) (fun h4 => ?_)
  · exact absurd (by omega) h4
  · refine gj_il3 dX8_copy_7 ?_
    refine gj_cS1r dX8_copy_8 mX8_120 hX8_isSheet (by omega) rfl (tX8_isSheet  (by omega) (by omega)) ?_
    refine gj_ifB_ne dX8_copy_11 (fun h11 => ?_) (fun h11 => ?_)
    · refine gj_al0 dX8_copy_17 ?_
      refine gj_get dX8_copy_18 fX8_66 q0 rfl rfl ?_
      refine gj_il1 dX8_copy_21 ?_
      refine gj_aald dX8_copy_22 q23 rfl rfl (by omega) s1 ?_
      refine gj_as6 dX8_copy_23 rfl rfl ?_
      refine gj_al0 dX8_copy_25 ?_
      refine gj_get dX8_copy_26 fX8_66 q0 rfl rfl ?_
      refine gj_il3 dX8_copy_29 ?_
      refine gj_aald dX8_copy_30 q23 rfl rfl (by omega) s0 ?_
      refine gj_as7 dX8_copy_31 rfl rfl ?_
      refine gj_al6 dX8_copy_33 ?_
      refine gj_get dX8_copy_35 fX8_123 q26 rfl rfl ?_
      refine gj_if_ne dX8_copy_38 (by omega) (fun h38 => ?_) (fun h38 => ?_)
      · have e1 : lo1 = 1 ∧ fm 1 = -1 := d1.resolve_right (fun z => absurd z.1 (by omega))
        refine gj_al0 dX8_copy_49 ?_
        refine gj_iconst dX8_copy_50 ?_
        refine gj_cV1w dX8_copy_51 mX8_127 hX8_found q0 rfl (by omega) rfl (tX8_found  (by omega) q0) (fun w51 P51 => ?_)
        obtain rfl := P51
        exact gj_iret dX8_copy_54 rfl (Or.inr (Or.inr (Or.inr (Or.inl ⟨⟨by omega, by omega⟩, Or.inl e1.2, rfl, ⟨⟨upw_s, ⟨_, _, _, _, _, _, ⟨(upw_o (by decide) q1), (upw_o (by decide) q2), (upw_o (by decide) q3), (upw_o (by decide) q4), (upw_o (by decide) q5), (upw_o (by decide) q6)⟩, hRd⟩, ⟨_, ⟨(upw_o (by decide) q9), (upw_o (by decide) q10), (upw_o (by decide) q11)⟩, ⟨(upw_o (by decide) q7), (upw_o (by decide) q8)⟩, hO⟩, ⟨_, _, _, (upw_o (by decide) q12), (upw_o (by decide) q13), (upw_o (by decide) q14)⟩, ⟨_, (upw_o (by decide) q15)⟩, hbm, ⟨_, _, _, B, _, _, (upw_o (by decide) q16), (upw_o (by decide) q17), (upw_o (by decide) q18)⟩, ⟨⟨(upw_o (by decide) q19), (upw_o (by decide) q20), (upw_o (by decide) q21), (upw_o (by decide) q22)⟩, hMm⟩, ⟨⟨_, (upw_o (by decide) q23), s0, s1, s2, s3⟩, ⟨_, _, _, _, (upw_o (by decide) q24), (upw_o (by decide) q25), r0, d0⟩, ⟨_, _, _, _, (upw_o (by decide) q26), (upw_o (by decide) q27), r1, d1⟩, ⟨_, _, _, _, (upw_o (by decide) q28), (upw_o (by decide) q29), r2, d2⟩, ⟨_, _, _, _, (upw_o (by decide) q30), (upw_o (by decide) q31), r3, d3⟩⟩⟩, (fun k hk => upw_o (by omega) ((fun (k : Nat) (_ : 32 ≤ k) => rfl) k hk))⟩⟩))))
      · obtain ⟨e1, y1, m1, n1, t1, v1⟩ : lo1 = 0 ∧ fm 1 = fo1 ∧ (0 ≤ fo1 ∧ fo1 ≤ 2) ∧ ln 1 = le1 ∧ (0 ≤ le1 ∧ le1 ≤ 60) ∧ ∀ j : Int, 0 ≤ j → j < le1 → g1 j = it 1 j ∧ R32 (g1 j) := d1.resolve_left (fun z => absurd z.1 (by omega))
        refine gj_al7 dX8_copy_41 ?_
        refine gj_get dX8_copy_43 fX8_123 q24 rfl rfl ?_
        refine gj_if_eq dX8_copy_46 (by omega) (fun h46 => ?_) (fun h46 => ?_)
        · obtain ⟨e0, y0, m0, n0, t0, v0⟩ : lo0 = 0 ∧ fm 0 = fo0 ∧ (0 ≤ fo0 ∧ fo0 ≤ 2) ∧ ln 0 = le0 ∧ (0 ≤ le0 ∧ le0 ≤ 60) ∧ ∀ j : Int, 0 ≤ j → j < le0 → g0 j = it 0 j ∧ R32 (g0 j) := d0.resolve_left (fun z => absurd z.1 (by omega))
          refine gj_al6 dX8_copy_55 ?_
          refine gj_get dX8_copy_57 fX8_261 q26 rfl rfl ?_
          refine gj_al7 dX8_copy_60 ?_
          refine gj_get dX8_copy_62 fX8_261 q24 rfl rfl ?_
          refine gj_icmp_eq dX8_copy_65 (by omega) (fun h65 => ?_) (fun h65 => ?_)
          · refine gj_al6 dX8_copy_74 ?_
            refine gj_il2 dX8_copy_76 ?_
            refine gj_il5 dX8_copy_77 ?_
            refine gj_cV2r dX8_copy_79 mX8_264 hX7_holdsRun q26 rfl (by omega) rfl (tX7_holdsRun1  (by omega) ⟨q26, q27⟩ (by omega) (by omega) (by omega)) ?_
            refine gj_ifB_eq dX8_copy_82 (fun h82 => ?_) (fun h82 => ?_)
            · refine gj_al0 dX8_copy_97 ?_
              refine gj_iconst dX8_copy_98 ?_
              refine gj_cV1w dX8_copy_99 mX8_127 hX8_found q0 rfl (by omega) rfl (tX8_found  (by omega) q0) (fun w99 P99 => ?_)
              obtain rfl := P99
              exact gj_iret dX8_copy_102 rfl (Or.inr (Or.inl ⟨⟨by omega, by omega⟩, by omega, by omega, by omega, rfl, ⟨⟨upw_s, ⟨_, _, _, _, _, _, ⟨(upw_o (by decide) q1), (upw_o (by decide) q2), (upw_o (by decide) q3), (upw_o (by decide) q4), (upw_o (by decide) q5), (upw_o (by decide) q6)⟩, hRd⟩, ⟨_, ⟨(upw_o (by decide) q9), (upw_o (by decide) q10), (upw_o (by decide) q11)⟩, ⟨(upw_o (by decide) q7), (upw_o (by decide) q8)⟩, hO⟩, ⟨_, _, _, (upw_o (by decide) q12), (upw_o (by decide) q13), (upw_o (by decide) q14)⟩, ⟨_, (upw_o (by decide) q15)⟩, hbm, ⟨_, _, _, B, _, _, (upw_o (by decide) q16), (upw_o (by decide) q17), (upw_o (by decide) q18)⟩, ⟨⟨(upw_o (by decide) q19), (upw_o (by decide) q20), (upw_o (by decide) q21), (upw_o (by decide) q22)⟩, hMm⟩, ⟨⟨_, (upw_o (by decide) q23), s0, s1, s2, s3⟩, ⟨_, _, _, _, (upw_o (by decide) q24), (upw_o (by decide) q25), r0, d0⟩, ⟨_, _, _, _, (upw_o (by decide) q26), (upw_o (by decide) q27), r1, d1⟩, ⟨_, _, _, _, (upw_o (by decide) q28), (upw_o (by decide) q29), r2, d2⟩, ⟨_, _, _, _, (upw_o (by decide) q30), (upw_o (by decide) q31), r3, d3⟩⟩⟩, (fun k hk => upw_o (by omega) ((fun (k : Nat) (_ : 32 ≤ k) => rfl) k hk))⟩⟩))
            · refine gj_al7 dX8_copy_85 ?_
              refine gj_il4 dX8_copy_87 ?_
              refine gj_il5 dX8_copy_89 ?_
              refine gj_cV2r dX8_copy_91 mX8_264 hX7_holdsRun q24 rfl (by omega) rfl (tX7_holdsRun0  (by omega) ⟨q24, q25⟩ (by omega) (by omega) (by omega)) ?_
              refine gj_ifB_ne dX8_copy_94 (fun h94 => ?_) (fun h94 => ?_)
              · refine gj_al6 dX8_copy_103 ?_
                refine gj_get dX8_copy_105 fX8_138 q26 rfl rfl ?_
                refine gj_il2 dX8_copy_108 ?_
                refine gj_al7 dX8_copy_109 ?_
                refine gj_get dX8_copy_111 fX8_138 q24 rfl rfl ?_
                refine gj_il4 dX8_copy_114 ?_
                refine gj_il5 dX8_copy_116 ?_
                refine gj_acopy dX8_copy_118 mX8_267 (by omega) rfl q27 rfl q25 rfl ⟨rfl, rfl⟩ (by omega) ?_
                refine gj_iconst dX8_copy_121 ?_
                exact gj_iret dX8_copy_122 rfl (Or.inl ⟨⟨by omega, by omega⟩, by omega, by omega, by omega, rfl, ⟨⟨(upw_o (by decide) q0), ⟨_, _, _, _, _, _, ⟨(upw_o (by decide) q1), (upw_o (by decide) q2), (upw_o (by decide) q3), (upw_o (by decide) q4), (upw_o (by decide) q5), (upw_o (by decide) q6)⟩, hRd⟩, ⟨_, ⟨(upw_o (by decide) q9), (upw_o (by decide) q10), (upw_o (by decide) q11)⟩, ⟨(upw_o (by decide) q7), (upw_o (by decide) q8)⟩, hO⟩, ⟨_, _, _, (upw_o (by decide) q12), (upw_o (by decide) q13), (upw_o (by decide) q14)⟩, ⟨_, (upw_o (by decide) q15)⟩, hbm, ⟨_, _, _, B, _, _, (upw_o (by decide) q16), (upw_o (by decide) q17), (upw_o (by decide) q18)⟩, ⟨⟨(upw_o (by decide) q19), (upw_o (by decide) q20), (upw_o (by decide) q21), (upw_o (by decide) q22)⟩, hMm⟩, ⟨⟨_, (upw_o (by decide) q23), s0, s1, s2, s3⟩, ⟨_, _, _, _, (upw_o (by decide) q24), upw_s, r0, Or.inr ⟨e0, y0, m0, n0, t0, fun q g8 g9 => by
                            show cpf g1 g0 i j cn q = cpf (it 1) (it 0) i j cn q ∧ R32 (cpf g1 g0 i j cn q)
                            unfold cpf
                            by_cases z : j ≤ q ∧ q < j + cn
                            · rw [if_pos z, if_pos z]; exact v1 _ (by omega) (by omega)
                            · rw [if_neg z, if_neg z]; exact v0 q g8 g9⟩⟩, ⟨_, _, _, _, (upw_o (by decide) q26), (upw_o (by decide) q27), r1, d1⟩, ⟨_, _, _, _, (upw_o (by decide) q28), (upw_o (by decide) q29), r2, d2⟩, ⟨_, _, _, _, (upw_o (by decide) q30), (upw_o (by decide) q31), r3, d3⟩⟩⟩, (fun k hk => upw_o (by omega) ((fun (k : Nat) (_ : 32 ≤ k) => rfl) k hk))⟩⟩)
              · refine gj_al0 dX8_copy_97 ?_
                refine gj_iconst dX8_copy_98 ?_
                refine gj_cV1w dX8_copy_99 mX8_127 hX8_found q0 rfl (by omega) rfl (tX8_found  (by omega) q0) (fun w99 P99 => ?_)
                obtain rfl := P99
                exact gj_iret dX8_copy_102 rfl (Or.inr (Or.inl ⟨⟨by omega, by omega⟩, by omega, by omega, by omega, rfl, ⟨⟨upw_s, ⟨_, _, _, _, _, _, ⟨(upw_o (by decide) q1), (upw_o (by decide) q2), (upw_o (by decide) q3), (upw_o (by decide) q4), (upw_o (by decide) q5), (upw_o (by decide) q6)⟩, hRd⟩, ⟨_, ⟨(upw_o (by decide) q9), (upw_o (by decide) q10), (upw_o (by decide) q11)⟩, ⟨(upw_o (by decide) q7), (upw_o (by decide) q8)⟩, hO⟩, ⟨_, _, _, (upw_o (by decide) q12), (upw_o (by decide) q13), (upw_o (by decide) q14)⟩, ⟨_, (upw_o (by decide) q15)⟩, hbm, ⟨_, _, _, B, _, _, (upw_o (by decide) q16), (upw_o (by decide) q17), (upw_o (by decide) q18)⟩, ⟨⟨(upw_o (by decide) q19), (upw_o (by decide) q20), (upw_o (by decide) q21), (upw_o (by decide) q22)⟩, hMm⟩, ⟨⟨_, (upw_o (by decide) q23), s0, s1, s2, s3⟩, ⟨_, _, _, _, (upw_o (by decide) q24), (upw_o (by decide) q25), r0, d0⟩, ⟨_, _, _, _, (upw_o (by decide) q26), (upw_o (by decide) q27), r1, d1⟩, ⟨_, _, _, _, (upw_o (by decide) q28), (upw_o (by decide) q29), r2, d2⟩, ⟨_, _, _, _, (upw_o (by decide) q30), (upw_o (by decide) q31), r3, d3⟩⟩⟩, (fun k hk => upw_o (by omega) ((fun (k : Nat) (_ : 32 ≤ k) => rfl) k hk))⟩⟩))
          · refine gj_al0 dX8_copy_68 ?_
            refine gj_iconst dX8_copy_69 ?_
            refine gj_cV1w dX8_copy_70 mX8_127 hX8_found q0 rfl (by omega) rfl (tX8_found  (by omega) q0) (fun w70 P70 => ?_)
            obtain rfl := P70
            exact gj_iret dX8_copy_73 rfl (Or.inr (Or.inr (Or.inl ⟨⟨by omega, by omega⟩, by omega, by omega, rfl, ⟨⟨upw_s, ⟨_, _, _, _, _, _, ⟨(upw_o (by decide) q1), (upw_o (by decide) q2), (upw_o (by decide) q3), (upw_o (by decide) q4), (upw_o (by decide) q5), (upw_o (by decide) q6)⟩, hRd⟩, ⟨_, ⟨(upw_o (by decide) q9), (upw_o (by decide) q10), (upw_o (by decide) q11)⟩, ⟨(upw_o (by decide) q7), (upw_o (by decide) q8)⟩, hO⟩, ⟨_, _, _, (upw_o (by decide) q12), (upw_o (by decide) q13), (upw_o (by decide) q14)⟩, ⟨_, (upw_o (by decide) q15)⟩, hbm, ⟨_, _, _, B, _, _, (upw_o (by decide) q16), (upw_o (by decide) q17), (upw_o (by decide) q18)⟩, ⟨⟨(upw_o (by decide) q19), (upw_o (by decide) q20), (upw_o (by decide) q21), (upw_o (by decide) q22)⟩, hMm⟩, ⟨⟨_, (upw_o (by decide) q23), s0, s1, s2, s3⟩, ⟨_, _, _, _, (upw_o (by decide) q24), (upw_o (by decide) q25), r0, d0⟩, ⟨_, _, _, _, (upw_o (by decide) q26), (upw_o (by decide) q27), r1, d1⟩, ⟨_, _, _, _, (upw_o (by decide) q28), (upw_o (by decide) q29), r2, d2⟩, ⟨_, _, _, _, (upw_o (by decide) q30), (upw_o (by decide) q31), r3, d3⟩⟩⟩, (fun k hk => upw_o (by omega) ((fun (k : Nat) (_ : 32 ≤ k) => rfl) k hk))⟩⟩)))
        · have et : lo0 = 1 ∧ fm 0 = -1 := d0.resolve_right (fun z => absurd z.1 (by omega))
          refine gj_al0 dX8_copy_49 ?_
          refine gj_iconst dX8_copy_50 ?_
          refine gj_cV1w dX8_copy_51 mX8_127 hX8_found q0 rfl (by omega) rfl (tX8_found  (by omega) q0) (fun w51 P51 => ?_)
          obtain rfl := P51
          exact gj_iret dX8_copy_54 rfl (Or.inr (Or.inr (Or.inr (Or.inl ⟨⟨by omega, by omega⟩, Or.inr et.2, rfl, ⟨⟨upw_s, ⟨_, _, _, _, _, _, ⟨(upw_o (by decide) q1), (upw_o (by decide) q2), (upw_o (by decide) q3), (upw_o (by decide) q4), (upw_o (by decide) q5), (upw_o (by decide) q6)⟩, hRd⟩, ⟨_, ⟨(upw_o (by decide) q9), (upw_o (by decide) q10), (upw_o (by decide) q11)⟩, ⟨(upw_o (by decide) q7), (upw_o (by decide) q8)⟩, hO⟩, ⟨_, _, _, (upw_o (by decide) q12), (upw_o (by decide) q13), (upw_o (by decide) q14)⟩, ⟨_, (upw_o (by decide) q15)⟩, hbm, ⟨_, _, _, B, _, _, (upw_o (by decide) q16), (upw_o (by decide) q17), (upw_o (by decide) q18)⟩, ⟨⟨(upw_o (by decide) q19), (upw_o (by decide) q20), (upw_o (by decide) q21), (upw_o (by decide) q22)⟩, hMm⟩, ⟨⟨_, (upw_o (by decide) q23), s0, s1, s2, s3⟩, ⟨_, _, _, _, (upw_o (by decide) q24), (upw_o (by decide) q25), r0, d0⟩, ⟨_, _, _, _, (upw_o (by decide) q26), (upw_o (by decide) q27), r1, d1⟩, ⟨_, _, _, _, (upw_o (by decide) q28), (upw_o (by decide) q29), r2, d2⟩, ⟨_, _, _, _, (upw_o (by decide) q30), (upw_o (by decide) q31), r3, d3⟩⟩⟩, (fun k hk => upw_o (by omega) ((fun (k : Nat) (_ : 32 ≤ k) => rfl) k hk))⟩⟩))))
    · exact absurd (by omega) h11
set_option maxRecDepth 20000 in
set_option maxHeartbeats 4000000 in
theorem tCopy11 {l : Launch} {x : Cx} {d : Nat} {w : AW} {tx : Int → Int} {by0 : Int} {ru fa fe : Int → Int} {fc lw br me : Int} {mh ml mw : Int → Int} {mn fi : Int} {fm ln : Int → Int} {it : Int → Int → Int} {i j cn : Int} (hd : 2 ≤ d) (hC : ClassC w tx by0 ru fa fe fc lw br me mh ml mw mn fi fm ln it) (hi : R32 i) (hj : R32 j) (hcn : R32 cn) : Mt l x iX8_copy d 0 0 50 w [vR 0, vI 1, vI i, vI 1, vI j, vI cn] (fun v2 w2 => (((0 ≤ (1 : Int) ∧ (1 : Int) ≤ 3) ∧ (0 ≤ (1 : Int) ∧ (1 : Int) ≤ 3)) ∧ ¬ (fm (1 : Int) = -1 ∨ fm (1 : Int) = -1) ∧ fm (1 : Int) = fm (1 : Int) ∧ (0 ≤ i ∧ 0 ≤ cn ∧ i ≤ ln (1 : Int) ∧ cn ≤ ln (1 : Int) - i ∧ 0 ≤ j ∧ j ≤ ln (1 : Int) ∧ cn ≤ ln (1 : Int) - j) ∧ v2 = some (vI 1) ∧ ClassC w2 tx by0 ru fa fe fc lw br me mh ml mw mn fi fm ln (upi it (1 : Int) (cpf (it (1 : Int)) (it (1 : Int)) i j cn)) ∧ ∀ k : Nat, 32 ≤ k → w2 k = w k) ∨ (((0 ≤ (1 : Int) ∧ (1 : Int) ≤ 3) ∧ (0 ≤ (1 : Int) ∧ (1 : Int) ≤ 3)) ∧ ¬ (fm (1 : Int) = -1 ∨ fm (1 : Int) = -1) ∧ fm (1 : Int) = fm (1 : Int) ∧ ¬ (0 ≤ i ∧ 0 ≤ cn ∧ i ≤ ln (1 : Int) ∧ cn ≤ ln (1 : Int) - i ∧ 0 ≤ j ∧ j ≤ ln (1 : Int) ∧ cn ≤ ln (1 : Int) - j) ∧ v2 = some (vI (-12)) ∧ ClassC w2 tx by0 ru fa fe fc lw br me mh ml mw mn 2 fm ln it ∧ ∀ k : Nat, 32 ≤ k → w2 k = w k) ∨ (((0 ≤ (1 : Int) ∧ (1 : Int) ≤ 3) ∧ (0 ≤ (1 : Int) ∧ (1 : Int) ≤ 3)) ∧ ¬ (fm (1 : Int) = -1 ∨ fm (1 : Int) = -1) ∧ fm (1 : Int) ≠ fm (1 : Int) ∧ v2 = some (vI (-14)) ∧ ClassC w2 tx by0 ru fa fe fc lw br me mh ml mw mn 4 fm ln it ∧ ∀ k : Nat, 32 ≤ k → w2 k = w k) ∨ (((0 ≤ (1 : Int) ∧ (1 : Int) ≤ 3) ∧ (0 ≤ (1 : Int) ∧ (1 : Int) ≤ 3)) ∧ (fm (1 : Int) = -1 ∨ fm (1 : Int) = -1) ∧ v2 = some (vI (-11)) ∧ ClassC w2 tx by0 ru fa fe fc lw br me mh ml mw mn 1 fm ln it ∧ ∀ k : Nat, 32 ≤ k → w2 k = w k) ∨ (¬ ((0 ≤ (1 : Int) ∧ (1 : Int) ≤ 3) ∧ (0 ≤ (1 : Int) ∧ (1 : Int) ≤ 3)) ∧ v2 = some (vI (-2)) ∧ w2 = w)) := by
  have hC0 := hC
  obtain ⟨q0, ⟨on, ot, ho, wy, nu, fl, ⟨q1, q2, q3, q4, q5, q6⟩, hRd⟩, ⟨fd, ⟨q9, q10, q11⟩, ⟨q7, q8⟩, hO⟩, ⟨la, be, ne, q12, q13, q14⟩, ⟨sl, q15⟩, hbm, ⟨go, st, bn, B, ra, rb, q16, q17, q18⟩, ⟨⟨q19, q20, q21, q22⟩, hMm⟩, hSh⟩ := hC
  have hW : WarC w fa (warB lw fa ru fe fc) := ⟨fe, ru, fc, fd, lw, ⟨q9, q10, q11⟩, ⟨q7, q8⟩, hO, rfl⟩
  have hE := hRd.ed
  have hM := hRd.mat
  obtain ⟨⟨sf, q23, s0, s1, s2, s3⟩, ⟨fo0, le0, lo0, g0, q24, q25, r0, d0⟩, ⟨fo1, le1, lo1, g1, q26, q27, r1, d1⟩, ⟨fo2, le2, lo2, g2, q28, q29, r2, d2⟩, ⟨fo3, le3, lo3, g3, q30, q31, r3, d3⟩⟩ := hSh
  refine Mt.of (L0 := [some (vR 0), some (vI 1), some (vI i), some (vI 1), some (vI j), some (vI cn), none, none]) rfl rfl rfl ?_
  refine gj_il1 dX8_copy_0 ?_
  refine gj_cS1r dX8_copy_1 mX8_120 hX8_isSheet (by omega) rfl (tX8_isSheet  (by omega) (by omega)) ?_
  refine gj_ifB_eq dX8_copy_4 (fun h4 => ?_) (fun h4 => ?_)
  · exact absurd (by omega) h4
  · refine gj_il3 dX8_copy_7 ?_
    refine gj_cS1r dX8_copy_8 mX8_120 hX8_isSheet (by omega) rfl (tX8_isSheet  (by omega) (by omega)) ?_
    refine gj_ifB_ne dX8_copy_11 (fun h11 => ?_) (fun h11 => ?_)
    · refine gj_al0 dX8_copy_17 ?_
      refine gj_get dX8_copy_18 fX8_66 q0 rfl rfl ?_
      refine gj_il1 dX8_copy_21 ?_
      refine gj_aald dX8_copy_22 q23 rfl rfl (by omega) s1 ?_
      refine gj_as6 dX8_copy_23 rfl rfl ?_
      refine gj_al0 dX8_copy_25 ?_
      refine gj_get dX8_copy_26 fX8_66 q0 rfl rfl ?_
      refine gj_il3 dX8_copy_29 ?_
      refine gj_aald dX8_copy_30 q23 rfl rfl (by omega) s1 ?_
      refine gj_as7 dX8_copy_31 rfl rfl ?_
      refine gj_al6 dX8_copy_33 ?_
      refine gj_get dX8_copy_35 fX8_123 q26 rfl rfl ?_
      refine gj_if_ne dX8_copy_38 (by omega) (fun h38 => ?_) (fun h38 => ?_)
      · have e1 : lo1 = 1 ∧ fm 1 = -1 := d1.resolve_right (fun z => absurd z.1 (by omega))
        refine gj_al0 dX8_copy_49 ?_
        refine gj_iconst dX8_copy_50 ?_
        refine gj_cV1w dX8_copy_51 mX8_127 hX8_found q0 rfl (by omega) rfl (tX8_found  (by omega) q0) (fun w51 P51 => ?_)
        obtain rfl := P51
        exact gj_iret dX8_copy_54 rfl (Or.inr (Or.inr (Or.inr (Or.inl ⟨⟨by omega, by omega⟩, Or.inl e1.2, rfl, ⟨⟨upw_s, ⟨_, _, _, _, _, _, ⟨(upw_o (by decide) q1), (upw_o (by decide) q2), (upw_o (by decide) q3), (upw_o (by decide) q4), (upw_o (by decide) q5), (upw_o (by decide) q6)⟩, hRd⟩, ⟨_, ⟨(upw_o (by decide) q9), (upw_o (by decide) q10), (upw_o (by decide) q11)⟩, ⟨(upw_o (by decide) q7), (upw_o (by decide) q8)⟩, hO⟩, ⟨_, _, _, (upw_o (by decide) q12), (upw_o (by decide) q13), (upw_o (by decide) q14)⟩, ⟨_, (upw_o (by decide) q15)⟩, hbm, ⟨_, _, _, B, _, _, (upw_o (by decide) q16), (upw_o (by decide) q17), (upw_o (by decide) q18)⟩, ⟨⟨(upw_o (by decide) q19), (upw_o (by decide) q20), (upw_o (by decide) q21), (upw_o (by decide) q22)⟩, hMm⟩, ⟨⟨_, (upw_o (by decide) q23), s0, s1, s2, s3⟩, ⟨_, _, _, _, (upw_o (by decide) q24), (upw_o (by decide) q25), r0, d0⟩, ⟨_, _, _, _, (upw_o (by decide) q26), (upw_o (by decide) q27), r1, d1⟩, ⟨_, _, _, _, (upw_o (by decide) q28), (upw_o (by decide) q29), r2, d2⟩, ⟨_, _, _, _, (upw_o (by decide) q30), (upw_o (by decide) q31), r3, d3⟩⟩⟩, (fun k hk => upw_o (by omega) ((fun (k : Nat) (_ : 32 ≤ k) => rfl) k hk))⟩⟩))))
      · obtain ⟨e1, y1, m1, n1, t1, v1⟩ : lo1 = 0 ∧ fm 1 = fo1 ∧ (0 ≤ fo1 ∧ fo1 ≤ 2) ∧ ln 1 = le1 ∧ (0 ≤ le1 ∧ le1 ≤ 60) ∧ ∀ j : Int, 0 ≤ j → j < le1 → g1 j = it 1 j ∧ R32 (g1 j) := d1.resolve_left (fun z => absurd z.1 (by omega))
        refine gj_al7 dX8_copy_41 ?_
        refine gj_get dX8_copy_43 fX8_123 q26 rfl rfl ?_
        refine gj_if_eq dX8_copy_46 (by omega) (fun h46 => ?_) (fun h46 => ?_)
        · refine gj_al6 dX8_copy_55 ?_
          refine gj_get dX8_copy_57 fX8_261 q26 rfl rfl ?_
          refine gj_al7 dX8_copy_60 ?_
          refine gj_get dX8_copy_62 fX8_261 q26 rfl rfl ?_
          refine gj_icmp_eq dX8_copy_65 (by omega) (fun h65 => ?_) (fun h65 => ?_)
          · refine gj_al6 dX8_copy_74 ?_
            refine gj_il2 dX8_copy_76 ?_
            refine gj_il5 dX8_copy_77 ?_
            refine gj_cV2r dX8_copy_79 mX8_264 hX7_holdsRun q26 rfl (by omega) rfl (tX7_holdsRun1  (by omega) ⟨q26, q27⟩ (by omega) (by omega) (by omega)) ?_
            refine gj_ifB_eq dX8_copy_82 (fun h82 => ?_) (fun h82 => ?_)
            · refine gj_al0 dX8_copy_97 ?_
              refine gj_iconst dX8_copy_98 ?_
              refine gj_cV1w dX8_copy_99 mX8_127 hX8_found q0 rfl (by omega) rfl (tX8_found  (by omega) q0) (fun w99 P99 => ?_)
              obtain rfl := P99
              exact gj_iret dX8_copy_102 rfl (Or.inr (Or.inl ⟨⟨by omega, by omega⟩, by omega, by omega, by omega, rfl, ⟨⟨upw_s, ⟨_, _, _, _, _, _, ⟨(upw_o (by decide) q1), (upw_o (by decide) q2), (upw_o (by decide) q3), (upw_o (by decide) q4), (upw_o (by decide) q5), (upw_o (by decide) q6)⟩, hRd⟩, ⟨_, ⟨(upw_o (by decide) q9), (upw_o (by decide) q10), (upw_o (by decide) q11)⟩, ⟨(upw_o (by decide) q7), (upw_o (by decide) q8)⟩, hO⟩, ⟨_, _, _, (upw_o (by decide) q12), (upw_o (by decide) q13), (upw_o (by decide) q14)⟩, ⟨_, (upw_o (by decide) q15)⟩, hbm, ⟨_, _, _, B, _, _, (upw_o (by decide) q16), (upw_o (by decide) q17), (upw_o (by decide) q18)⟩, ⟨⟨(upw_o (by decide) q19), (upw_o (by decide) q20), (upw_o (by decide) q21), (upw_o (by decide) q22)⟩, hMm⟩, ⟨⟨_, (upw_o (by decide) q23), s0, s1, s2, s3⟩, ⟨_, _, _, _, (upw_o (by decide) q24), (upw_o (by decide) q25), r0, d0⟩, ⟨_, _, _, _, (upw_o (by decide) q26), (upw_o (by decide) q27), r1, d1⟩, ⟨_, _, _, _, (upw_o (by decide) q28), (upw_o (by decide) q29), r2, d2⟩, ⟨_, _, _, _, (upw_o (by decide) q30), (upw_o (by decide) q31), r3, d3⟩⟩⟩, (fun k hk => upw_o (by omega) ((fun (k : Nat) (_ : 32 ≤ k) => rfl) k hk))⟩⟩))
            · refine gj_al7 dX8_copy_85 ?_
              refine gj_il4 dX8_copy_87 ?_
              refine gj_il5 dX8_copy_89 ?_
              refine gj_cV2r dX8_copy_91 mX8_264 hX7_holdsRun q26 rfl (by omega) rfl (tX7_holdsRun1  (by omega) ⟨q26, q27⟩ (by omega) (by omega) (by omega)) ?_
              refine gj_ifB_ne dX8_copy_94 (fun h94 => ?_) (fun h94 => ?_)
              · refine gj_al6 dX8_copy_103 ?_
                refine gj_get dX8_copy_105 fX8_138 q26 rfl rfl ?_
                refine gj_il2 dX8_copy_108 ?_
                refine gj_al7 dX8_copy_109 ?_
                refine gj_get dX8_copy_111 fX8_138 q26 rfl rfl ?_
                refine gj_il4 dX8_copy_114 ?_
                refine gj_il5 dX8_copy_116 ?_
                refine gj_acopy dX8_copy_118 mX8_267 (by omega) rfl q27 rfl q27 rfl ⟨rfl, rfl⟩ (by omega) ?_
                refine gj_iconst dX8_copy_121 ?_
                exact gj_iret dX8_copy_122 rfl (Or.inl ⟨⟨by omega, by omega⟩, by omega, by omega, by omega, rfl, ⟨⟨(upw_o (by decide) q0), ⟨_, _, _, _, _, _, ⟨(upw_o (by decide) q1), (upw_o (by decide) q2), (upw_o (by decide) q3), (upw_o (by decide) q4), (upw_o (by decide) q5), (upw_o (by decide) q6)⟩, hRd⟩, ⟨_, ⟨(upw_o (by decide) q9), (upw_o (by decide) q10), (upw_o (by decide) q11)⟩, ⟨(upw_o (by decide) q7), (upw_o (by decide) q8)⟩, hO⟩, ⟨_, _, _, (upw_o (by decide) q12), (upw_o (by decide) q13), (upw_o (by decide) q14)⟩, ⟨_, (upw_o (by decide) q15)⟩, hbm, ⟨_, _, _, B, _, _, (upw_o (by decide) q16), (upw_o (by decide) q17), (upw_o (by decide) q18)⟩, ⟨⟨(upw_o (by decide) q19), (upw_o (by decide) q20), (upw_o (by decide) q21), (upw_o (by decide) q22)⟩, hMm⟩, ⟨⟨_, (upw_o (by decide) q23), s0, s1, s2, s3⟩, ⟨_, _, _, _, (upw_o (by decide) q24), (upw_o (by decide) q25), r0, d0⟩, ⟨_, _, _, _, (upw_o (by decide) q26), upw_s, r1, Or.inr ⟨e1, y1, m1, n1, t1, fun q g8 g9 => by
                            show cpf g1 g1 i j cn q = cpf (it 1) (it 1) i j cn q ∧ R32 (cpf g1 g1 i j cn q)
                            unfold cpf
                            by_cases z : j ≤ q ∧ q < j + cn
                            · rw [if_pos z, if_pos z]; exact v1 _ (by omega) (by omega)
                            · rw [if_neg z, if_neg z]; exact v1 q g8 g9⟩⟩, ⟨_, _, _, _, (upw_o (by decide) q28), (upw_o (by decide) q29), r2, d2⟩, ⟨_, _, _, _, (upw_o (by decide) q30), (upw_o (by decide) q31), r3, d3⟩⟩⟩, (fun k hk => upw_o (by omega) ((fun (k : Nat) (_ : 32 ≤ k) => rfl) k hk))⟩⟩)
              · refine gj_al0 dX8_copy_97 ?_
                refine gj_iconst dX8_copy_98 ?_
                refine gj_cV1w dX8_copy_99 mX8_127 hX8_found q0 rfl (by omega) rfl (tX8_found  (by omega) q0) (fun w99 P99 => ?_)
                obtain rfl := P99
                exact gj_iret dX8_copy_102 rfl (Or.inr (Or.inl ⟨⟨by omega, by omega⟩, by omega, by omega, by omega, rfl, ⟨⟨upw_s, ⟨_, _, _, _, _, _, ⟨(upw_o (by decide) q1), (upw_o (by decide) q2), (upw_o (by decide) q3), (upw_o (by decide) q4), (upw_o (by decide) q5), (upw_o (by decide) q6)⟩, hRd⟩, ⟨_, ⟨(upw_o (by decide) q9), (upw_o (by decide) q10), (upw_o (by decide) q11)⟩, ⟨(upw_o (by decide) q7), (upw_o (by decide) q8)⟩, hO⟩, ⟨_, _, _, (upw_o (by decide) q12), (upw_o (by decide) q13), (upw_o (by decide) q14)⟩, ⟨_, (upw_o (by decide) q15)⟩, hbm, ⟨_, _, _, B, _, _, (upw_o (by decide) q16), (upw_o (by decide) q17), (upw_o (by decide) q18)⟩, ⟨⟨(upw_o (by decide) q19), (upw_o (by decide) q20), (upw_o (by decide) q21), (upw_o (by decide) q22)⟩, hMm⟩, ⟨⟨_, (upw_o (by decide) q23), s0, s1, s2, s3⟩, ⟨_, _, _, _, (upw_o (by decide) q24), (upw_o (by decide) q25), r0, d0⟩, ⟨_, _, _, _, (upw_o (by decide) q26), (upw_o (by decide) q27), r1, d1⟩, ⟨_, _, _, _, (upw_o (by decide) q28), (upw_o (by decide) q29), r2, d2⟩, ⟨_, _, _, _, (upw_o (by decide) q30), (upw_o (by decide) q31), r3, d3⟩⟩⟩, (fun k hk => upw_o (by omega) ((fun (k : Nat) (_ : 32 ≤ k) => rfl) k hk))⟩⟩))
          · refine gj_al0 dX8_copy_68 ?_
            refine gj_iconst dX8_copy_69 ?_
            refine gj_cV1w dX8_copy_70 mX8_127 hX8_found q0 rfl (by omega) rfl (tX8_found  (by omega) q0) (fun w70 P70 => ?_)
            obtain rfl := P70
            exact gj_iret dX8_copy_73 rfl (Or.inr (Or.inr (Or.inl ⟨⟨by omega, by omega⟩, by omega, by omega, rfl, ⟨⟨upw_s, ⟨_, _, _, _, _, _, ⟨(upw_o (by decide) q1), (upw_o (by decide) q2), (upw_o (by decide) q3), (upw_o (by decide) q4), (upw_o (by decide) q5), (upw_o (by decide) q6)⟩, hRd⟩, ⟨_, ⟨(upw_o (by decide) q9), (upw_o (by decide) q10), (upw_o (by decide) q11)⟩, ⟨(upw_o (by decide) q7), (upw_o (by decide) q8)⟩, hO⟩, ⟨_, _, _, (upw_o (by decide) q12), (upw_o (by decide) q13), (upw_o (by decide) q14)⟩, ⟨_, (upw_o (by decide) q15)⟩, hbm, ⟨_, _, _, B, _, _, (upw_o (by decide) q16), (upw_o (by decide) q17), (upw_o (by decide) q18)⟩, ⟨⟨(upw_o (by decide) q19), (upw_o (by decide) q20), (upw_o (by decide) q21), (upw_o (by decide) q22)⟩, hMm⟩, ⟨⟨_, (upw_o (by decide) q23), s0, s1, s2, s3⟩, ⟨_, _, _, _, (upw_o (by decide) q24), (upw_o (by decide) q25), r0, d0⟩, ⟨_, _, _, _, (upw_o (by decide) q26), (upw_o (by decide) q27), r1, d1⟩, ⟨_, _, _, _, (upw_o (by decide) q28), (upw_o (by decide) q29), r2, d2⟩, ⟨_, _, _, _, (upw_o (by decide) q30), (upw_o (by decide) q31), r3, d3⟩⟩⟩, (fun k hk => upw_o (by omega) ((fun (k : Nat) (_ : 32 ≤ k) => rfl) k hk))⟩⟩)))
        · refine gj_al0 dX8_copy_49 ?_
          refine gj_iconst dX8_copy_50 ?_
          refine gj_cV1w dX8_copy_51 mX8_127 hX8_found q0 rfl (by omega) rfl (tX8_found  (by omega) q0) (fun w51 P51 => ?_)
          obtain rfl := P51
          exact gj_iret dX8_copy_54 rfl (absurd e1 h46)
    · exact absurd (by omega) h11
set_option maxRecDepth 20000 in
set_option maxHeartbeats 4000000 in
theorem tCopy12 {l : Launch} {x : Cx} {d : Nat} {w : AW} {tx : Int → Int} {by0 : Int} {ru fa fe : Int → Int} {fc lw br me : Int} {mh ml mw : Int → Int} {mn fi : Int} {fm ln : Int → Int} {it : Int → Int → Int} {i j cn : Int} (hd : 2 ≤ d) (hC : ClassC w tx by0 ru fa fe fc lw br me mh ml mw mn fi fm ln it) (hi : R32 i) (hj : R32 j) (hcn : R32 cn) : Mt l x iX8_copy d 0 0 50 w [vR 0, vI 1, vI i, vI 2, vI j, vI cn] (fun v2 w2 => (((0 ≤ (1 : Int) ∧ (1 : Int) ≤ 3) ∧ (0 ≤ (2 : Int) ∧ (2 : Int) ≤ 3)) ∧ ¬ (fm (1 : Int) = -1 ∨ fm (2 : Int) = -1) ∧ fm (1 : Int) = fm (2 : Int) ∧ (0 ≤ i ∧ 0 ≤ cn ∧ i ≤ ln (1 : Int) ∧ cn ≤ ln (1 : Int) - i ∧ 0 ≤ j ∧ j ≤ ln (2 : Int) ∧ cn ≤ ln (2 : Int) - j) ∧ v2 = some (vI 1) ∧ ClassC w2 tx by0 ru fa fe fc lw br me mh ml mw mn fi fm ln (upi it (2 : Int) (cpf (it (1 : Int)) (it (2 : Int)) i j cn)) ∧ ∀ k : Nat, 32 ≤ k → w2 k = w k) ∨ (((0 ≤ (1 : Int) ∧ (1 : Int) ≤ 3) ∧ (0 ≤ (2 : Int) ∧ (2 : Int) ≤ 3)) ∧ ¬ (fm (1 : Int) = -1 ∨ fm (2 : Int) = -1) ∧ fm (1 : Int) = fm (2 : Int) ∧ ¬ (0 ≤ i ∧ 0 ≤ cn ∧ i ≤ ln (1 : Int) ∧ cn ≤ ln (1 : Int) - i ∧ 0 ≤ j ∧ j ≤ ln (2 : Int) ∧ cn ≤ ln (2 : Int) - j) ∧ v2 = some (vI (-12)) ∧ ClassC w2 tx by0 ru fa fe fc lw br me mh ml mw mn 2 fm ln it ∧ ∀ k : Nat, 32 ≤ k → w2 k = w k) ∨ (((0 ≤ (1 : Int) ∧ (1 : Int) ≤ 3) ∧ (0 ≤ (2 : Int) ∧ (2 : Int) ≤ 3)) ∧ ¬ (fm (1 : Int) = -1 ∨ fm (2 : Int) = -1) ∧ fm (1 : Int) ≠ fm (2 : Int) ∧ v2 = some (vI (-14)) ∧ ClassC w2 tx by0 ru fa fe fc lw br me mh ml mw mn 4 fm ln it ∧ ∀ k : Nat, 32 ≤ k → w2 k = w k) ∨ (((0 ≤ (1 : Int) ∧ (1 : Int) ≤ 3) ∧ (0 ≤ (2 : Int) ∧ (2 : Int) ≤ 3)) ∧ (fm (1 : Int) = -1 ∨ fm (2 : Int) = -1) ∧ v2 = some (vI (-11)) ∧ ClassC w2 tx by0 ru fa fe fc lw br me mh ml mw mn 1 fm ln it ∧ ∀ k : Nat, 32 ≤ k → w2 k = w k) ∨ (¬ ((0 ≤ (1 : Int) ∧ (1 : Int) ≤ 3) ∧ (0 ≤ (2 : Int) ∧ (2 : Int) ≤ 3)) ∧ v2 = some (vI (-2)) ∧ w2 = w)) := by
  have hC0 := hC
  obtain ⟨q0, ⟨on, ot, ho, wy, nu, fl, ⟨q1, q2, q3, q4, q5, q6⟩, hRd⟩, ⟨fd, ⟨q9, q10, q11⟩, ⟨q7, q8⟩, hO⟩, ⟨la, be, ne, q12, q13, q14⟩, ⟨sl, q15⟩, hbm, ⟨go, st, bn, B, ra, rb, q16, q17, q18⟩, ⟨⟨q19, q20, q21, q22⟩, hMm⟩, hSh⟩ := hC
  have hW : WarC w fa (warB lw fa ru fe fc) := ⟨fe, ru, fc, fd, lw, ⟨q9, q10, q11⟩, ⟨q7, q8⟩, hO, rfl⟩
  have hE := hRd.ed
  have hM := hRd.mat
  obtain ⟨⟨sf, q23, s0, s1, s2, s3⟩, ⟨fo0, le0, lo0, g0, q24, q25, r0, d0⟩, ⟨fo1, le1, lo1, g1, q26, q27, r1, d1⟩, ⟨fo2, le2, lo2, g2, q28, q29, r2, d2⟩, ⟨fo3, le3, lo3, g3, q30, q31, r3, d3⟩⟩ := hSh
  refine Mt.of (L0 := [some (vR 0), some (vI 1), some (vI i), some (vI 2), some (vI j), some (vI cn), none, none]) rfl rfl rfl ?_
  refine gj_il1 dX8_copy_0 ?_
  refine gj_cS1r dX8_copy_1 mX8_120 hX8_isSheet (by omega) rfl (tX8_isSheet  (by omega) (by omega)) ?_
  refine gj_ifB_eq dX8_copy_4 (fun h4 => ?_) (fun h4 => ?_)
  · exact absurd (by omega) h4
  · refine gj_il3 dX8_copy_7 ?_
    refine gj_cS1r dX8_copy_8 mX8_120 hX8_isSheet (by omega) rfl (tX8_isSheet  (by omega) (by omega)) ?_
    refine gj_ifB_ne dX8_copy_11 (fun h11 => ?_) (fun h11 => ?_)
    · refine gj_al0 dX8_copy_17 ?_
      refine gj_get dX8_copy_18 fX8_66 q0 rfl rfl ?_
      refine gj_il1 dX8_copy_21 ?_
      refine gj_aald dX8_copy_22 q23 rfl rfl (by omega) s1 ?_
      refine gj_as6 dX8_copy_23 rfl rfl ?_
      refine gj_al0 dX8_copy_25 ?_
      refine gj_get dX8_copy_26 fX8_66 q0 rfl rfl ?_
      refine gj_il3 dX8_copy_29 ?_
      refine gj_aald dX8_copy_30 q23 rfl rfl (by omega) s2 ?_
      refine gj_as7 dX8_copy_31 rfl rfl ?_
      refine gj_al6 dX8_copy_33 ?_
      refine gj_get dX8_copy_35 fX8_123 q26 rfl rfl ?_
      refine gj_if_ne dX8_copy_38 (by omega) (fun h38 => ?_) (fun h38 => ?_)
      · have e1 : lo1 = 1 ∧ fm 1 = -1 := d1.resolve_right (fun z => absurd z.1 (by omega))
        refine gj_al0 dX8_copy_49 ?_
        refine gj_iconst dX8_copy_50 ?_
        refine gj_cV1w dX8_copy_51 mX8_127 hX8_found q0 rfl (by omega) rfl (tX8_found  (by omega) q0) (fun w51 P51 => ?_)
        obtain rfl := P51
        exact gj_iret dX8_copy_54 rfl (Or.inr (Or.inr (Or.inr (Or.inl ⟨⟨by omega, by omega⟩, Or.inl e1.2, rfl, ⟨⟨upw_s, ⟨_, _, _, _, _, _, ⟨(upw_o (by decide) q1), (upw_o (by decide) q2), (upw_o (by decide) q3), (upw_o (by decide) q4), (upw_o (by decide) q5), (upw_o (by decide) q6)⟩, hRd⟩, ⟨_, ⟨(upw_o (by decide) q9), (upw_o (by decide) q10), (upw_o (by decide) q11)⟩, ⟨(upw_o (by decide) q7), (upw_o (by decide) q8)⟩, hO⟩, ⟨_, _, _, (upw_o (by decide) q12), (upw_o (by decide) q13), (upw_o (by decide) q14)⟩, ⟨_, (upw_o (by decide) q15)⟩, hbm, ⟨_, _, _, B, _, _, (upw_o (by decide) q16), (upw_o (by decide) q17), (upw_o (by decide) q18)⟩, ⟨⟨(upw_o (by decide) q19), (upw_o (by decide) q20), (upw_o (by decide) q21), (upw_o (by decide) q22)⟩, hMm⟩, ⟨⟨_, (upw_o (by decide) q23), s0, s1, s2, s3⟩, ⟨_, _, _, _, (upw_o (by decide) q24), (upw_o (by decide) q25), r0, d0⟩, ⟨_, _, _, _, (upw_o (by decide) q26), (upw_o (by decide) q27), r1, d1⟩, ⟨_, _, _, _, (upw_o (by decide) q28), (upw_o (by decide) q29), r2, d2⟩, ⟨_, _, _, _, (upw_o (by decide) q30), (upw_o (by decide) q31), r3, d3⟩⟩⟩, (fun k hk => upw_o (by omega) ((fun (k : Nat) (_ : 32 ≤ k) => rfl) k hk))⟩⟩))))
      · obtain ⟨e1, y1, m1, n1, t1, v1⟩ : lo1 = 0 ∧ fm 1 = fo1 ∧ (0 ≤ fo1 ∧ fo1 ≤ 2) ∧ ln 1 = le1 ∧ (0 ≤ le1 ∧ le1 ≤ 60) ∧ ∀ j : Int, 0 ≤ j → j < le1 → g1 j = it 1 j ∧ R32 (g1 j) := d1.resolve_left (fun z => absurd z.1 (by omega))
        refine gj_al7 dX8_copy_41 ?_
        refine gj_get dX8_copy_43 fX8_123 q28 rfl rfl ?_
        refine gj_if_eq dX8_copy_46 (by omega) (fun h46 => ?_) (fun h46 => ?_)
        · obtain ⟨e2, y2, m2, n2, t2, v2⟩ : lo2 = 0 ∧ fm 2 = fo2 ∧ (0 ≤ fo2 ∧ fo2 ≤ 2) ∧ ln 2 = le2 ∧ (0 ≤ le2 ∧ le2 ≤ 60) ∧ ∀ j : Int, 0 ≤ j → j < le2 → g2 j = it 2 j ∧ R32 (g2 j) := d2.resolve_left (fun z => absurd z.1 (by omega))
          refine gj_al6 dX8_copy_55 ?_
          refine gj_get dX8_copy_57 fX8_261 q26 rfl rfl ?_
          refine gj_al7 dX8_copy_60 ?_
          refine gj_get dX8_copy_62 fX8_261 q28 rfl rfl ?_
          refine gj_icmp_eq dX8_copy_65 (by omega) (fun h65 => ?_) (fun h65 => ?_)
          · refine gj_al6 dX8_copy_74 ?_
            refine gj_il2 dX8_copy_76 ?_
            refine gj_il5 dX8_copy_77 ?_
            refine gj_cV2r dX8_copy_79 mX8_264 hX7_holdsRun q26 rfl (by omega) rfl (tX7_holdsRun1  (by omega) ⟨q26, q27⟩ (by omega) (by omega) (by omega)) ?_
            refine gj_ifB_eq dX8_copy_82 (fun h82 => ?_) (fun h82 => ?_)
            · refine gj_al0 dX8_copy_97 ?_
              refine gj_iconst dX8_copy_98 ?_
              refine gj_cV1w dX8_copy_99 mX8_127 hX8_found q0 rfl (by omega) rfl (tX8_found  (by omega) q0) (fun w99 P99 => ?_)
              obtain rfl := P99
              exact gj_iret dX8_copy_102 rfl (Or.inr (Or.inl ⟨⟨by omega, by omega⟩, by omega, by omega, by omega, rfl, ⟨⟨upw_s, ⟨_, _, _, _, _, _, ⟨(upw_o (by decide) q1), (upw_o (by decide) q2), (upw_o (by decide) q3), (upw_o (by decide) q4), (upw_o (by decide) q5), (upw_o (by decide) q6)⟩, hRd⟩, ⟨_, ⟨(upw_o (by decide) q9), (upw_o (by decide) q10), (upw_o (by decide) q11)⟩, ⟨(upw_o (by decide) q7), (upw_o (by decide) q8)⟩, hO⟩, ⟨_, _, _, (upw_o (by decide) q12), (upw_o (by decide) q13), (upw_o (by decide) q14)⟩, ⟨_, (upw_o (by decide) q15)⟩, hbm, ⟨_, _, _, B, _, _, (upw_o (by decide) q16), (upw_o (by decide) q17), (upw_o (by decide) q18)⟩, ⟨⟨(upw_o (by decide) q19), (upw_o (by decide) q20), (upw_o (by decide) q21), (upw_o (by decide) q22)⟩, hMm⟩, ⟨⟨_, (upw_o (by decide) q23), s0, s1, s2, s3⟩, ⟨_, _, _, _, (upw_o (by decide) q24), (upw_o (by decide) q25), r0, d0⟩, ⟨_, _, _, _, (upw_o (by decide) q26), (upw_o (by decide) q27), r1, d1⟩, ⟨_, _, _, _, (upw_o (by decide) q28), (upw_o (by decide) q29), r2, d2⟩, ⟨_, _, _, _, (upw_o (by decide) q30), (upw_o (by decide) q31), r3, d3⟩⟩⟩, (fun k hk => upw_o (by omega) ((fun (k : Nat) (_ : 32 ≤ k) => rfl) k hk))⟩⟩))
            · refine gj_al7 dX8_copy_85 ?_
              refine gj_il4 dX8_copy_87 ?_
              refine gj_il5 dX8_copy_89 ?_
              refine gj_cV2r dX8_copy_91 mX8_264 hX7_holdsRun q28 rfl (by omega) rfl (tX7_holdsRun2  (by omega) ⟨q28, q29⟩ (by omega) (by omega) (by omega)) ?_
              refine gj_ifB_ne dX8_copy_94 (fun h94 => ?_) (fun h94 => ?_)
              · refine gj_al6 dX8_copy_103 ?_
                refine gj_get dX8_copy_105 fX8_138 q26 rfl rfl ?_
                refine gj_il2 dX8_copy_108 ?_
                refine gj_al7 dX8_copy_109 ?_
                refine gj_get dX8_copy_111 fX8_138 q28 rfl rfl ?_
                refine gj_il4 dX8_copy_114 ?_
                refine gj_il5 dX8_copy_116 ?_
                refine gj_acopy dX8_copy_118 mX8_267 (by omega) rfl q27 rfl q29 rfl ⟨rfl, rfl⟩ (by omega) ?_
                refine gj_iconst dX8_copy_121 ?_
                exact gj_iret dX8_copy_122 rfl (Or.inl ⟨⟨by omega, by omega⟩, by omega, by omega, by omega, rfl, ⟨⟨(upw_o (by decide) q0), ⟨_, _, _, _, _, _, ⟨(upw_o (by decide) q1), (upw_o (by decide) q2), (upw_o (by decide) q3), (upw_o (by decide) q4), (upw_o (by decide) q5), (upw_o (by decide) q6)⟩, hRd⟩, ⟨_, ⟨(upw_o (by decide) q9), (upw_o (by decide) q10), (upw_o (by decide) q11)⟩, ⟨(upw_o (by decide) q7), (upw_o (by decide) q8)⟩, hO⟩, ⟨_, _, _, (upw_o (by decide) q12), (upw_o (by decide) q13), (upw_o (by decide) q14)⟩, ⟨_, (upw_o (by decide) q15)⟩, hbm, ⟨_, _, _, B, _, _, (upw_o (by decide) q16), (upw_o (by decide) q17), (upw_o (by decide) q18)⟩, ⟨⟨(upw_o (by decide) q19), (upw_o (by decide) q20), (upw_o (by decide) q21), (upw_o (by decide) q22)⟩, hMm⟩, ⟨⟨_, (upw_o (by decide) q23), s0, s1, s2, s3⟩, ⟨_, _, _, _, (upw_o (by decide) q24), (upw_o (by decide) q25), r0, d0⟩, ⟨_, _, _, _, (upw_o (by decide) q26), (upw_o (by decide) q27), r1, d1⟩, ⟨_, _, _, _, (upw_o (by decide) q28), upw_s, r2, Or.inr ⟨e2, y2, m2, n2, t2, fun q g8 g9 => by
                            show cpf g1 g2 i j cn q = cpf (it 1) (it 2) i j cn q ∧ R32 (cpf g1 g2 i j cn q)
                            unfold cpf
                            by_cases z : j ≤ q ∧ q < j + cn
                            · rw [if_pos z, if_pos z]; exact v1 _ (by omega) (by omega)
                            · rw [if_neg z, if_neg z]; exact v2 q g8 g9⟩⟩, ⟨_, _, _, _, (upw_o (by decide) q30), (upw_o (by decide) q31), r3, d3⟩⟩⟩, (fun k hk => upw_o (by omega) ((fun (k : Nat) (_ : 32 ≤ k) => rfl) k hk))⟩⟩)
              · refine gj_al0 dX8_copy_97 ?_
                refine gj_iconst dX8_copy_98 ?_
                refine gj_cV1w dX8_copy_99 mX8_127 hX8_found q0 rfl (by omega) rfl (tX8_found  (by omega) q0) (fun w99 P99 => ?_)
                obtain rfl := P99
                exact gj_iret dX8_copy_102 rfl (Or.inr (Or.inl ⟨⟨by omega, by omega⟩, by omega, by omega, by omega, rfl, ⟨⟨upw_s, ⟨_, _, _, _, _, _, ⟨(upw_o (by decide) q1), (upw_o (by decide) q2), (upw_o (by decide) q3), (upw_o (by decide) q4), (upw_o (by decide) q5), (upw_o (by decide) q6)⟩, hRd⟩, ⟨_, ⟨(upw_o (by decide) q9), (upw_o (by decide) q10), (upw_o (by decide) q11)⟩, ⟨(upw_o (by decide) q7), (upw_o (by decide) q8)⟩, hO⟩, ⟨_, _, _, (upw_o (by decide) q12), (upw_o (by decide) q13), (upw_o (by decide) q14)⟩, ⟨_, (upw_o (by decide) q15)⟩, hbm, ⟨_, _, _, B, _, _, (upw_o (by decide) q16), (upw_o (by decide) q17), (upw_o (by decide) q18)⟩, ⟨⟨(upw_o (by decide) q19), (upw_o (by decide) q20), (upw_o (by decide) q21), (upw_o (by decide) q22)⟩, hMm⟩, ⟨⟨_, (upw_o (by decide) q23), s0, s1, s2, s3⟩, ⟨_, _, _, _, (upw_o (by decide) q24), (upw_o (by decide) q25), r0, d0⟩, ⟨_, _, _, _, (upw_o (by decide) q26), (upw_o (by decide) q27), r1, d1⟩, ⟨_, _, _, _, (upw_o (by decide) q28), (upw_o (by decide) q29), r2, d2⟩, ⟨_, _, _, _, (upw_o (by decide) q30), (upw_o (by decide) q31), r3, d3⟩⟩⟩, (fun k hk => upw_o (by omega) ((fun (k : Nat) (_ : 32 ≤ k) => rfl) k hk))⟩⟩))
          · refine gj_al0 dX8_copy_68 ?_
            refine gj_iconst dX8_copy_69 ?_
            refine gj_cV1w dX8_copy_70 mX8_127 hX8_found q0 rfl (by omega) rfl (tX8_found  (by omega) q0) (fun w70 P70 => ?_)
            obtain rfl := P70
            exact gj_iret dX8_copy_73 rfl (Or.inr (Or.inr (Or.inl ⟨⟨by omega, by omega⟩, by omega, by omega, rfl, ⟨⟨upw_s, ⟨_, _, _, _, _, _, ⟨(upw_o (by decide) q1), (upw_o (by decide) q2), (upw_o (by decide) q3), (upw_o (by decide) q4), (upw_o (by decide) q5), (upw_o (by decide) q6)⟩, hRd⟩, ⟨_, ⟨(upw_o (by decide) q9), (upw_o (by decide) q10), (upw_o (by decide) q11)⟩, ⟨(upw_o (by decide) q7), (upw_o (by decide) q8)⟩, hO⟩, ⟨_, _, _, (upw_o (by decide) q12), (upw_o (by decide) q13), (upw_o (by decide) q14)⟩, ⟨_, (upw_o (by decide) q15)⟩, hbm, ⟨_, _, _, B, _, _, (upw_o (by decide) q16), (upw_o (by decide) q17), (upw_o (by decide) q18)⟩, ⟨⟨(upw_o (by decide) q19), (upw_o (by decide) q20), (upw_o (by decide) q21), (upw_o (by decide) q22)⟩, hMm⟩, ⟨⟨_, (upw_o (by decide) q23), s0, s1, s2, s3⟩, ⟨_, _, _, _, (upw_o (by decide) q24), (upw_o (by decide) q25), r0, d0⟩, ⟨_, _, _, _, (upw_o (by decide) q26), (upw_o (by decide) q27), r1, d1⟩, ⟨_, _, _, _, (upw_o (by decide) q28), (upw_o (by decide) q29), r2, d2⟩, ⟨_, _, _, _, (upw_o (by decide) q30), (upw_o (by decide) q31), r3, d3⟩⟩⟩, (fun k hk => upw_o (by omega) ((fun (k : Nat) (_ : 32 ≤ k) => rfl) k hk))⟩⟩)))
        · have et : lo2 = 1 ∧ fm 2 = -1 := d2.resolve_right (fun z => absurd z.1 (by omega))
          refine gj_al0 dX8_copy_49 ?_
          refine gj_iconst dX8_copy_50 ?_
          refine gj_cV1w dX8_copy_51 mX8_127 hX8_found q0 rfl (by omega) rfl (tX8_found  (by omega) q0) (fun w51 P51 => ?_)
          obtain rfl := P51
          exact gj_iret dX8_copy_54 rfl (Or.inr (Or.inr (Or.inr (Or.inl ⟨⟨by omega, by omega⟩, Or.inr et.2, rfl, ⟨⟨upw_s, ⟨_, _, _, _, _, _, ⟨(upw_o (by decide) q1), (upw_o (by decide) q2), (upw_o (by decide) q3), (upw_o (by decide) q4), (upw_o (by decide) q5), (upw_o (by decide) q6)⟩, hRd⟩, ⟨_, ⟨(upw_o (by decide) q9), (upw_o (by decide) q10), (upw_o (by decide) q11)⟩, ⟨(upw_o (by decide) q7), (upw_o (by decide) q8)⟩, hO⟩, ⟨_, _, _, (upw_o (by decide) q12), (upw_o (by decide) q13), (upw_o (by decide) q14)⟩, ⟨_, (upw_o (by decide) q15)⟩, hbm, ⟨_, _, _, B, _, _, (upw_o (by decide) q16), (upw_o (by decide) q17), (upw_o (by decide) q18)⟩, ⟨⟨(upw_o (by decide) q19), (upw_o (by decide) q20), (upw_o (by decide) q21), (upw_o (by decide) q22)⟩, hMm⟩, ⟨⟨_, (upw_o (by decide) q23), s0, s1, s2, s3⟩, ⟨_, _, _, _, (upw_o (by decide) q24), (upw_o (by decide) q25), r0, d0⟩, ⟨_, _, _, _, (upw_o (by decide) q26), (upw_o (by decide) q27), r1, d1⟩, ⟨_, _, _, _, (upw_o (by decide) q28), (upw_o (by decide) q29), r2, d2⟩, ⟨_, _, _, _, (upw_o (by decide) q30), (upw_o (by decide) q31), r3, d3⟩⟩⟩, (fun k hk => upw_o (by omega) ((fun (k : Nat) (_ : 32 ≤ k) => rfl) k hk))⟩⟩))))
    · exact absurd (by omega) h11
set_option maxRecDepth 20000 in
set_option maxHeartbeats 4000000 in
theorem tCopy13 {l : Launch} {x : Cx} {d : Nat} {w : AW} {tx : Int → Int} {by0 : Int} {ru fa fe : Int → Int} {fc lw br me : Int} {mh ml mw : Int → Int} {mn fi : Int} {fm ln : Int → Int} {it : Int → Int → Int} {i j cn : Int} (hd : 2 ≤ d) (hC : ClassC w tx by0 ru fa fe fc lw br me mh ml mw mn fi fm ln it) (hi : R32 i) (hj : R32 j) (hcn : R32 cn) : Mt l x iX8_copy d 0 0 50 w [vR 0, vI 1, vI i, vI 3, vI j, vI cn] (fun v2 w2 => (((0 ≤ (1 : Int) ∧ (1 : Int) ≤ 3) ∧ (0 ≤ (3 : Int) ∧ (3 : Int) ≤ 3)) ∧ ¬ (fm (1 : Int) = -1 ∨ fm (3 : Int) = -1) ∧ fm (1 : Int) = fm (3 : Int) ∧ (0 ≤ i ∧ 0 ≤ cn ∧ i ≤ ln (1 : Int) ∧ cn ≤ ln (1 : Int) - i ∧ 0 ≤ j ∧ j ≤ ln (3 : Int) ∧ cn ≤ ln (3 : Int) - j) ∧ v2 = some (vI 1) ∧ ClassC w2 tx by0 ru fa fe fc lw br me mh ml mw mn fi fm ln (upi it (3 : Int) (cpf (it (1 : Int)) (it (3 : Int)) i j cn)) ∧ ∀ k : Nat, 32 ≤ k → w2 k = w k) ∨ (((0 ≤ (1 : Int) ∧ (1 : Int) ≤ 3) ∧ (0 ≤ (3 : Int) ∧ (3 : Int) ≤ 3)) ∧ ¬ (fm (1 : Int) = -1 ∨ fm (3 : Int) = -1) ∧ fm (1 : Int) = fm (3 : Int) ∧ ¬ (0 ≤ i ∧ 0 ≤ cn ∧ i ≤ ln (1 : Int) ∧ cn ≤ ln (1 : Int) - i ∧ 0 ≤ j ∧ j ≤ ln (3 : Int) ∧ cn ≤ ln (3 : Int) - j) ∧ v2 = some (vI (-12)) ∧ ClassC w2 tx by0 ru fa fe fc lw br me mh ml mw mn 2 fm ln it ∧ ∀ k : Nat, 32 ≤ k → w2 k = w k) ∨ (((0 ≤ (1 : Int) ∧ (1 : Int) ≤ 3) ∧ (0 ≤ (3 : Int) ∧ (3 : Int) ≤ 3)) ∧ ¬ (fm (1 : Int) = -1 ∨ fm (3 : Int) = -1) ∧ fm (1 : Int) ≠ fm (3 : Int) ∧ v2 = some (vI (-14)) ∧ ClassC w2 tx by0 ru fa fe fc lw br me mh ml mw mn 4 fm ln it ∧ ∀ k : Nat, 32 ≤ k → w2 k = w k) ∨ (((0 ≤ (1 : Int) ∧ (1 : Int) ≤ 3) ∧ (0 ≤ (3 : Int) ∧ (3 : Int) ≤ 3)) ∧ (fm (1 : Int) = -1 ∨ fm (3 : Int) = -1) ∧ v2 = some (vI (-11)) ∧ ClassC w2 tx by0 ru fa fe fc lw br me mh ml mw mn 1 fm ln it ∧ ∀ k : Nat, 32 ≤ k → w2 k = w k) ∨ (¬ ((0 ≤ (1 : Int) ∧ (1 : Int) ≤ 3) ∧ (0 ≤ (3 : Int) ∧ (3 : Int) ≤ 3)) ∧ v2 = some (vI (-2)) ∧ w2 = w)) := by
  have hC0 := hC
  obtain ⟨q0, ⟨on, ot, ho, wy, nu, fl, ⟨q1, q2, q3, q4, q5, q6⟩, hRd⟩, ⟨fd, ⟨q9, q10, q11⟩, ⟨q7, q8⟩, hO⟩, ⟨la, be, ne, q12, q13, q14⟩, ⟨sl, q15⟩, hbm, ⟨go, st, bn, B, ra, rb, q16, q17, q18⟩, ⟨⟨q19, q20, q21, q22⟩, hMm⟩, hSh⟩ := hC
  have hW : WarC w fa (warB lw fa ru fe fc) := ⟨fe, ru, fc, fd, lw, ⟨q9, q10, q11⟩, ⟨q7, q8⟩, hO, rfl⟩
  have hE := hRd.ed
  have hM := hRd.mat
  obtain ⟨⟨sf, q23, s0, s1, s2, s3⟩, ⟨fo0, le0, lo0, g0, q24, q25, r0, d0⟩, ⟨fo1, le1, lo1, g1, q26, q27, r1, d1⟩, ⟨fo2, le2, lo2, g2, q28, q29, r2, d2⟩, ⟨fo3, le3, lo3, g3, q30, q31, r3, d3⟩⟩ := hSh
  refine Mt.of (L0 := [some (vR 0), some (vI 1), some (vI i), some (vI 3), some (vI j), some (vI cn), none, none]) rfl rfl rfl ?_
  refine gj_il1 dX8_copy_0 ?_
  refine gj_cS1r dX8_copy_1 mX8_120 hX8_isSheet (by omega) rfl (tX8_isSheet  (by omega) (by omega)) ?_
  refine gj_ifB_eq dX8_copy_4 (fun h4 => ?_) (fun h4 => ?_)
  · exact absurd (by omega) h4
  · refine gj_il3 dX8_copy_7 ?_
    refine gj_cS1r dX8_copy_8 mX8_120 hX8_isSheet (by omega) rfl (tX8_isSheet  (by omega) (by omega)) ?_
    refine gj_ifB_ne dX8_copy_11 (fun h11 => ?_) (fun h11 => ?_)
    · refine gj_al0 dX8_copy_17 ?_
      refine gj_get dX8_copy_18 fX8_66 q0 rfl rfl ?_
      refine gj_il1 dX8_copy_21 ?_
      refine gj_aald dX8_copy_22 q23 rfl rfl (by omega) s1 ?_
      refine gj_as6 dX8_copy_23 rfl rfl ?_
      refine gj_al0 dX8_copy_25 ?_
      refine gj_get dX8_copy_26 fX8_66 q0 rfl rfl ?_
      refine gj_il3 dX8_copy_29 ?_
      refine gj_aald dX8_copy_30 q23 rfl rfl (by omega) s3 ?_
      refine gj_as7 dX8_copy_31 rfl rfl ?_
      refine gj_al6 dX8_copy_33 ?_
      refine gj_get dX8_copy_35 fX8_123 q26 rfl rfl ?_
      refine gj_if_ne dX8_copy_38 (by omega) (fun h38 => ?_) (fun h38 => ?_)
      · have e1 : lo1 = 1 ∧ fm 1 = -1 := d1.resolve_right (fun z => absurd z.1 (by omega))
        refine gj_al0 dX8_copy_49 ?_
        refine gj_iconst dX8_copy_50 ?_
        refine gj_cV1w dX8_copy_51 mX8_127 hX8_found q0 rfl (by omega) rfl (tX8_found  (by omega) q0) (fun w51 P51 => ?_)
        obtain rfl := P51
        exact gj_iret dX8_copy_54 rfl (Or.inr (Or.inr (Or.inr (Or.inl ⟨⟨by omega, by omega⟩, Or.inl e1.2, rfl, ⟨⟨upw_s, ⟨_, _, _, _, _, _, ⟨(upw_o (by decide) q1), (upw_o (by decide) q2), (upw_o (by decide) q3), (upw_o (by decide) q4), (upw_o (by decide) q5), (upw_o (by decide) q6)⟩, hRd⟩, ⟨_, ⟨(upw_o (by decide) q9), (upw_o (by decide) q10), (upw_o (by decide) q11)⟩, ⟨(upw_o (by decide) q7), (upw_o (by decide) q8)⟩, hO⟩, ⟨_, _, _, (upw_o (by decide) q12), (upw_o (by decide) q13), (upw_o (by decide) q14)⟩, ⟨_, (upw_o (by decide) q15)⟩, hbm, ⟨_, _, _, B, _, _, (upw_o (by decide) q16), (upw_o (by decide) q17), (upw_o (by decide) q18)⟩, ⟨⟨(upw_o (by decide) q19), (upw_o (by decide) q20), (upw_o (by decide) q21), (upw_o (by decide) q22)⟩, hMm⟩, ⟨⟨_, (upw_o (by decide) q23), s0, s1, s2, s3⟩, ⟨_, _, _, _, (upw_o (by decide) q24), (upw_o (by decide) q25), r0, d0⟩, ⟨_, _, _, _, (upw_o (by decide) q26), (upw_o (by decide) q27), r1, d1⟩, ⟨_, _, _, _, (upw_o (by decide) q28), (upw_o (by decide) q29), r2, d2⟩, ⟨_, _, _, _, (upw_o (by decide) q30), (upw_o (by decide) q31), r3, d3⟩⟩⟩, (fun k hk => upw_o (by omega) ((fun (k : Nat) (_ : 32 ≤ k) => rfl) k hk))⟩⟩))))
      · obtain ⟨e1, y1, m1, n1, t1, v1⟩ : lo1 = 0 ∧ fm 1 = fo1 ∧ (0 ≤ fo1 ∧ fo1 ≤ 2) ∧ ln 1 = le1 ∧ (0 ≤ le1 ∧ le1 ≤ 60) ∧ ∀ j : Int, 0 ≤ j → j < le1 → g1 j = it 1 j ∧ R32 (g1 j) := d1.resolve_left (fun z => absurd z.1 (by omega))
        refine gj_al7 dX8_copy_41 ?_
        refine gj_get dX8_copy_43 fX8_123 q30 rfl rfl ?_
        refine gj_if_eq dX8_copy_46 (by omega) (fun h46 => ?_) (fun h46 => ?_)
        · obtain ⟨e3, y3, m3, n3, t3, v3⟩ : lo3 = 0 ∧ fm 3 = fo3 ∧ (0 ≤ fo3 ∧ fo3 ≤ 2) ∧ ln 3 = le3 ∧ (0 ≤ le3 ∧ le3 ≤ 60) ∧ ∀ j : Int, 0 ≤ j → j < le3 → g3 j = it 3 j ∧ R32 (g3 j) := d3.resolve_left (fun z => absurd z.1 (by omega))
          refine gj_al6 dX8_copy_55 ?_
          refine gj_get dX8_copy_57 fX8_261 q26 rfl rfl ?_
          refine gj_al7 dX8_copy_60 ?_
          refine gj_get dX8_copy_62 fX8_261 q30 rfl rfl ?_
          refine gj_icmp_eq dX8_copy_65 (by omega) (fun h65 => ?_) (fun h65 => ?_)
          · refine gj_al6 dX8_copy_74 ?_
            refine gj_il2 dX8_copy_76 ?_
            refine gj_il5 dX8_copy_77 ?_
            refine gj_cV2r dX8_copy_79 mX8_264 hX7_holdsRun q26 rfl (by omega) rfl (tX7_holdsRun1  (by omega) ⟨q26, q27⟩ (by omega) (by omega) (by omega)) ?_
            refine gj_ifB_eq dX8_copy_82 (fun h82 => ?_) (fun h82 => ?_)
            · refine gj_al0 dX8_copy_97 ?_
              refine gj_iconst dX8_copy_98 ?_
              refine gj_cV1w dX8_copy_99 mX8_127 hX8_found q0 rfl (by omega) rfl (tX8_found  (by omega) q0) (fun w99 P99 => ?_)
              obtain rfl := P99
              exact gj_iret dX8_copy_102 rfl (Or.inr (Or.inl ⟨⟨by omega, by omega⟩, by omega, by omega, by omega, rfl, ⟨⟨upw_s, ⟨_, _, _, _, _, _, ⟨(upw_o (by decide) q1), (upw_o (by decide) q2), (upw_o (by decide) q3), (upw_o (by decide) q4), (upw_o (by decide) q5), (upw_o (by decide) q6)⟩, hRd⟩, ⟨_, ⟨(upw_o (by decide) q9), (upw_o (by decide) q10), (upw_o (by decide) q11)⟩, ⟨(upw_o (by decide) q7), (upw_o (by decide) q8)⟩, hO⟩, ⟨_, _, _, (upw_o (by decide) q12), (upw_o (by decide) q13), (upw_o (by decide) q14)⟩, ⟨_, (upw_o (by decide) q15)⟩, hbm, ⟨_, _, _, B, _, _, (upw_o (by decide) q16), (upw_o (by decide) q17), (upw_o (by decide) q18)⟩, ⟨⟨(upw_o (by decide) q19), (upw_o (by decide) q20), (upw_o (by decide) q21), (upw_o (by decide) q22)⟩, hMm⟩, ⟨⟨_, (upw_o (by decide) q23), s0, s1, s2, s3⟩, ⟨_, _, _, _, (upw_o (by decide) q24), (upw_o (by decide) q25), r0, d0⟩, ⟨_, _, _, _, (upw_o (by decide) q26), (upw_o (by decide) q27), r1, d1⟩, ⟨_, _, _, _, (upw_o (by decide) q28), (upw_o (by decide) q29), r2, d2⟩, ⟨_, _, _, _, (upw_o (by decide) q30), (upw_o (by decide) q31), r3, d3⟩⟩⟩, (fun k hk => upw_o (by omega) ((fun (k : Nat) (_ : 32 ≤ k) => rfl) k hk))⟩⟩))
            · refine gj_al7 dX8_copy_85 ?_
              refine gj_il4 dX8_copy_87 ?_
              refine gj_il5 dX8_copy_89 ?_
              refine gj_cV2r dX8_copy_91 mX8_264 hX7_holdsRun q30 rfl (by omega) rfl (tX7_holdsRun3  (by omega) ⟨q30, q31⟩ (by omega) (by omega) (by omega)) ?_
              refine gj_ifB_ne dX8_copy_94 (fun h94 => ?_) (fun h94 => ?_)
              · refine gj_al6 dX8_copy_103 ?_
                refine gj_get dX8_copy_105 fX8_138 q26 rfl rfl ?_
                refine gj_il2 dX8_copy_108 ?_
                refine gj_al7 dX8_copy_109 ?_
                refine gj_get dX8_copy_111 fX8_138 q30 rfl rfl ?_
                refine gj_il4 dX8_copy_114 ?_
                refine gj_il5 dX8_copy_116 ?_
                refine gj_acopy dX8_copy_118 mX8_267 (by omega) rfl q27 rfl q31 rfl ⟨rfl, rfl⟩ (by omega) ?_
                refine gj_iconst dX8_copy_121 ?_
                exact gj_iret dX8_copy_122 rfl (Or.inl ⟨⟨by omega, by omega⟩, by omega, by omega, by omega, rfl, ⟨⟨(upw_o (by decide) q0), ⟨_, _, _, _, _, _, ⟨(upw_o (by decide) q1), (upw_o (by decide) q2), (upw_o (by decide) q3), (upw_o (by decide) q4), (upw_o (by decide) q5), (upw_o (by decide) q6)⟩, hRd⟩, ⟨_, ⟨(upw_o (by decide) q9), (upw_o (by decide) q10), (upw_o (by decide) q11)⟩, ⟨(upw_o (by decide) q7), (upw_o (by decide) q8)⟩, hO⟩, ⟨_, _, _, (upw_o (by decide) q12), (upw_o (by decide) q13), (upw_o (by decide) q14)⟩, ⟨_, (upw_o (by decide) q15)⟩, hbm, ⟨_, _, _, B, _, _, (upw_o (by decide) q16), (upw_o (by decide) q17), (upw_o (by decide) q18)⟩, ⟨⟨(upw_o (by decide) q19), (upw_o (by decide) q20), (upw_o (by decide) q21), (upw_o (by decide) q22)⟩, hMm⟩, ⟨⟨_, (upw_o (by decide) q23), s0, s1, s2, s3⟩, ⟨_, _, _, _, (upw_o (by decide) q24), (upw_o (by decide) q25), r0, d0⟩, ⟨_, _, _, _, (upw_o (by decide) q26), (upw_o (by decide) q27), r1, d1⟩, ⟨_, _, _, _, (upw_o (by decide) q28), (upw_o (by decide) q29), r2, d2⟩, ⟨_, _, _, _, (upw_o (by decide) q30), upw_s, r3, Or.inr ⟨e3, y3, m3, n3, t3, fun q g8 g9 => by
                            show cpf g1 g3 i j cn q = cpf (it 1) (it 3) i j cn q ∧ R32 (cpf g1 g3 i j cn q)
                            unfold cpf
                            by_cases z : j ≤ q ∧ q < j + cn
                            · rw [if_pos z, if_pos z]; exact v1 _ (by omega) (by omega)
                            · rw [if_neg z, if_neg z]; exact v3 q g8 g9⟩⟩⟩⟩, (fun k hk => upw_o (by omega) ((fun (k : Nat) (_ : 32 ≤ k) => rfl) k hk))⟩⟩)
              · refine gj_al0 dX8_copy_97 ?_
                refine gj_iconst dX8_copy_98 ?_
                refine gj_cV1w dX8_copy_99 mX8_127 hX8_found q0 rfl (by omega) rfl (tX8_found  (by omega) q0) (fun w99 P99 => ?_)
                obtain rfl := P99
                exact gj_iret dX8_copy_102 rfl (Or.inr (Or.inl ⟨⟨by omega, by omega⟩, by omega, by omega, by omega, rfl, ⟨⟨upw_s, ⟨_, _, _, _, _, _, ⟨(upw_o (by decide) q1), (upw_o (by decide) q2), (upw_o (by decide) q3), (upw_o (by decide) q4), (upw_o (by decide) q5), (upw_o (by decide) q6)⟩, hRd⟩, ⟨_, ⟨(upw_o (by decide) q9), (upw_o (by decide) q10), (upw_o (by decide) q11)⟩, ⟨(upw_o (by decide) q7), (upw_o (by decide) q8)⟩, hO⟩, ⟨_, _, _, (upw_o (by decide) q12), (upw_o (by decide) q13), (upw_o (by decide) q14)⟩, ⟨_, (upw_o (by decide) q15)⟩, hbm, ⟨_, _, _, B, _, _, (upw_o (by decide) q16), (upw_o (by decide) q17), (upw_o (by decide) q18)⟩, ⟨⟨(upw_o (by decide) q19), (upw_o (by decide) q20), (upw_o (by decide) q21), (upw_o (by decide) q22)⟩, hMm⟩, ⟨⟨_, (upw_o (by decide) q23), s0, s1, s2, s3⟩, ⟨_, _, _, _, (upw_o (by decide) q24), (upw_o (by decide) q25), r0, d0⟩, ⟨_, _, _, _, (upw_o (by decide) q26), (upw_o (by decide) q27), r1, d1⟩, ⟨_, _, _, _, (upw_o (by decide) q28), (upw_o (by decide) q29), r2, d2⟩, ⟨_, _, _, _, (upw_o (by decide) q30), (upw_o (by decide) q31), r3, d3⟩⟩⟩, (fun k hk => upw_o (by omega) ((fun (k : Nat) (_ : 32 ≤ k) => rfl) k hk))⟩⟩))
          · refine gj_al0 dX8_copy_68 ?_
            refine gj_iconst dX8_copy_69 ?_
            refine gj_cV1w dX8_copy_70 mX8_127 hX8_found q0 rfl (by omega) rfl (tX8_found  (by omega) q0) (fun w70 P70 => ?_)
            obtain rfl := P70
            exact gj_iret dX8_copy_73 rfl (Or.inr (Or.inr (Or.inl ⟨⟨by omega, by omega⟩, by omega, by omega, rfl, ⟨⟨upw_s, ⟨_, _, _, _, _, _, ⟨(upw_o (by decide) q1), (upw_o (by decide) q2), (upw_o (by decide) q3), (upw_o (by decide) q4), (upw_o (by decide) q5), (upw_o (by decide) q6)⟩, hRd⟩, ⟨_, ⟨(upw_o (by decide) q9), (upw_o (by decide) q10), (upw_o (by decide) q11)⟩, ⟨(upw_o (by decide) q7), (upw_o (by decide) q8)⟩, hO⟩, ⟨_, _, _, (upw_o (by decide) q12), (upw_o (by decide) q13), (upw_o (by decide) q14)⟩, ⟨_, (upw_o (by decide) q15)⟩, hbm, ⟨_, _, _, B, _, _, (upw_o (by decide) q16), (upw_o (by decide) q17), (upw_o (by decide) q18)⟩, ⟨⟨(upw_o (by decide) q19), (upw_o (by decide) q20), (upw_o (by decide) q21), (upw_o (by decide) q22)⟩, hMm⟩, ⟨⟨_, (upw_o (by decide) q23), s0, s1, s2, s3⟩, ⟨_, _, _, _, (upw_o (by decide) q24), (upw_o (by decide) q25), r0, d0⟩, ⟨_, _, _, _, (upw_o (by decide) q26), (upw_o (by decide) q27), r1, d1⟩, ⟨_, _, _, _, (upw_o (by decide) q28), (upw_o (by decide) q29), r2, d2⟩, ⟨_, _, _, _, (upw_o (by decide) q30), (upw_o (by decide) q31), r3, d3⟩⟩⟩, (fun k hk => upw_o (by omega) ((fun (k : Nat) (_ : 32 ≤ k) => rfl) k hk))⟩⟩)))
        · have et : lo3 = 1 ∧ fm 3 = -1 := d3.resolve_right (fun z => absurd z.1 (by omega))
          refine gj_al0 dX8_copy_49 ?_
          refine gj_iconst dX8_copy_50 ?_
          refine gj_cV1w dX8_copy_51 mX8_127 hX8_found q0 rfl (by omega) rfl (tX8_found  (by omega) q0) (fun w51 P51 => ?_)
          obtain rfl := P51
          exact gj_iret dX8_copy_54 rfl (Or.inr (Or.inr (Or.inr (Or.inl ⟨⟨by omega, by omega⟩, Or.inr et.2, rfl, ⟨⟨upw_s, ⟨_, _, _, _, _, _, ⟨(upw_o (by decide) q1), (upw_o (by decide) q2), (upw_o (by decide) q3), (upw_o (by decide) q4), (upw_o (by decide) q5), (upw_o (by decide) q6)⟩, hRd⟩, ⟨_, ⟨(upw_o (by decide) q9), (upw_o (by decide) q10), (upw_o (by decide) q11)⟩, ⟨(upw_o (by decide) q7), (upw_o (by decide) q8)⟩, hO⟩, ⟨_, _, _, (upw_o (by decide) q12), (upw_o (by decide) q13), (upw_o (by decide) q14)⟩, ⟨_, (upw_o (by decide) q15)⟩, hbm, ⟨_, _, _, B, _, _, (upw_o (by decide) q16), (upw_o (by decide) q17), (upw_o (by decide) q18)⟩, ⟨⟨(upw_o (by decide) q19), (upw_o (by decide) q20), (upw_o (by decide) q21), (upw_o (by decide) q22)⟩, hMm⟩, ⟨⟨_, (upw_o (by decide) q23), s0, s1, s2, s3⟩, ⟨_, _, _, _, (upw_o (by decide) q24), (upw_o (by decide) q25), r0, d0⟩, ⟨_, _, _, _, (upw_o (by decide) q26), (upw_o (by decide) q27), r1, d1⟩, ⟨_, _, _, _, (upw_o (by decide) q28), (upw_o (by decide) q29), r2, d2⟩, ⟨_, _, _, _, (upw_o (by decide) q30), (upw_o (by decide) q31), r3, d3⟩⟩⟩, (fun k hk => upw_o (by omega) ((fun (k : Nat) (_ : 32 ≤ k) => rfl) k hk))⟩⟩))))
    · exact absurd (by omega) h11
set_option maxRecDepth 20000 in
set_option maxHeartbeats 4000000 in
theorem tCopy20 {l : Launch} {x : Cx} {d : Nat} {w : AW} {tx : Int → Int} {by0 : Int} {ru fa fe : Int → Int} {fc lw br me : Int} {mh ml mw : Int → Int} {mn fi : Int} {fm ln : Int → Int} {it : Int → Int → Int} {i j cn : Int} (hd : 2 ≤ d) (hC : ClassC w tx by0 ru fa fe fc lw br me mh ml mw mn fi fm ln it) (hi : R32 i) (hj : R32 j) (hcn : R32 cn) : Mt l x iX8_copy d 0 0 50 w [vR 0, vI 2, vI i, vI 0, vI j, vI cn] (fun v2 w2 => (((0 ≤ (2 : Int) ∧ (2 : Int) ≤ 3) ∧ (0 ≤ (0 : Int) ∧ (0 : Int) ≤ 3)) ∧ ¬ (fm (2 : Int) = -1 ∨ fm (0 : Int) = -1) ∧ fm (2 : Int) = fm (0 : Int) ∧ (0 ≤ i ∧ 0 ≤ cn ∧ i ≤ ln (2 : Int) ∧ cn ≤ ln (2 : Int) - i ∧ 0 ≤ j ∧ j ≤ ln (0 : Int) ∧ cn ≤ ln (0 : Int) - j) ∧ v2 = some (vI 1) ∧ ClassC w2 tx by0 ru fa fe fc lw br me mh ml mw mn fi fm ln (upi it (0 : Int) (cpf (it (2 : Int)) (it (0 : Int)) i j cn)) ∧ ∀ k : Nat, 32 ≤ k → w2 k = w k) ∨ (((0 ≤ (2 : Int) ∧ (2 : Int) ≤ 3) ∧ (0 ≤ (0 : Int) ∧ (0 : Int) ≤ 3)) ∧ ¬ (fm (2 : Int) = -1 ∨ fm (0 : Int) = -1) ∧ fm (2 : Int) = fm (0 : Int) ∧ ¬ (0 ≤ i ∧ 0 ≤ cn ∧ i ≤ ln (2 : Int) ∧ cn ≤ ln (2 : Int) - i ∧ 0 ≤ j ∧ j ≤ ln (0 : Int) ∧ cn ≤ ln (0 : Int) - j) ∧ v2 = some (vI (-12)) ∧ ClassC w2 tx by0 ru fa fe fc lw br me mh ml mw mn 2 fm ln it ∧ ∀ k : Nat, 32 ≤ k → w2 k = w k) ∨ (((0 ≤ (2 : Int) ∧ (2 : Int) ≤ 3) ∧ (0 ≤ (0 : Int) ∧ (0 : Int) ≤ 3)) ∧ ¬ (fm (2 : Int) = -1 ∨ fm (0 : Int) = -1) ∧ fm (2 : Int) ≠ fm (0 : Int) ∧ v2 = some (vI (-14)) ∧ ClassC w2 tx by0 ru fa fe fc lw br me mh ml mw mn 4 fm ln it ∧ ∀ k : Nat, 32 ≤ k → w2 k = w k) ∨ (((0 ≤ (2 : Int) ∧ (2 : Int) ≤ 3) ∧ (0 ≤ (0 : Int) ∧ (0 : Int) ≤ 3)) ∧ (fm (2 : Int) = -1 ∨ fm (0 : Int) = -1) ∧ v2 = some (vI (-11)) ∧ ClassC w2 tx by0 ru fa fe fc lw br me mh ml mw mn 1 fm ln it ∧ ∀ k : Nat, 32 ≤ k → w2 k = w k) ∨ (¬ ((0 ≤ (2 : Int) ∧ (2 : Int) ≤ 3) ∧ (0 ≤ (0 : Int) ∧ (0 : Int) ≤ 3)) ∧ v2 = some (vI (-2)) ∧ w2 = w)) := by
  have hC0 := hC
  obtain ⟨q0, ⟨on, ot, ho, wy, nu, fl, ⟨q1, q2, q3, q4, q5, q6⟩, hRd⟩, ⟨fd, ⟨q9, q10, q11⟩, ⟨q7, q8⟩, hO⟩, ⟨la, be, ne, q12, q13, q14⟩, ⟨sl, q15⟩, hbm, ⟨go, st, bn, B, ra, rb, q16, q17, q18⟩, ⟨⟨q19, q20, q21, q22⟩, hMm⟩, hSh⟩ := hC
  have hW : WarC w fa (warB lw fa ru fe fc) := ⟨fe, ru, fc, fd, lw, ⟨q9, q10, q11⟩, ⟨q7, q8⟩, hO, rfl⟩
  have hE := hRd.ed
  have hM := hRd.mat
  obtain ⟨⟨sf, q23, s0, s1, s2, s3⟩, ⟨fo0, le0, lo0, g0, q24, q25, r0, d0⟩, ⟨fo1, le1, lo1, g1, q26, q27, r1, d1⟩, ⟨fo2, le2, lo2, g2, q28, q29, r2, d2⟩, ⟨fo3, le3, lo3, g3, q30, q31, r3, d3⟩⟩ := hSh
  refine Mt.of (L0 := [some (vR 0), some (vI 2), some (vI i), some (vI 0), some (vI j), some (vI cn), none, none]) rfl rfl rfl ?_
  refine gj_il1 dX8_copy_0 ?_
  refine gj_cS1r dX8_copy_1 mX8_120 hX8_isSheet (by omega) rfl (tX8_isSheet  (by omega) (by omega)) ?_
  refine gj_ifB_eq dX8_copy_4 (fun h4 => ?_) (fun h4 => ?_)
  · exact absurd (by omega) h4
  · refine gj_il3 dX8_copy_7 ?_
    refine gj_cS1r dX8_copy_8 mX8_120 hX8_isSheet (by omega) rfl (tX8_isSheet  (by omega) (by omega)) ?_
    refine gj_ifB_ne dX8_copy_11 (fun h11 => ?_) (fun h11 => ?_)
    · refine gj_al0 dX8_copy_17 ?_
      refine gj_get dX8_copy_18 fX8_66 q0 rfl rfl ?_
      refine gj_il1 dX8_copy_21 ?_
      refine gj_aald dX8_copy_22 q23 rfl rfl (by omega) s2 ?_
      refine gj_as6 dX8_copy_23 rfl rfl ?_
      refine gj_al0 dX8_copy_25 ?_
      refine gj_get dX8_copy_26 fX8_66 q0 rfl rfl ?_
      refine gj_il3 dX8_copy_29 ?_
      refine gj_aald dX8_copy_30 q23 rfl rfl (by omega) s0 ?_
      refine gj_as7 dX8_copy_31 rfl rfl ?_
      refine gj_al6 dX8_copy_33 ?_
      refine gj_get dX8_copy_35 fX8_123 q28 rfl rfl ?_
      refine gj_if_ne dX8_copy_38 (by omega) (fun h38 => ?_) (fun h38 => ?_)
      · have e2 : lo2 = 1 ∧ fm 2 = -1 := d2.resolve_right (fun z => absurd z.1 (by omega))
        refine gj_al0 dX8_copy_49 ?_
        refine gj_iconst dX8_copy_50 ?_
        refine gj_cV1w dX8_copy_51 mX8_127 hX8_found q0 rfl (by omega) rfl (tX8_found  (by omega) q0) (fun w51 P51 => ?_)
        obtain rfl := P51
        exact gj_iret dX8_copy_54 rfl (Or.inr (Or.inr (Or.inr (Or.inl ⟨⟨by omega, by omega⟩, Or.inl e2.2, rfl, ⟨⟨upw_s, ⟨_, _, _, _, _, _, ⟨(upw_o (by decide) q1), (upw_o (by decide) q2), (upw_o (by decide) q3), (upw_o (by decide) q4), (upw_o (by decide) q5), (upw_o (by decide) q6)⟩, hRd⟩, ⟨_, ⟨(upw_o (by decide) q9), (upw_o (by decide) q10), (upw_o (by decide) q11)⟩, ⟨(upw_o (by decide) q7), (upw_o (by decide) q8)⟩, hO⟩, ⟨_, _, _, (upw_o (by decide) q12), (upw_o (by decide) q13), (upw_o (by decide) q14)⟩, ⟨_, (upw_o (by decide) q15)⟩, hbm, ⟨_, _, _, B, _, _, (upw_o (by decide) q16), (upw_o (by decide) q17), (upw_o (by decide) q18)⟩, ⟨⟨(upw_o (by decide) q19), (upw_o (by decide) q20), (upw_o (by decide) q21), (upw_o (by decide) q22)⟩, hMm⟩, ⟨⟨_, (upw_o (by decide) q23), s0, s1, s2, s3⟩, ⟨_, _, _, _, (upw_o (by decide) q24), (upw_o (by decide) q25), r0, d0⟩, ⟨_, _, _, _, (upw_o (by decide) q26), (upw_o (by decide) q27), r1, d1⟩, ⟨_, _, _, _, (upw_o (by decide) q28), (upw_o (by decide) q29), r2, d2⟩, ⟨_, _, _, _, (upw_o (by decide) q30), (upw_o (by decide) q31), r3, d3⟩⟩⟩, (fun k hk => upw_o (by omega) ((fun (k : Nat) (_ : 32 ≤ k) => rfl) k hk))⟩⟩))))
      · obtain ⟨e2, y2, m2, n2, t2, v2⟩ : lo2 = 0 ∧ fm 2 = fo2 ∧ (0 ≤ fo2 ∧ fo2 ≤ 2) ∧ ln 2 = le2 ∧ (0 ≤ le2 ∧ le2 ≤ 60) ∧ ∀ j : Int, 0 ≤ j → j < le2 → g2 j = it 2 j ∧ R32 (g2 j) := d2.resolve_left (fun z => absurd z.1 (by omega))
        refine gj_al7 dX8_copy_41 ?_
        refine gj_get dX8_copy_43 fX8_123 q24 rfl rfl ?_
        refine gj_if_eq dX8_copy_46 (by omega) (fun h46 => ?_) (fun h46 => ?_)
        · obtain ⟨e0, y0, m0, n0, t0, v0⟩ : lo0 = 0 ∧ fm 0 = fo0 ∧ (0 ≤ fo0 ∧ fo0 ≤ 2) ∧ ln 0 = le0 ∧ (0 ≤ le0 ∧ le0 ≤ 60) ∧ ∀ j : Int, 0 ≤ j → j < le0 → g0 j = it 0 j ∧ R32 (g0 j) := d0.resolve_left (fun z => absurd z.1 (by omega))
          refine gj_al6 dX8_copy_55 ?_
          refine gj_get dX8_copy_57 fX8_261 q28 rfl rfl ?_
          refine gj_al7 dX8_copy_60 ?_
          refine gj_get dX8_copy_62 fX8_261 q24 rfl rfl ?_
          refine gj_icmp_eq dX8_copy_65 (by omega) (fun h65 => ?_) (fun h65 => ?_)
          · refine gj_al6 dX8_copy_74 ?_
            refine gj_il2 dX8_copy_76 ?_
            refine gj_il5 dX8_copy_77 ?_
            refine gj_cV2r dX8_copy_79 mX8_264 hX7_holdsRun q28 rfl (by omega) rfl (tX7_holdsRun2  (by omega) ⟨q28, q29⟩ (by omega) (by omega) (by omega)) ?_
            refine gj_ifB_eq dX8_copy_82 (fun h82 => ?_) (fun h82 => ?_)
            · refine gj_al0 dX8_copy_97 ?_
              refine gj_iconst dX8_copy_98 ?_
              refine gj_cV1w dX8_copy_99 mX8_127 hX8_found q0 rfl (by omega) rfl (tX8_found  (by omega) q0) (fun w99 P99 => ?_)
              obtain rfl := P99
              exact gj_iret dX8_copy_102 rfl (Or.inr (Or.inl ⟨⟨by omega, by omega⟩, by omega, by omega, by omega, rfl, ⟨⟨upw_s, ⟨_, _, _, _, _, _, ⟨(upw_o (by decide) q1), (upw_o (by decide) q2), (upw_o (by decide) q3), (upw_o (by decide) q4), (upw_o (by decide) q5), (upw_o (by decide) q6)⟩, hRd⟩, ⟨_, ⟨(upw_o (by decide) q9), (upw_o (by decide) q10), (upw_o (by decide) q11)⟩, ⟨(upw_o (by decide) q7), (upw_o (by decide) q8)⟩, hO⟩, ⟨_, _, _, (upw_o (by decide) q12), (upw_o (by decide) q13), (upw_o (by decide) q14)⟩, ⟨_, (upw_o (by decide) q15)⟩, hbm, ⟨_, _, _, B, _, _, (upw_o (by decide) q16), (upw_o (by decide) q17), (upw_o (by decide) q18)⟩, ⟨⟨(upw_o (by decide) q19), (upw_o (by decide) q20), (upw_o (by decide) q21), (upw_o (by decide) q22)⟩, hMm⟩, ⟨⟨_, (upw_o (by decide) q23), s0, s1, s2, s3⟩, ⟨_, _, _, _, (upw_o (by decide) q24), (upw_o (by decide) q25), r0, d0⟩, ⟨_, _, _, _, (upw_o (by decide) q26), (upw_o (by decide) q27), r1, d1⟩, ⟨_, _, _, _, (upw_o (by decide) q28), (upw_o (by decide) q29), r2, d2⟩, ⟨_, _, _, _, (upw_o (by decide) q30), (upw_o (by decide) q31), r3, d3⟩⟩⟩, (fun k hk => upw_o (by omega) ((fun (k : Nat) (_ : 32 ≤ k) => rfl) k hk))⟩⟩))
            · refine gj_al7 dX8_copy_85 ?_
              refine gj_il4 dX8_copy_87 ?_
              refine gj_il5 dX8_copy_89 ?_
              refine gj_cV2r dX8_copy_91 mX8_264 hX7_holdsRun q24 rfl (by omega) rfl (tX7_holdsRun0  (by omega) ⟨q24, q25⟩ (by omega) (by omega) (by omega)) ?_
              refine gj_ifB_ne dX8_copy_94 (fun h94 => ?_) (fun h94 => ?_)
              · refine gj_al6 dX8_copy_103 ?_
                refine gj_get dX8_copy_105 fX8_138 q28 rfl rfl ?_
                refine gj_il2 dX8_copy_108 ?_
                refine gj_al7 dX8_copy_109 ?_
                refine gj_get dX8_copy_111 fX8_138 q24 rfl rfl ?_
                refine gj_il4 dX8_copy_114 ?_
                refine gj_il5 dX8_copy_116 ?_
                refine gj_acopy dX8_copy_118 mX8_267 (by omega) rfl q29 rfl q25 rfl ⟨rfl, rfl⟩ (by omega) ?_
                refine gj_iconst dX8_copy_121 ?_
                exact gj_iret dX8_copy_122 rfl (Or.inl ⟨⟨by omega, by omega⟩, by omega, by omega, by omega, rfl, ⟨⟨(upw_o (by decide) q0), ⟨_, _, _, _, _, _, ⟨(upw_o (by decide) q1), (upw_o (by decide) q2), (upw_o (by decide) q3), (upw_o (by decide) q4), (upw_o (by decide) q5), (upw_o (by decide) q6)⟩, hRd⟩, ⟨_, ⟨(upw_o (by decide) q9), (upw_o (by decide) q10), (upw_o (by decide) q11)⟩, ⟨(upw_o (by decide) q7), (upw_o (by decide) q8)⟩, hO⟩, ⟨_, _, _, (upw_o (by decide) q12), (upw_o (by decide) q13), (upw_o (by decide) q14)⟩, ⟨_, (upw_o (by decide) q15)⟩, hbm, ⟨_, _, _, B, _, _, (upw_o (by decide) q16), (upw_o (by decide) q17), (upw_o (by decide) q18)⟩, ⟨⟨(upw_o (by decide) q19), (upw_o (by decide) q20), (upw_o (by decide) q21), (upw_o (by decide) q22)⟩, hMm⟩, ⟨⟨_, (upw_o (by decide) q23), s0, s1, s2, s3⟩, ⟨_, _, _, _, (upw_o (by decide) q24), upw_s, r0, Or.inr ⟨e0, y0, m0, n0, t0, fun q g8 g9 => by
                            show cpf g2 g0 i j cn q = cpf (it 2) (it 0) i j cn q ∧ R32 (cpf g2 g0 i j cn q)
                            unfold cpf
                            by_cases z : j ≤ q ∧ q < j + cn
                            · rw [if_pos z, if_pos z]; exact v2 _ (by omega) (by omega)
                            · rw [if_neg z, if_neg z]; exact v0 q g8 g9⟩⟩, ⟨_, _, _, _, (upw_o (by decide) q26), (upw_o (by decide) q27), r1, d1⟩, ⟨_, _, _, _, (upw_o (by decide) q28), (upw_o (by decide) q29), r2, d2⟩, ⟨_, _, _, _, (upw_o (by decide) q30), (upw_o (by decide) q31), r3, d3⟩⟩⟩, (fun k hk => upw_o (by omega) ((fun (k : Nat) (_ : 32 ≤ k) => rfl) k hk))⟩⟩)
              · refine gj_al0 dX8_copy_97 ?_
                refine gj_iconst dX8_copy_98 ?_
                refine gj_cV1w dX8_copy_99 mX8_127 hX8_found q0 rfl (by omega) rfl (tX8_found  (by omega) q0) (fun w99 P99 => ?_)
                obtain rfl := P99
                exact gj_iret dX8_copy_102 rfl (Or.inr (Or.inl ⟨⟨by omega, by omega⟩, by omega, by omega, by omega, rfl, ⟨⟨upw_s, ⟨_, _, _, _, _, _, ⟨(upw_o (by decide) q1), (upw_o (by decide) q2), (upw_o (by decide) q3), (upw_o (by decide) q4), (upw_o (by decide) q5), (upw_o (by decide) q6)⟩, hRd⟩, ⟨_, ⟨(upw_o (by decide) q9), (upw_o (by decide) q10), (upw_o (by decide) q11)⟩, ⟨(upw_o (by decide) q7), (upw_o (by decide) q8)⟩, hO⟩, ⟨_, _, _, (upw_o (by decide) q12), (upw_o (by decide) q13), (upw_o (by decide) q14)⟩, ⟨_, (upw_o (by decide) q15)⟩, hbm, ⟨_, _, _, B, _, _, (upw_o (by decide) q16), (upw_o (by decide) q17), (upw_o (by decide) q18)⟩, ⟨⟨(upw_o (by decide) q19), (upw_o (by decide) q20), (upw_o (by decide) q21), (upw_o (by decide) q22)⟩, hMm⟩, ⟨⟨_, (upw_o (by decide) q23), s0, s1, s2, s3⟩, ⟨_, _, _, _, (upw_o (by decide) q24), (upw_o (by decide) q25), r0, d0⟩, ⟨_, _, _, _, (upw_o (by decide) q26), (upw_o (by decide) q27), r1, d1⟩, ⟨_, _, _, _, (upw_o (by decide) q28), (upw_o (by decide) q29), r2, d2⟩, ⟨_, _, _, _, (upw_o (by decide) q30), (upw_o (by decide) q31), r3, d3⟩⟩⟩, (fun k hk => upw_o (by omega) ((fun (k : Nat) (_ : 32 ≤ k) => rfl) k hk))⟩⟩))
          · refine gj_al0 dX8_copy_68 ?_
            refine gj_iconst dX8_copy_69 ?_
            refine gj_cV1w dX8_copy_70 mX8_127 hX8_found q0 rfl (by omega) rfl (tX8_found  (by omega) q0) (fun w70 P70 => ?_)
            obtain rfl := P70
            exact gj_iret dX8_copy_73 rfl (Or.inr (Or.inr (Or.inl ⟨⟨by omega, by omega⟩, by omega, by omega, rfl, ⟨⟨upw_s, ⟨_, _, _, _, _, _, ⟨(upw_o (by decide) q1), (upw_o (by decide) q2), (upw_o (by decide) q3), (upw_o (by decide) q4), (upw_o (by decide) q5), (upw_o (by decide) q6)⟩, hRd⟩, ⟨_, ⟨(upw_o (by decide) q9), (upw_o (by decide) q10), (upw_o (by decide) q11)⟩, ⟨(upw_o (by decide) q7), (upw_o (by decide) q8)⟩, hO⟩, ⟨_, _, _, (upw_o (by decide) q12), (upw_o (by decide) q13), (upw_o (by decide) q14)⟩, ⟨_, (upw_o (by decide) q15)⟩, hbm, ⟨_, _, _, B, _, _, (upw_o (by decide) q16), (upw_o (by decide) q17), (upw_o (by decide) q18)⟩, ⟨⟨(upw_o (by decide) q19), (upw_o (by decide) q20), (upw_o (by decide) q21), (upw_o (by decide) q22)⟩, hMm⟩, ⟨⟨_, (upw_o (by decide) q23), s0, s1, s2, s3⟩, ⟨_, _, _, _, (upw_o (by decide) q24), (upw_o (by decide) q25), r0, d0⟩, ⟨_, _, _, _, (upw_o (by decide) q26), (upw_o (by decide) q27), r1, d1⟩, ⟨_, _, _, _, (upw_o (by decide) q28), (upw_o (by decide) q29), r2, d2⟩, ⟨_, _, _, _, (upw_o (by decide) q30), (upw_o (by decide) q31), r3, d3⟩⟩⟩, (fun k hk => upw_o (by omega) ((fun (k : Nat) (_ : 32 ≤ k) => rfl) k hk))⟩⟩)))
        · have et : lo0 = 1 ∧ fm 0 = -1 := d0.resolve_right (fun z => absurd z.1 (by omega))
          refine gj_al0 dX8_copy_49 ?_
          refine gj_iconst dX8_copy_50 ?_
          refine gj_cV1w dX8_copy_51 mX8_127 hX8_found q0 rfl (by omega) rfl (tX8_found  (by omega) q0) (fun w51 P51 => ?_)
          obtain rfl := P51
          exact gj_iret dX8_copy_54 rfl (Or.inr (Or.inr (Or.inr (Or.inl ⟨⟨by omega, by omega⟩, Or.inr et.2, rfl, ⟨⟨upw_s, ⟨_, _, _, _, _, _, ⟨(upw_o (by decide) q1), (upw_o (by decide) q2), (upw_o (by decide) q3), (upw_o (by decide) q4), (upw_o (by decide) q5), (upw_o (by decide) q6)⟩, hRd⟩, ⟨_, ⟨(upw_o (by decide) q9), (upw_o (by decide) q10), (upw_o (by decide) q11)⟩, ⟨(upw_o (by decide) q7), (upw_o (by decide) q8)⟩, hO⟩, ⟨_, _, _, (upw_o (by decide) q12), (upw_o (by decide) q13), (upw_o (by decide) q14)⟩, ⟨_, (upw_o (by decide) q15)⟩, hbm, ⟨_, _, _, B, _, _, (upw_o (by decide) q16), (upw_o (by decide) q17), (upw_o (by decide) q18)⟩, ⟨⟨(upw_o (by decide) q19), (upw_o (by decide) q20), (upw_o (by decide) q21), (upw_o (by decide) q22)⟩, hMm⟩, ⟨⟨_, (upw_o (by decide) q23), s0, s1, s2, s3⟩, ⟨_, _, _, _, (upw_o (by decide) q24), (upw_o (by decide) q25), r0, d0⟩, ⟨_, _, _, _, (upw_o (by decide) q26), (upw_o (by decide) q27), r1, d1⟩, ⟨_, _, _, _, (upw_o (by decide) q28), (upw_o (by decide) q29), r2, d2⟩, ⟨_, _, _, _, (upw_o (by decide) q30), (upw_o (by decide) q31), r3, d3⟩⟩⟩, (fun k hk => upw_o (by omega) ((fun (k : Nat) (_ : 32 ≤ k) => rfl) k hk))⟩⟩))))
    · exact absurd (by omega) h11
set_option maxRecDepth 20000 in
set_option maxHeartbeats 4000000 in
theorem tCopy21 {l : Launch} {x : Cx} {d : Nat} {w : AW} {tx : Int → Int} {by0 : Int} {ru fa fe : Int → Int} {fc lw br me : Int} {mh ml mw : Int → Int} {mn fi : Int} {fm ln : Int → Int} {it : Int → Int → Int} {i j cn : Int} (hd : 2 ≤ d) (hC : ClassC w tx by0 ru fa fe fc lw br me mh ml mw mn fi fm ln it) (hi : R32 i) (hj : R32 j) (hcn : R32 cn) : Mt l x iX8_copy d 0 0 50 w [vR 0, vI 2, vI i, vI 1, vI j, vI cn] (fun v2 w2 => (((0 ≤ (2 : Int) ∧ (2 : Int) ≤ 3) ∧ (0 ≤ (1 : Int) ∧ (1 : Int) ≤ 3)) ∧ ¬ (fm (2 : Int) = -1 ∨ fm (1 : Int) = -1) ∧ fm (2 : Int) = fm (1 : Int) ∧ (0 ≤ i ∧ 0 ≤ cn ∧ i ≤ ln (2 : Int) ∧ cn ≤ ln (2 : Int) - i ∧ 0 ≤ j ∧ j ≤ ln (1 : Int) ∧ cn ≤ ln (1 : Int) - j) ∧ v2 = some (vI 1) ∧ ClassC w2 tx by0 ru fa fe fc lw br me mh ml mw mn fi fm ln (upi it (1 : Int) (cpf (it (2 : Int)) (it (1 : Int)) i j cn)) ∧ ∀ k : Nat, 32 ≤ k → w2 k = w k) ∨ (((0 ≤ (2 : Int) ∧ (2 : Int) ≤ 3) ∧ (0 ≤ (1 : Int) ∧ (1 : Int) ≤ 3)) ∧ ¬ (fm (2 : Int) = -1 ∨ fm (1 : Int) = -1) ∧ fm (2 : Int) = fm (1 : Int) ∧ ¬ (0 ≤ i ∧ 0 ≤ cn ∧ i ≤ ln (2 : Int) ∧ cn ≤ ln (2 : Int) - i ∧ 0 ≤ j ∧ j ≤ ln (1 : Int) ∧ cn ≤ ln (1 : Int) - j) ∧ v2 = some (vI (-12)) ∧ ClassC w2 tx by0 ru fa fe fc lw br me mh ml mw mn 2 fm ln it ∧ ∀ k : Nat, 32 ≤ k → w2 k = w k) ∨ (((0 ≤ (2 : Int) ∧ (2 : Int) ≤ 3) ∧ (0 ≤ (1 : Int) ∧ (1 : Int) ≤ 3)) ∧ ¬ (fm (2 : Int) = -1 ∨ fm (1 : Int) = -1) ∧ fm (2 : Int) ≠ fm (1 : Int) ∧ v2 = some (vI (-14)) ∧ ClassC w2 tx by0 ru fa fe fc lw br me mh ml mw mn 4 fm ln it ∧ ∀ k : Nat, 32 ≤ k → w2 k = w k) ∨ (((0 ≤ (2 : Int) ∧ (2 : Int) ≤ 3) ∧ (0 ≤ (1 : Int) ∧ (1 : Int) ≤ 3)) ∧ (fm (2 : Int) = -1 ∨ fm (1 : Int) = -1) ∧ v2 = some (vI (-11)) ∧ ClassC w2 tx by0 ru fa fe fc lw br me mh ml mw mn 1 fm ln it ∧ ∀ k : Nat, 32 ≤ k → w2 k = w k) ∨ (¬ ((0 ≤ (2 : Int) ∧ (2 : Int) ≤ 3) ∧ (0 ≤ (1 : Int) ∧ (1 : Int) ≤ 3)) ∧ v2 = some (vI (-2)) ∧ w2 = w)) := by
  have hC0 := hC
  obtain ⟨q0, ⟨on, ot, ho, wy, nu, fl, ⟨q1, q2, q3, q4, q5, q6⟩, hRd⟩, ⟨fd, ⟨q9, q10, q11⟩, ⟨q7, q8⟩, hO⟩, ⟨la, be, ne, q12, q13, q14⟩, ⟨sl, q15⟩, hbm, ⟨go, st, bn, B, ra, rb, q16, q17, q18⟩, ⟨⟨q19, q20, q21, q22⟩, hMm⟩, hSh⟩ := hC
  have hW : WarC w fa (warB lw fa ru fe fc) := ⟨fe, ru, fc, fd, lw, ⟨q9, q10, q11⟩, ⟨q7, q8⟩, hO, rfl⟩
  have hE := hRd.ed
  have hM := hRd.mat
  obtain ⟨⟨sf, q23, s0, s1, s2, s3⟩, ⟨fo0, le0, lo0, g0, q24, q25, r0, d0⟩, ⟨fo1, le1, lo1, g1, q26, q27, r1, d1⟩, ⟨fo2, le2, lo2, g2, q28, q29, r2, d2⟩, ⟨fo3, le3, lo3, g3, q30, q31, r3, d3⟩⟩ := hSh
  refine Mt.of (L0 := [some (vR 0), some (vI 2), some (vI i), some (vI 1), some (vI j), some (vI cn), none, none]) rfl rfl rfl ?_
  refine gj_il1 dX8_copy_0 ?_
  refine gj_cS1r dX8_copy_1 mX8_120 hX8_isSheet (by omega) rfl (tX8_isSheet  (by omega) (by omega)) ?_
  refine gj_ifB_eq dX8_copy_4 (fun h4 => ?_) (fun h4 => ?_)
  · exact absurd (by omega) h4
  · refine gj_il3 dX8_copy_7 ?_
    refine gj_cS1r dX8_copy_8 mX8_120 hX8_isSheet (by omega) rfl (tX8_isSheet  (by omega) (by omega)) ?_
    refine gj_ifB_ne dX8_copy_11 (fun h11 => ?_) (fun h11 => ?_)
    · refine gj_al0 dX8_copy_17 ?_
      refine gj_get dX8_copy_18 fX8_66 q0 rfl rfl ?_
      refine gj_il1 dX8_copy_21 ?_
      refine gj_aald dX8_copy_22 q23 rfl rfl (by omega) s2 ?_
      refine gj_as6 dX8_copy_23 rfl rfl ?_
      refine gj_al0 dX8_copy_25 ?_
      refine gj_get dX8_copy_26 fX8_66 q0 rfl rfl ?_
      refine gj_il3 dX8_copy_29 ?_
      refine gj_aald dX8_copy_30 q23 rfl rfl (by omega) s1 ?_
      refine gj_as7 dX8_copy_31 rfl rfl ?_
      refine gj_al6 dX8_copy_33 ?_
      refine gj_get dX8_copy_35 fX8_123 q28 rfl rfl ?_
      refine gj_if_ne dX8_copy_38 (by omega) (fun h38 => ?_) (fun h38 => ?_)
      · have e2 : lo2 = 1 ∧ fm 2 = -1 := d2.resolve_right (fun z => absurd z.1 (by omega))
        refine gj_al0 dX8_copy_49 ?_
        refine gj_iconst dX8_copy_50 ?_
        refine gj_cV1w dX8_copy_51 mX8_127 hX8_found q0 rfl (by omega) rfl (tX8_found  (by omega) q0) (fun w51 P51 => ?_)
        obtain rfl := P51
        exact gj_iret dX8_copy_54 rfl (Or.inr (Or.inr (Or.inr (Or.inl ⟨⟨by omega, by omega⟩, Or.inl e2.2, rfl, ⟨⟨upw_s, ⟨_, _, _, _, _, _, ⟨(upw_o (by decide) q1), (upw_o (by decide) q2), (upw_o (by decide) q3), (upw_o (by decide) q4), (upw_o (by decide) q5), (upw_o (by decide) q6)⟩, hRd⟩, ⟨_, ⟨(upw_o (by decide) q9), (upw_o (by decide) q10), (upw_o (by decide) q11)⟩, ⟨(upw_o (by decide) q7), (upw_o (by decide) q8)⟩, hO⟩, ⟨_, _, _, (upw_o (by decide) q12), (upw_o (by decide) q13), (upw_o (by decide) q14)⟩, ⟨_, (upw_o (by decide) q15)⟩, hbm, ⟨_, _, _, B, _, _, (upw_o (by decide) q16), (upw_o (by decide) q17), (upw_o (by decide) q18)⟩, ⟨⟨(upw_o (by decide) q19), (upw_o (by decide) q20), (upw_o (by decide) q21), (upw_o (by decide) q22)⟩, hMm⟩, ⟨⟨_, (upw_o (by decide) q23), s0, s1, s2, s3⟩, ⟨_, _, _, _, (upw_o (by decide) q24), (upw_o (by decide) q25), r0, d0⟩, ⟨_, _, _, _, (upw_o (by decide) q26), (upw_o (by decide) q27), r1, d1⟩, ⟨_, _, _, _, (upw_o (by decide) q28), (upw_o (by decide) q29), r2, d2⟩, ⟨_, _, _, _, (upw_o (by decide) q30), (upw_o (by decide) q31), r3, d3⟩⟩⟩, (fun k hk => upw_o (by omega) ((fun (k : Nat) (_ : 32 ≤ k) => rfl) k hk))⟩⟩))))
      · obtain ⟨e2, y2, m2, n2, t2, v2⟩ : lo2 = 0 ∧ fm 2 = fo2 ∧ (0 ≤ fo2 ∧ fo2 ≤ 2) ∧ ln 2 = le2 ∧ (0 ≤ le2 ∧ le2 ≤ 60) ∧ ∀ j : Int, 0 ≤ j → j < le2 → g2 j = it 2 j ∧ R32 (g2 j) := d2.resolve_left (fun z => absurd z.1 (by omega))
        refine gj_al7 dX8_copy_41 ?_
        refine gj_get dX8_copy_43 fX8_123 q26 rfl rfl ?_
        refine gj_if_eq dX8_copy_46 (by omega) (fun h46 => ?_) (fun h46 => ?_)
        · obtain ⟨e1, y1, m1, n1, t1, v1⟩ : lo1 = 0 ∧ fm 1 = fo1 ∧ (0 ≤ fo1 ∧ fo1 ≤ 2) ∧ ln 1 = le1 ∧ (0 ≤ le1 ∧ le1 ≤ 60) ∧ ∀ j : Int, 0 ≤ j → j < le1 → g1 j = it 1 j ∧ R32 (g1 j) := d1.resolve_left (fun z => absurd z.1 (by omega))
          refine gj_al6 dX8_copy_55 ?_
          refine gj_get dX8_copy_57 fX8_261 q28 rfl rfl ?_
          refine gj_al7 dX8_copy_60 ?_
          refine gj_get dX8_copy_62 fX8_261 q26 rfl rfl ?_
          refine gj_icmp_eq dX8_copy_65 (by omega) (fun h65 => ?_) (fun h65 => ?_)
          · refine gj_al6 dX8_copy_74 ?_
            refine gj_il2 dX8_copy_76 ?_
            refine gj_il5 dX8_copy_77 ?_
            refine gj_cV2r dX8_copy_79 mX8_264 hX7_holdsRun q28 rfl (by omega) rfl (tX7_holdsRun2  (by omega) ⟨q28, q29⟩ (by omega) (by omega) (by omega)) ?_
            refine gj_ifB_eq dX8_copy_82 (fun h82 => ?_) (fun h82 => ?_)
            · refine gj_al0 dX8_copy_97 ?_
              refine gj_iconst dX8_copy_98 ?_
              refine gj_cV1w dX8_copy_99 mX8_127 hX8_found q0 rfl (by omega) rfl (tX8_found  (by omega) q0) (fun w99 P99 => ?_)
              obtain rfl := P99
              exact gj_iret dX8_copy_102 rfl (Or.inr (Or.inl ⟨⟨by omega, by omega⟩, by omega, by omega, by omega, rfl, ⟨⟨upw_s, ⟨_, _, _, _, _, _, ⟨(upw_o (by decide) q1), (upw_o (by decide) q2), (upw_o (by decide) q3), (upw_o (by decide) q4), (upw_o (by decide) q5), (upw_o (by decide) q6)⟩, hRd⟩, ⟨_, ⟨(upw_o (by decide) q9), (upw_o (by decide) q10), (upw_o (by decide) q11)⟩, ⟨(upw_o (by decide) q7), (upw_o (by decide) q8)⟩, hO⟩, ⟨_, _, _, (upw_o (by decide) q12), (upw_o (by decide) q13), (upw_o (by decide) q14)⟩, ⟨_, (upw_o (by decide) q15)⟩, hbm, ⟨_, _, _, B, _, _, (upw_o (by decide) q16), (upw_o (by decide) q17), (upw_o (by decide) q18)⟩, ⟨⟨(upw_o (by decide) q19), (upw_o (by decide) q20), (upw_o (by decide) q21), (upw_o (by decide) q22)⟩, hMm⟩, ⟨⟨_, (upw_o (by decide) q23), s0, s1, s2, s3⟩, ⟨_, _, _, _, (upw_o (by decide) q24), (upw_o (by decide) q25), r0, d0⟩, ⟨_, _, _, _, (upw_o (by decide) q26), (upw_o (by decide) q27), r1, d1⟩, ⟨_, _, _, _, (upw_o (by decide) q28), (upw_o (by decide) q29), r2, d2⟩, ⟨_, _, _, _, (upw_o (by decide) q30), (upw_o (by decide) q31), r3, d3⟩⟩⟩, (fun k hk => upw_o (by omega) ((fun (k : Nat) (_ : 32 ≤ k) => rfl) k hk))⟩⟩))
            · refine gj_al7 dX8_copy_85 ?_
              refine gj_il4 dX8_copy_87 ?_
              refine gj_il5 dX8_copy_89 ?_
              refine gj_cV2r dX8_copy_91 mX8_264 hX7_holdsRun q26 rfl (by omega) rfl (tX7_holdsRun1  (by omega) ⟨q26, q27⟩ (by omega) (by omega) (by omega)) ?_
              refine gj_ifB_ne dX8_copy_94 (fun h94 => ?_) (fun h94 => ?_)
              · refine gj_al6 dX8_copy_103 ?_
                refine gj_get dX8_copy_105 fX8_138 q28 rfl rfl ?_
                refine gj_il2 dX8_copy_108 ?_
                refine gj_al7 dX8_copy_109 ?_
                refine gj_get dX8_copy_111 fX8_138 q26 rfl rfl ?_
                refine gj_il4 dX8_copy_114 ?_
                refine gj_il5 dX8_copy_116 ?_
                refine gj_acopy dX8_copy_118 mX8_267 (by omega) rfl q29 rfl q27 rfl ⟨rfl, rfl⟩ (by omega) ?_
                refine gj_iconst dX8_copy_121 ?_
                exact gj_iret dX8_copy_122 rfl (Or.inl ⟨⟨by omega, by omega⟩, by omega, by omega, by omega, rfl, ⟨⟨(upw_o (by decide) q0), ⟨_, _, _, _, _, _, ⟨(upw_o (by decide) q1), (upw_o (by decide) q2), (upw_o (by decide) q3), (upw_o (by decide) q4), (upw_o (by decide) q5), (upw_o (by decide) q6)⟩, hRd⟩, ⟨_, ⟨(upw_o (by decide) q9), (upw_o (by decide) q10), (upw_o (by decide) q11)⟩, ⟨(upw_o (by decide) q7), (upw_o (by decide) q8)⟩, hO⟩, ⟨_, _, _, (upw_o (by decide) q12), (upw_o (by decide) q13), (upw_o (by decide) q14)⟩, ⟨_, (upw_o (by decide) q15)⟩, hbm, ⟨_, _, _, B, _, _, (upw_o (by decide) q16), (upw_o (by decide) q17), (upw_o (by decide) q18)⟩, ⟨⟨(upw_o (by decide) q19), (upw_o (by decide) q20), (upw_o (by decide) q21), (upw_o (by decide) q22)⟩, hMm⟩, ⟨⟨_, (upw_o (by decide) q23), s0, s1, s2, s3⟩, ⟨_, _, _, _, (upw_o (by decide) q24), (upw_o (by decide) q25), r0, d0⟩, ⟨_, _, _, _, (upw_o (by decide) q26), upw_s, r1, Or.inr ⟨e1, y1, m1, n1, t1, fun q g8 g9 => by
                            show cpf g2 g1 i j cn q = cpf (it 2) (it 1) i j cn q ∧ R32 (cpf g2 g1 i j cn q)
                            unfold cpf
                            by_cases z : j ≤ q ∧ q < j + cn
                            · rw [if_pos z, if_pos z]; exact v2 _ (by omega) (by omega)
                            · rw [if_neg z, if_neg z]; exact v1 q g8 g9⟩⟩, ⟨_, _, _, _, (upw_o (by decide) q28), (upw_o (by decide) q29), r2, d2⟩, ⟨_, _, _, _, (upw_o (by decide) q30), (upw_o (by decide) q31), r3, d3⟩⟩⟩, (fun k hk => upw_o (by omega) ((fun (k : Nat) (_ : 32 ≤ k) => rfl) k hk))⟩⟩)
              · refine gj_al0 dX8_copy_97 ?_
                refine gj_iconst dX8_copy_98 ?_
                refine gj_cV1w dX8_copy_99 mX8_127 hX8_found q0 rfl (by omega) rfl (tX8_found  (by omega) q0) (fun w99 P99 => ?_)
                obtain rfl := P99
                exact gj_iret dX8_copy_102 rfl (Or.inr (Or.inl ⟨⟨by omega, by omega⟩, by omega, by omega, by omega, rfl, ⟨⟨upw_s, ⟨_, _, _, _, _, _, ⟨(upw_o (by decide) q1), (upw_o (by decide) q2), (upw_o (by decide) q3), (upw_o (by decide) q4), (upw_o (by decide) q5), (upw_o (by decide) q6)⟩, hRd⟩, ⟨_, ⟨(upw_o (by decide) q9), (upw_o (by decide) q10), (upw_o (by decide) q11)⟩, ⟨(upw_o (by decide) q7), (upw_o (by decide) q8)⟩, hO⟩, ⟨_, _, _, (upw_o (by decide) q12), (upw_o (by decide) q13), (upw_o (by decide) q14)⟩, ⟨_, (upw_o (by decide) q15)⟩, hbm, ⟨_, _, _, B, _, _, (upw_o (by decide) q16), (upw_o (by decide) q17), (upw_o (by decide) q18)⟩, ⟨⟨(upw_o (by decide) q19), (upw_o (by decide) q20), (upw_o (by decide) q21), (upw_o (by decide) q22)⟩, hMm⟩, ⟨⟨_, (upw_o (by decide) q23), s0, s1, s2, s3⟩, ⟨_, _, _, _, (upw_o (by decide) q24), (upw_o (by decide) q25), r0, d0⟩, ⟨_, _, _, _, (upw_o (by decide) q26), (upw_o (by decide) q27), r1, d1⟩, ⟨_, _, _, _, (upw_o (by decide) q28), (upw_o (by decide) q29), r2, d2⟩, ⟨_, _, _, _, (upw_o (by decide) q30), (upw_o (by decide) q31), r3, d3⟩⟩⟩, (fun k hk => upw_o (by omega) ((fun (k : Nat) (_ : 32 ≤ k) => rfl) k hk))⟩⟩))
          · refine gj_al0 dX8_copy_68 ?_
            refine gj_iconst dX8_copy_69 ?_
            refine gj_cV1w dX8_copy_70 mX8_127 hX8_found q0 rfl (by omega) rfl (tX8_found  (by omega) q0) (fun w70 P70 => ?_)
            obtain rfl := P70
            exact gj_iret dX8_copy_73 rfl (Or.inr (Or.inr (Or.inl ⟨⟨by omega, by omega⟩, by omega, by omega, rfl, ⟨⟨upw_s, ⟨_, _, _, _, _, _, ⟨(upw_o (by decide) q1), (upw_o (by decide) q2), (upw_o (by decide) q3), (upw_o (by decide) q4), (upw_o (by decide) q5), (upw_o (by decide) q6)⟩, hRd⟩, ⟨_, ⟨(upw_o (by decide) q9), (upw_o (by decide) q10), (upw_o (by decide) q11)⟩, ⟨(upw_o (by decide) q7), (upw_o (by decide) q8)⟩, hO⟩, ⟨_, _, _, (upw_o (by decide) q12), (upw_o (by decide) q13), (upw_o (by decide) q14)⟩, ⟨_, (upw_o (by decide) q15)⟩, hbm, ⟨_, _, _, B, _, _, (upw_o (by decide) q16), (upw_o (by decide) q17), (upw_o (by decide) q18)⟩, ⟨⟨(upw_o (by decide) q19), (upw_o (by decide) q20), (upw_o (by decide) q21), (upw_o (by decide) q22)⟩, hMm⟩, ⟨⟨_, (upw_o (by decide) q23), s0, s1, s2, s3⟩, ⟨_, _, _, _, (upw_o (by decide) q24), (upw_o (by decide) q25), r0, d0⟩, ⟨_, _, _, _, (upw_o (by decide) q26), (upw_o (by decide) q27), r1, d1⟩, ⟨_, _, _, _, (upw_o (by decide) q28), (upw_o (by decide) q29), r2, d2⟩, ⟨_, _, _, _, (upw_o (by decide) q30), (upw_o (by decide) q31), r3, d3⟩⟩⟩, (fun k hk => upw_o (by omega) ((fun (k : Nat) (_ : 32 ≤ k) => rfl) k hk))⟩⟩)))
        · have et : lo1 = 1 ∧ fm 1 = -1 := d1.resolve_right (fun z => absurd z.1 (by omega))
          refine gj_al0 dX8_copy_49 ?_
          refine gj_iconst dX8_copy_50 ?_
          refine gj_cV1w dX8_copy_51 mX8_127 hX8_found q0 rfl (by omega) rfl (tX8_found  (by omega) q0) (fun w51 P51 => ?_)
          obtain rfl := P51
          exact gj_iret dX8_copy_54 rfl (Or.inr (Or.inr (Or.inr (Or.inl ⟨⟨by omega, by omega⟩, Or.inr et.2, rfl, ⟨⟨upw_s, ⟨_, _, _, _, _, _, ⟨(upw_o (by decide) q1), (upw_o (by decide) q2), (upw_o (by decide) q3), (upw_o (by decide) q4), (upw_o (by decide) q5), (upw_o (by decide) q6)⟩, hRd⟩, ⟨_, ⟨(upw_o (by decide) q9), (upw_o (by decide) q10), (upw_o (by decide) q11)⟩, ⟨(upw_o (by decide) q7), (upw_o (by decide) q8)⟩, hO⟩, ⟨_, _, _, (upw_o (by decide) q12), (upw_o (by decide) q13), (upw_o (by decide) q14)⟩, ⟨_, (upw_o (by decide) q15)⟩, hbm, ⟨_, _, _, B, _, _, (upw_o (by decide) q16), (upw_o (by decide) q17), (upw_o (by decide) q18)⟩, ⟨⟨(upw_o (by decide) q19), (upw_o (by decide) q20), (upw_o (by decide) q21), (upw_o (by decide) q22)⟩, hMm⟩, ⟨⟨_, (upw_o (by decide) q23), s0, s1, s2, s3⟩, ⟨_, _, _, _, (upw_o (by decide) q24), (upw_o (by decide) q25), r0, d0⟩, ⟨_, _, _, _, (upw_o (by decide) q26), (upw_o (by decide) q27), r1, d1⟩, ⟨_, _, _, _, (upw_o (by decide) q28), (upw_o (by decide) q29), r2, d2⟩, ⟨_, _, _, _, (upw_o (by decide) q30), (upw_o (by decide) q31), r3, d3⟩⟩⟩, (fun k hk => upw_o (by omega) ((fun (k : Nat) (_ : 32 ≤ k) => rfl) k hk))⟩⟩))))
    · exact absurd (by omega) h11
set_option maxRecDepth 20000 in
set_option maxHeartbeats 4000000 in
theorem tCopy22 {l : Launch} {x : Cx} {d : Nat} {w : AW} {tx : Int → Int} {by0 : Int} {ru fa fe : Int → Int} {fc lw br me : Int} {mh ml mw : Int → Int} {mn fi : Int} {fm ln : Int → Int} {it : Int → Int → Int} {i j cn : Int} (hd : 2 ≤ d) (hC : ClassC w tx by0 ru fa fe fc lw br me mh ml mw mn fi fm ln it) (hi : R32 i) (hj : R32 j) (hcn : R32 cn) : Mt l x iX8_copy d 0 0 50 w [vR 0, vI 2, vI i, vI 2, vI j, vI cn] (fun v2 w2 => (((0 ≤ (2 : Int) ∧ (2 : Int) ≤ 3) ∧ (0 ≤ (2 : Int) ∧ (2 : Int) ≤ 3)) ∧ ¬ (fm (2 : Int) = -1 ∨ fm (2 : Int) = -1) ∧ fm (2 : Int) = fm (2 : Int) ∧ (0 ≤ i ∧ 0 ≤ cn ∧ i ≤ ln (2 : Int) ∧ cn ≤ ln (2 : Int) - i ∧ 0 ≤ j ∧ j ≤ ln (2 : Int) ∧ cn ≤ ln (2 : Int) - j) ∧ v2 = some (vI 1) ∧ ClassC w2 tx by0 ru fa fe fc lw br me mh ml mw mn fi fm ln (upi it (2 : Int) (cpf (it (2 : Int)) (it (2 : Int)) i j cn)) ∧ ∀ k : Nat, 32 ≤ k → w2 k = w k) ∨ (((0 ≤ (2 : Int) ∧ (2 : Int) ≤ 3) ∧ (0 ≤ (2 : Int) ∧ (2 : Int) ≤ 3)) ∧ ¬ (fm (2 : Int) = -1 ∨ fm (2 : Int) = -1) ∧ fm (2 : Int) = fm (2 : Int) ∧ ¬ (0 ≤ i ∧ 0 ≤ cn ∧ i ≤ ln (2 : Int) ∧ cn ≤ ln (2 : Int) - i ∧ 0 ≤ j ∧ j ≤ ln (2 : Int) ∧ cn ≤ ln (2 : Int) - j) ∧ v2 = some (vI (-12)) ∧ ClassC w2 tx by0 ru fa fe fc lw br me mh ml mw mn 2 fm ln it ∧ ∀ k : Nat, 32 ≤ k → w2 k = w k) ∨ (((0 ≤ (2 : Int) ∧ (2 : Int) ≤ 3) ∧ (0 ≤ (2 : Int) ∧ (2 : Int) ≤ 3)) ∧ ¬ (fm (2 : Int) = -1 ∨ fm (2 : Int) = -1) ∧ fm (2 : Int) ≠ fm (2 : Int) ∧ v2 = some (vI (-14)) ∧ ClassC w2 tx by0 ru fa fe fc lw br me mh ml mw mn 4 fm ln it ∧ ∀ k : Nat, 32 ≤ k → w2 k = w k) ∨ (((0 ≤ (2 : Int) ∧ (2 : Int) ≤ 3) ∧ (0 ≤ (2 : Int) ∧ (2 : Int) ≤ 3)) ∧ (fm (2 : Int) = -1 ∨ fm (2 : Int) = -1) ∧ v2 = some (vI (-11)) ∧ ClassC w2 tx by0 ru fa fe fc lw br me mh ml mw mn 1 fm ln it ∧ ∀ k : Nat, 32 ≤ k → w2 k = w k) ∨ (¬ ((0 ≤ (2 : Int) ∧ (2 : Int) ≤ 3) ∧ (0 ≤ (2 : Int) ∧ (2 : Int) ≤ 3)) ∧ v2 = some (vI (-2)) ∧ w2 = w)) := by
  have hC0 := hC
  obtain ⟨q0, ⟨on, ot, ho, wy, nu, fl, ⟨q1, q2, q3, q4, q5, q6⟩, hRd⟩, ⟨fd, ⟨q9, q10, q11⟩, ⟨q7, q8⟩, hO⟩, ⟨la, be, ne, q12, q13, q14⟩, ⟨sl, q15⟩, hbm, ⟨go, st, bn, B, ra, rb, q16, q17, q18⟩, ⟨⟨q19, q20, q21, q22⟩, hMm⟩, hSh⟩ := hC
  have hW : WarC w fa (warB lw fa ru fe fc) := ⟨fe, ru, fc, fd, lw, ⟨q9, q10, q11⟩, ⟨q7, q8⟩, hO, rfl⟩
  have hE := hRd.ed
  have hM := hRd.mat
  obtain ⟨⟨sf, q23, s0, s1, s2, s3⟩, ⟨fo0, le0, lo0, g0, q24, q25, r0, d0⟩, ⟨fo1, le1, lo1, g1, q26, q27, r1, d1⟩, ⟨fo2, le2, lo2, g2, q28, q29, r2, d2⟩, ⟨fo3, le3, lo3, g3, q30, q31, r3, d3⟩⟩ := hSh
  refine Mt.of (L0 := [some (vR 0), some (vI 2), some (vI i), some (vI 2), some (vI j), some (vI cn), none, none]) rfl rfl rfl ?_
  refine gj_il1 dX8_copy_0 ?_
  refine gj_cS1r dX8_copy_1 mX8_120 hX8_isSheet (by omega) rfl (tX8_isSheet  (by omega) (by omega)) ?_
  refine gj_ifB_eq dX8_copy_4 (fun h4 => ?_) (fun h4 => ?_)
  · exact absurd (by omega) h4
  · refine gj_il3 dX8_copy_7 ?_
    refine gj_cS1r dX8_copy_8 mX8_120 hX8_isSheet (by omega) rfl (tX8_isSheet  (by omega) (by omega)) ?_
    refine gj_ifB_ne dX8_copy_11 (fun h11 => ?_) (fun h11 => ?_)
    · refine gj_al0 dX8_copy_17 ?_
      refine gj_get dX8_copy_18 fX8_66 q0 rfl rfl ?_
      refine gj_il1 dX8_copy_21 ?_
      refine gj_aald dX8_copy_22 q23 rfl rfl (by omega) s2 ?_
      refine gj_as6 dX8_copy_23 rfl rfl ?_
      refine gj_al0 dX8_copy_25 ?_
      refine gj_get dX8_copy_26 fX8_66 q0 rfl rfl ?_
      refine gj_il3 dX8_copy_29 ?_
      refine gj_aald dX8_copy_30 q23 rfl rfl (by omega) s2 ?_
      refine gj_as7 dX8_copy_31 rfl rfl ?_
      refine gj_al6 dX8_copy_33 ?_
      refine gj_get dX8_copy_35 fX8_123 q28 rfl rfl ?_
      refine gj_if_ne dX8_copy_38 (by omega) (fun h38 => ?_) (fun h38 => ?_)
      · have e2 : lo2 = 1 ∧ fm 2 = -1 := d2.resolve_right (fun z => absurd z.1 (by omega))
        refine gj_al0 dX8_copy_49 ?_
        refine gj_iconst dX8_copy_50 ?_
        refine gj_cV1w dX8_copy_51 mX8_127 hX8_found q0 rfl (by omega) rfl (tX8_found  (by omega) q0) (fun w51 P51 => ?_)
        obtain rfl := P51
        exact gj_iret dX8_copy_54 rfl (Or.inr (Or.inr (Or.inr (Or.inl ⟨⟨by omega, by omega⟩, Or.inl e2.2, rfl, ⟨⟨upw_s, ⟨_, _, _, _, _, _, ⟨(upw_o (by decide) q1), (upw_o (by decide) q2), (upw_o (by decide) q3), (upw_o (by decide) q4), (upw_o (by decide) q5), (upw_o (by decide) q6)⟩, hRd⟩, ⟨_, ⟨(upw_o (by decide) q9), (upw_o (by decide) q10), (upw_o (by decide) q11)⟩, ⟨(upw_o (by decide) q7), (upw_o (by decide) q8)⟩, hO⟩, ⟨_, _, _, (upw_o (by decide) q12), (upw_o (by decide) q13), (upw_o (by decide) q14)⟩, ⟨_, (upw_o (by decide) q15)⟩, hbm, ⟨_, _, _, B, _, _, (upw_o (by decide) q16), (upw_o (by decide) q17), (upw_o (by decide) q18)⟩, ⟨⟨(upw_o (by decide) q19), (upw_o (by decide) q20), (upw_o (by decide) q21), (upw_o (by decide) q22)⟩, hMm⟩, ⟨⟨_, (upw_o (by decide) q23), s0, s1, s2, s3⟩, ⟨_, _, _, _, (upw_o (by decide) q24), (upw_o (by decide) q25), r0, d0⟩, ⟨_, _, _, _, (upw_o (by decide) q26), (upw_o (by decide) q27), r1, d1⟩, ⟨_, _, _, _, (upw_o (by decide) q28), (upw_o (by decide) q29), r2, d2⟩, ⟨_, _, _, _, (upw_o (by decide) q30), (upw_o (by decide) q31), r3, d3⟩⟩⟩, (fun k hk => upw_o (by omega) ((fun (k : Nat) (_ : 32 ≤ k) => rfl) k hk))⟩⟩))))
      · obtain ⟨e2, y2, m2, n2, t2, v2⟩ : lo2 = 0 ∧ fm 2 = fo2 ∧ (0 ≤ fo2 ∧ fo2 ≤ 2) ∧ ln 2 = le2 ∧ (0 ≤ le2 ∧ le2 ≤ 60) ∧ ∀ j : Int, 0 ≤ j → j < le2 → g2 j = it 2 j ∧ R32 (g2 j) := d2.resolve_left (fun z => absurd z.1 (by omega))
        refine gj_al7 dX8_copy_41 ?_
        refine gj_get dX8_copy_43 fX8_123 q28 rfl rfl ?_
        refine gj_if_eq dX8_copy_46 (by omega) (fun h46 => ?_) (fun h46 => ?_)
        · refine gj_al6 dX8_copy_55 ?_
          refine gj_get dX8_copy_57 fX8_261 q28 rfl rfl ?_
          refine gj_al7 dX8_copy_60 ?_
          refine gj_get dX8_copy_62 fX8_261 q28 rfl rfl ?_
          refine gj_icmp_eq dX8_copy_65 (by omega) (fun h65 => ?_) (fun h65 => ?_)
          · refine gj_al6 dX8_copy_74 ?_
            refine gj_il2 dX8_copy_76 ?_
            refine gj_il5 dX8_copy_77 ?_
            refine gj_cV2r dX8_copy_79 mX8_264 hX7_holdsRun q28 rfl (by omega) rfl (tX7_holdsRun2  (by omega) ⟨q28, q29⟩ (by omega) (by omega) (by omega)) ?_
            refine gj_ifB_eq dX8_copy_82 (fun h82 => ?_) (fun h82 => ?_)
            · refine gj_al0 dX8_copy_97 ?_
              refine gj_iconst dX8_copy_98 ?_
              refine gj_cV1w dX8_copy_99 mX8_127 hX8_found q0 rfl (by omega) rfl (tX8_found  (by omega) q0) (fun w99 P99 => ?_)
              obtain rfl := P99
              exact gj_iret dX8_copy_102 rfl (Or.inr (Or.inl ⟨⟨by omega, by omega⟩, by omega, by omega, by omega, rfl, ⟨⟨upw_s, ⟨_, _, _, _, _, _, ⟨(upw_o (by decide) q1), (upw_o (by decide) q2), (upw_o (by decide) q3), (upw_o (by decide) q4), (upw_o (by decide) q5), (upw_o (by decide) q6)⟩, hRd⟩, ⟨_, ⟨(upw_o (by decide) q9), (upw_o (by decide) q10), (upw_o (by decide) q11)⟩, ⟨(upw_o (by decide) q7), (upw_o (by decide) q8)⟩, hO⟩, ⟨_, _, _, (upw_o (by decide) q12), (upw_o (by decide) q13), (upw_o (by decide) q14)⟩, ⟨_, (upw_o (by decide) q15)⟩, hbm, ⟨_, _, _, B, _, _, (upw_o (by decide) q16), (upw_o (by decide) q17), (upw_o (by decide) q18)⟩, ⟨⟨(upw_o (by decide) q19), (upw_o (by decide) q20), (upw_o (by decide) q21), (upw_o (by decide) q22)⟩, hMm⟩, ⟨⟨_, (upw_o (by decide) q23), s0, s1, s2, s3⟩, ⟨_, _, _, _, (upw_o (by decide) q24), (upw_o (by decide) q25), r0, d0⟩, ⟨_, _, _, _, (upw_o (by decide) q26), (upw_o (by decide) q27), r1, d1⟩, ⟨_, _, _, _, (upw_o (by decide) q28), (upw_o (by decide) q29), r2, d2⟩, ⟨_, _, _, _, (upw_o (by decide) q30), (upw_o (by decide) q31), r3, d3⟩⟩⟩, (fun k hk => upw_o (by omega) ((fun (k : Nat) (_ : 32 ≤ k) => rfl) k hk))⟩⟩))
            · refine gj_al7 dX8_copy_85 ?_
              refine gj_il4 dX8_copy_87 ?_
              refine gj_il5 dX8_copy_89 ?_
              refine gj_cV2r dX8_copy_91 mX8_264 hX7_holdsRun q28 rfl (by omega) rfl (tX7_holdsRun2  (by omega) ⟨q28, q29⟩ (by omega) (by omega) (by omega)) ?_
              refine gj_ifB_ne dX8_copy_94 (fun h94 => ?_) (fun h94 => ?_)
              · refine gj_al6 dX8_copy_103 ?_
                refine gj_get dX8_copy_105 fX8_138 q28 rfl rfl ?_
                refine gj_il2 dX8_copy_108 ?_
                refine gj_al7 dX8_copy_109 ?_
                refine gj_get dX8_copy_111 fX8_138 q28 rfl rfl ?_
                refine gj_il4 dX8_copy_114 ?_
                refine gj_il5 dX8_copy_116 ?_
                refine gj_acopy dX8_copy_118 mX8_267 (by omega) rfl q29 rfl q29 rfl ⟨rfl, rfl⟩ (by omega) ?_
                refine gj_iconst dX8_copy_121 ?_
                exact gj_iret dX8_copy_122 rfl (Or.inl ⟨⟨by omega, by omega⟩, by omega, by omega, by omega, rfl, ⟨⟨(upw_o (by decide) q0), ⟨_, _, _, _, _, _, ⟨(upw_o (by decide) q1), (upw_o (by decide) q2), (upw_o (by decide) q3), (upw_o (by decide) q4), (upw_o (by decide) q5), (upw_o (by decide) q6)⟩, hRd⟩, ⟨_, ⟨(upw_o (by decide) q9), (upw_o (by decide) q10), (upw_o (by decide) q11)⟩, ⟨(upw_o (by decide) q7), (upw_o (by decide) q8)⟩, hO⟩, ⟨_, _, _, (upw_o (by decide) q12), (upw_o (by decide) q13), (upw_o (by decide) q14)⟩, ⟨_, (upw_o (by decide) q15)⟩, hbm, ⟨_, _, _, B, _, _, (upw_o (by decide) q16), (upw_o (by decide) q17), (upw_o (by decide) q18)⟩, ⟨⟨(upw_o (by decide) q19), (upw_o (by decide) q20), (upw_o (by decide) q21), (upw_o (by decide) q22)⟩, hMm⟩, ⟨⟨_, (upw_o (by decide) q23), s0, s1, s2, s3⟩, ⟨_, _, _, _, (upw_o (by decide) q24), (upw_o (by decide) q25), r0, d0⟩, ⟨_, _, _, _, (upw_o (by decide) q26), (upw_o (by decide) q27), r1, d1⟩, ⟨_, _, _, _, (upw_o (by decide) q28), upw_s, r2, Or.inr ⟨e2, y2, m2, n2, t2, fun q g8 g9 => by
                            show cpf g2 g2 i j cn q = cpf (it 2) (it 2) i j cn q ∧ R32 (cpf g2 g2 i j cn q)
                            unfold cpf
                            by_cases z : j ≤ q ∧ q < j + cn
                            · rw [if_pos z, if_pos z]; exact v2 _ (by omega) (by omega)
                            · rw [if_neg z, if_neg z]; exact v2 q g8 g9⟩⟩, ⟨_, _, _, _, (upw_o (by decide) q30), (upw_o (by decide) q31), r3, d3⟩⟩⟩, (fun k hk => upw_o (by omega) ((fun (k : Nat) (_ : 32 ≤ k) => rfl) k hk))⟩⟩)
              · refine gj_al0 dX8_copy_97 ?_
                refine gj_iconst dX8_copy_98 ?_
                refine gj_cV1w dX8_copy_99 mX8_127 hX8_found q0 rfl (by omega) rfl (tX8_found  (by omega) q0) (fun w99 P99 => ?_)
                obtain rfl := P99
                exact gj_iret dX8_copy_102 rfl (Or.inr (Or.inl ⟨⟨by omega, by omega⟩, by omega, by omega, by omega, rfl, ⟨⟨upw_s, ⟨_, _, _, _, _, _, ⟨(upw_o (by decide) q1), (upw_o (by decide) q2), (upw_o (by decide) q3), (upw_o (by decide) q4), (upw_o (by decide) q5), (upw_o (by decide) q6)⟩, hRd⟩, ⟨_, ⟨(upw_o (by decide) q9), (upw_o (by decide) q10), (upw_o (by decide) q11)⟩, ⟨(upw_o (by decide) q7), (upw_o (by decide) q8)⟩, hO⟩, ⟨_, _, _, (upw_o (by decide) q12), (upw_o (by decide) q13), (upw_o (by decide) q14)⟩, ⟨_, (upw_o (by decide) q15)⟩, hbm, ⟨_, _, _, B, _, _, (upw_o (by decide) q16), (upw_o (by decide) q17), (upw_o (by decide) q18)⟩, ⟨⟨(upw_o (by decide) q19), (upw_o (by decide) q20), (upw_o (by decide) q21), (upw_o (by decide) q22)⟩, hMm⟩, ⟨⟨_, (upw_o (by decide) q23), s0, s1, s2, s3⟩, ⟨_, _, _, _, (upw_o (by decide) q24), (upw_o (by decide) q25), r0, d0⟩, ⟨_, _, _, _, (upw_o (by decide) q26), (upw_o (by decide) q27), r1, d1⟩, ⟨_, _, _, _, (upw_o (by decide) q28), (upw_o (by decide) q29), r2, d2⟩, ⟨_, _, _, _, (upw_o (by decide) q30), (upw_o (by decide) q31), r3, d3⟩⟩⟩, (fun k hk => upw_o (by omega) ((fun (k : Nat) (_ : 32 ≤ k) => rfl) k hk))⟩⟩))
          · refine gj_al0 dX8_copy_68 ?_
            refine gj_iconst dX8_copy_69 ?_
            refine gj_cV1w dX8_copy_70 mX8_127 hX8_found q0 rfl (by omega) rfl (tX8_found  (by omega) q0) (fun w70 P70 => ?_)
            obtain rfl := P70
            exact gj_iret dX8_copy_73 rfl (Or.inr (Or.inr (Or.inl ⟨⟨by omega, by omega⟩, by omega, by omega, rfl, ⟨⟨upw_s, ⟨_, _, _, _, _, _, ⟨(upw_o (by decide) q1), (upw_o (by decide) q2), (upw_o (by decide) q3), (upw_o (by decide) q4), (upw_o (by decide) q5), (upw_o (by decide) q6)⟩, hRd⟩, ⟨_, ⟨(upw_o (by decide) q9), (upw_o (by decide) q10), (upw_o (by decide) q11)⟩, ⟨(upw_o (by decide) q7), (upw_o (by decide) q8)⟩, hO⟩, ⟨_, _, _, (upw_o (by decide) q12), (upw_o (by decide) q13), (upw_o (by decide) q14)⟩, ⟨_, (upw_o (by decide) q15)⟩, hbm, ⟨_, _, _, B, _, _, (upw_o (by decide) q16), (upw_o (by decide) q17), (upw_o (by decide) q18)⟩, ⟨⟨(upw_o (by decide) q19), (upw_o (by decide) q20), (upw_o (by decide) q21), (upw_o (by decide) q22)⟩, hMm⟩, ⟨⟨_, (upw_o (by decide) q23), s0, s1, s2, s3⟩, ⟨_, _, _, _, (upw_o (by decide) q24), (upw_o (by decide) q25), r0, d0⟩, ⟨_, _, _, _, (upw_o (by decide) q26), (upw_o (by decide) q27), r1, d1⟩, ⟨_, _, _, _, (upw_o (by decide) q28), (upw_o (by decide) q29), r2, d2⟩, ⟨_, _, _, _, (upw_o (by decide) q30), (upw_o (by decide) q31), r3, d3⟩⟩⟩, (fun k hk => upw_o (by omega) ((fun (k : Nat) (_ : 32 ≤ k) => rfl) k hk))⟩⟩)))
        · refine gj_al0 dX8_copy_49 ?_
          refine gj_iconst dX8_copy_50 ?_
          refine gj_cV1w dX8_copy_51 mX8_127 hX8_found q0 rfl (by omega) rfl (tX8_found  (by omega) q0) (fun w51 P51 => ?_)
          obtain rfl := P51
          exact gj_iret dX8_copy_54 rfl (absurd e2 h46)
    · exact absurd (by omega) h11
set_option maxRecDepth 20000 in
set_option maxHeartbeats 4000000 in
theorem tCopy23 {l : Launch} {x : Cx} {d : Nat} {w : AW} {tx : Int → Int} {by0 : Int} {ru fa fe : Int → Int} {fc lw br me : Int} {mh ml mw : Int → Int} {mn fi : Int} {fm ln : Int → Int} {it : Int → Int → Int} {i j cn : Int} (hd : 2 ≤ d) (hC : ClassC w tx by0 ru fa fe fc lw br me mh ml mw mn fi fm ln it) (hi : R32 i) (hj : R32 j) (hcn : R32 cn) : Mt l x iX8_copy d 0 0 50 w [vR 0, vI 2, vI i, vI 3, vI j, vI cn] (fun v2 w2 => (((0 ≤ (2 : Int) ∧ (2 : Int) ≤ 3) ∧ (0 ≤ (3 : Int) ∧ (3 : Int) ≤ 3)) ∧ ¬ (fm (2 : Int) = -1 ∨ fm (3 : Int) = -1) ∧ fm (2 : Int) = fm (3 : Int) ∧ (0 ≤ i ∧ 0 ≤ cn ∧ i ≤ ln (2 : Int) ∧ cn ≤ ln (2 : Int) - i ∧ 0 ≤ j ∧ j ≤ ln (3 : Int) ∧ cn ≤ ln (3 : Int) - j) ∧ v2 = some (vI 1) ∧ ClassC w2 tx by0 ru fa fe fc lw br me mh ml mw mn fi fm ln (upi it (3 : Int) (cpf (it (2 : Int)) (it (3 : Int)) i j cn)) ∧ ∀ k : Nat, 32 ≤ k → w2 k = w k) ∨ (((0 ≤ (2 : Int) ∧ (2 : Int) ≤ 3) ∧ (0 ≤ (3 : Int) ∧ (3 : Int) ≤ 3)) ∧ ¬ (fm (2 : Int) = -1 ∨ fm (3 : Int) = -1) ∧ fm (2 : Int) = fm (3 : Int) ∧ ¬ (0 ≤ i ∧ 0 ≤ cn ∧ i ≤ ln (2 : Int) ∧ cn ≤ ln (2 : Int) - i ∧ 0 ≤ j ∧ j ≤ ln (3 : Int) ∧ cn ≤ ln (3 : Int) - j) ∧ v2 = some (vI (-12)) ∧ ClassC w2 tx by0 ru fa fe fc lw br me mh ml mw mn 2 fm ln it ∧ ∀ k : Nat, 32 ≤ k → w2 k = w k) ∨ (((0 ≤ (2 : Int) ∧ (2 : Int) ≤ 3) ∧ (0 ≤ (3 : Int) ∧ (3 : Int) ≤ 3)) ∧ ¬ (fm (2 : Int) = -1 ∨ fm (3 : Int) = -1) ∧ fm (2 : Int) ≠ fm (3 : Int) ∧ v2 = some (vI (-14)) ∧ ClassC w2 tx by0 ru fa fe fc lw br me mh ml mw mn 4 fm ln it ∧ ∀ k : Nat, 32 ≤ k → w2 k = w k) ∨ (((0 ≤ (2 : Int) ∧ (2 : Int) ≤ 3) ∧ (0 ≤ (3 : Int) ∧ (3 : Int) ≤ 3)) ∧ (fm (2 : Int) = -1 ∨ fm (3 : Int) = -1) ∧ v2 = some (vI (-11)) ∧ ClassC w2 tx by0 ru fa fe fc lw br me mh ml mw mn 1 fm ln it ∧ ∀ k : Nat, 32 ≤ k → w2 k = w k) ∨ (¬ ((0 ≤ (2 : Int) ∧ (2 : Int) ≤ 3) ∧ (0 ≤ (3 : Int) ∧ (3 : Int) ≤ 3)) ∧ v2 = some (vI (-2)) ∧ w2 = w)) := by
  have hC0 := hC
  obtain ⟨q0, ⟨on, ot, ho, wy, nu, fl, ⟨q1, q2, q3, q4, q5, q6⟩, hRd⟩, ⟨fd, ⟨q9, q10, q11⟩, ⟨q7, q8⟩, hO⟩, ⟨la, be, ne, q12, q13, q14⟩, ⟨sl, q15⟩, hbm, ⟨go, st, bn, B, ra, rb, q16, q17, q18⟩, ⟨⟨q19, q20, q21, q22⟩, hMm⟩, hSh⟩ := hC
  have hW : WarC w fa (warB lw fa ru fe fc) := ⟨fe, ru, fc, fd, lw, ⟨q9, q10, q11⟩, ⟨q7, q8⟩, hO, rfl⟩
  have hE := hRd.ed
  have hM := hRd.mat
  obtain ⟨⟨sf, q23, s0, s1, s2, s3⟩, ⟨fo0, le0, lo0, g0, q24, q25, r0, d0⟩, ⟨fo1, le1, lo1, g1, q26, q27, r1, d1⟩, ⟨fo2, le2, lo2, g2, q28, q29, r2, d2⟩, ⟨fo3, le3, lo3, g3, q30, q31, r3, d3⟩⟩ := hSh
  refine Mt.of (L0 := [some (vR 0), some (vI 2), some (vI i), some (vI 3), some (vI j), some (vI cn), none, none]) rfl rfl rfl ?_
  refine gj_il1 dX8_copy_0 ?_
  refine gj_cS1r dX8_copy_1 mX8_120 hX8_isSheet (by omega) rfl (tX8_isSheet  (by omega) (by omega)) ?_
  refine gj_ifB_eq dX8_copy_4 (fun h4 => ?_) (fun h4 => ?_)
  · exact absurd (by omega) h4
  · refine gj_il3 dX8_copy_7 ?_
    refine gj_cS1r dX8_copy_8 mX8_120 hX8_isSheet (by omega) rfl (tX8_isSheet  (by omega) (by omega)) ?_
    refine gj_ifB_ne dX8_copy_11 (fun h11 => ?_) (fun h11 => ?_)
    · refine gj_al0 dX8_copy_17 ?_
      refine gj_get dX8_copy_18 fX8_66 q0 rfl rfl ?_
      refine gj_il1 dX8_copy_21 ?_
      refine gj_aald dX8_copy_22 q23 rfl rfl (by omega) s2 ?_
      refine gj_as6 dX8_copy_23 rfl rfl ?_
      refine gj_al0 dX8_copy_25 ?_
      refine gj_get dX8_copy_26 fX8_66 q0 rfl rfl ?_
      refine gj_il3 dX8_copy_29 ?_
      refine gj_aald dX8_copy_30 q23 rfl rfl (by omega) s3 ?_
      refine gj_as7 dX8_copy_31 rfl rfl ?_
      refine gj_al6 dX8_copy_33 ?_
      refine gj_get dX8_copy_35 fX8_123 q28 rfl rfl ?_
      refine gj_if_ne dX8_copy_38 (by omega) (fun h38 => ?_) (fun h38 => ?_)
      · have e2 : lo2 = 1 ∧ fm 2 = -1 := d2.resolve_right (fun z => absurd z.1 (by omega))
        refine gj_al0 dX8_copy_49 ?_
        refine gj_iconst dX8_copy_50 ?_
        refine gj_cV1w dX8_copy_51 mX8_127 hX8_found q0 rfl (by omega) rfl (tX8_found  (by omega) q0) (fun w51 P51 => ?_)
        obtain rfl := P51
        exact gj_iret dX8_copy_54 rfl (Or.inr (Or.inr (Or.inr (Or.inl ⟨⟨by omega, by omega⟩, Or.inl e2.2, rfl, ⟨⟨upw_s, ⟨_, _, _, _, _, _, ⟨(upw_o (by decide) q1), (upw_o (by decide) q2), (upw_o (by decide) q3), (upw_o (by decide) q4), (upw_o (by decide) q5), (upw_o (by decide) q6)⟩, hRd⟩, ⟨_, ⟨(upw_o (by decide) q9), (upw_o (by decide) q10), (upw_o (by decide) q11)⟩, ⟨(upw_o (by decide) q7), (upw_o (by decide) q8)⟩, hO⟩, ⟨_, _, _, (upw_o (by decide) q12), (upw_o (by decide) q13), (upw_o (by decide) q14)⟩, ⟨_, (upw_o (by decide) q15)⟩, hbm, ⟨_, _, _, B, _, _, (upw_o (by decide) q16), (upw_o (by decide) q17), (upw_o (by decide) q18)⟩, ⟨⟨(upw_o (by decide) q19), (upw_o (by decide) q20), (upw_o (by decide) q21), (upw_o (by decide) q22)⟩, hMm⟩, ⟨⟨_, (upw_o (by decide) q23), s0, s1, s2, s3⟩, ⟨_, _, _, _, (upw_o (by decide) q24), (upw_o (by decide) q25), r0, d0⟩, ⟨_, _, _, _, (upw_o (by decide) q26), (upw_o (by decide) q27), r1, d1⟩, ⟨_, _, _, _, (upw_o (by decide) q28), (upw_o (by decide) q29), r2, d2⟩, ⟨_, _, _, _, (upw_o (by decide) q30), (upw_o (by decide) q31), r3, d3⟩⟩⟩, (fun k hk => upw_o (by omega) ((fun (k : Nat) (_ : 32 ≤ k) => rfl) k hk))⟩⟩))))
      · obtain ⟨e2, y2, m2, n2, t2, v2⟩ : lo2 = 0 ∧ fm 2 = fo2 ∧ (0 ≤ fo2 ∧ fo2 ≤ 2) ∧ ln 2 = le2 ∧ (0 ≤ le2 ∧ le2 ≤ 60) ∧ ∀ j : Int, 0 ≤ j → j < le2 → g2 j = it 2 j ∧ R32 (g2 j) := d2.resolve_left (fun z => absurd z.1 (by omega))
        refine gj_al7 dX8_copy_41 ?_
        refine gj_get dX8_copy_43 fX8_123 q30 rfl rfl ?_
        refine gj_if_eq dX8_copy_46 (by omega) (fun h46 => ?_) (fun h46 => ?_)
        · obtain ⟨e3, y3, m3, n3, t3, v3⟩ : lo3 = 0 ∧ fm 3 = fo3 ∧ (0 ≤ fo3 ∧ fo3 ≤ 2) ∧ ln 3 = le3 ∧ (0 ≤ le3 ∧ le3 ≤ 60) ∧ ∀ j : Int, 0 ≤ j → j < le3 → g3 j = it 3 j ∧ R32 (g3 j) := d3.resolve_left (fun z => absurd z.1 (by omega))
          refine gj_al6 dX8_copy_55 ?_
          refine gj_get dX8_copy_57 fX8_261 q28 rfl rfl ?_
          refine gj_al7 dX8_copy_60 ?_
          refine gj_get dX8_copy_62 fX8_261 q30 rfl rfl ?_
          refine gj_icmp_eq dX8_copy_65 (by omega) (fun h65 => ?_) (fun h65 => ?_)
          · refine gj_al6 dX8_copy_74 ?_
            refine gj_il2 dX8_copy_76 ?_
            refine gj_il5 dX8_copy_77 ?_
            refine gj_cV2r dX8_copy_79 mX8_264 hX7_holdsRun q28 rfl (by omega) rfl (tX7_holdsRun2  (by omega) ⟨q28, q29⟩ (by omega) (by omega) (by omega)) ?_
            refine gj_ifB_eq dX8_copy_82 (fun h82 => ?_) (fun h82 => ?_)
            · refine gj_al0 dX8_copy_97 ?_
              refine gj_iconst dX8_copy_98 ?_
              refine gj_cV1w dX8_copy_99 mX8_127 hX8_found q0 rfl (by omega) rfl (tX8_found  (by omega) q0) (fun w99 P99 => ?_)
              obtain rfl := P99
              exact gj_iret dX8_copy_102 rfl (Or.inr (Or.inl ⟨⟨by omega, by omega⟩, by omega, by omega, by omega, rfl, ⟨⟨upw_s, ⟨_, _, _, _, _, _, ⟨(upw_o (by decide) q1), (upw_o (by decide) q2), (upw_o (by decide) q3), (upw_o (by decide) q4), (upw_o (by decide) q5), (upw_o (by decide) q6)⟩, hRd⟩, ⟨_, ⟨(upw_o (by decide) q9), (upw_o (by decide) q10), (upw_o (by decide) q11)⟩, ⟨(upw_o (by decide) q7), (upw_o (by decide) q8)⟩, hO⟩, ⟨_, _, _, (upw_o (by decide) q12), (upw_o (by decide) q13), (upw_o (by decide) q14)⟩, ⟨_, (upw_o (by decide) q15)⟩, hbm, ⟨_, _, _, B, _, _, (upw_o (by decide) q16), (upw_o (by decide) q17), (upw_o (by decide) q18)⟩, ⟨⟨(upw_o (by decide) q19), (upw_o (by decide) q20), (upw_o (by decide) q21), (upw_o (by decide) q22)⟩, hMm⟩, ⟨⟨_, (upw_o (by decide) q23), s0, s1, s2, s3⟩, ⟨_, _, _, _, (upw_o (by decide) q24), (upw_o (by decide) q25), r0, d0⟩, ⟨_, _, _, _, (upw_o (by decide) q26), (upw_o (by decide) q27), r1, d1⟩, ⟨_, _, _, _, (upw_o (by decide) q28), (upw_o (by decide) q29), r2, d2⟩, ⟨_, _, _, _, (upw_o (by decide) q30), (upw_o (by decide) q31), r3, d3⟩⟩⟩, (fun k hk => upw_o (by omega) ((fun (k : Nat) (_ : 32 ≤ k) => rfl) k hk))⟩⟩))
            · refine gj_al7 dX8_copy_85 ?_
              refine gj_il4 dX8_copy_87 ?_
              refine gj_il5 dX8_copy_89 ?_
              refine gj_cV2r dX8_copy_91 mX8_264 hX7_holdsRun q30 rfl (by omega) rfl (tX7_holdsRun3  (by omega) ⟨q30, q31⟩ (by omega) (by omega) (by omega)) ?_
              refine gj_ifB_ne dX8_copy_94 (fun h94 => ?_) (fun h94 => ?_)
              · refine gj_al6 dX8_copy_103 ?_
                refine gj_get dX8_copy_105 fX8_138 q28 rfl rfl ?_
                refine gj_il2 dX8_copy_108 ?_
                refine gj_al7 dX8_copy_109 ?_
                refine gj_get dX8_copy_111 fX8_138 q30 rfl rfl ?_
                refine gj_il4 dX8_copy_114 ?_
                refine gj_il5 dX8_copy_116 ?_
                refine gj_acopy dX8_copy_118 mX8_267 (by omega) rfl q29 rfl q31 rfl ⟨rfl, rfl⟩ (by omega) ?_
                refine gj_iconst dX8_copy_121 ?_
                exact gj_iret dX8_copy_122 rfl (Or.inl ⟨⟨by omega, by omega⟩, by omega, by omega, by omega, rfl, ⟨⟨(upw_o (by decide) q0), ⟨_, _, _, _, _, _, ⟨(upw_o (by decide) q1), (upw_o (by decide) q2), (upw_o (by decide) q3), (upw_o (by decide) q4), (upw_o (by decide) q5), (upw_o (by decide) q6)⟩, hRd⟩, ⟨_, ⟨(upw_o (by decide) q9), (upw_o (by decide) q10), (upw_o (by decide) q11)⟩, ⟨(upw_o (by decide) q7), (upw_o (by decide) q8)⟩, hO⟩, ⟨_, _, _, (upw_o (by decide) q12), (upw_o (by decide) q13), (upw_o (by decide) q14)⟩, ⟨_, (upw_o (by decide) q15)⟩, hbm, ⟨_, _, _, B, _, _, (upw_o (by decide) q16), (upw_o (by decide) q17), (upw_o (by decide) q18)⟩, ⟨⟨(upw_o (by decide) q19), (upw_o (by decide) q20), (upw_o (by decide) q21), (upw_o (by decide) q22)⟩, hMm⟩, ⟨⟨_, (upw_o (by decide) q23), s0, s1, s2, s3⟩, ⟨_, _, _, _, (upw_o (by decide) q24), (upw_o (by decide) q25), r0, d0⟩, ⟨_, _, _, _, (upw_o (by decide) q26), (upw_o (by decide) q27), r1, d1⟩, ⟨_, _, _, _, (upw_o (by decide) q28), (upw_o (by decide) q29), r2, d2⟩, ⟨_, _, _, _, (upw_o (by decide) q30), upw_s, r3, Or.inr ⟨e3, y3, m3, n3, t3, fun q g8 g9 => by
                            show cpf g2 g3 i j cn q = cpf (it 2) (it 3) i j cn q ∧ R32 (cpf g2 g3 i j cn q)
                            unfold cpf
                            by_cases z : j ≤ q ∧ q < j + cn
                            · rw [if_pos z, if_pos z]; exact v2 _ (by omega) (by omega)
                            · rw [if_neg z, if_neg z]; exact v3 q g8 g9⟩⟩⟩⟩, (fun k hk => upw_o (by omega) ((fun (k : Nat) (_ : 32 ≤ k) => rfl) k hk))⟩⟩)
              · refine gj_al0 dX8_copy_97 ?_
                refine gj_iconst dX8_copy_98 ?_
                refine gj_cV1w dX8_copy_99 mX8_127 hX8_found q0 rfl (by omega) rfl (tX8_found  (by omega) q0) (fun w99 P99 => ?_)
                obtain rfl := P99
                exact gj_iret dX8_copy_102 rfl (Or.inr (Or.inl ⟨⟨by omega, by omega⟩, by omega, by omega, by omega, rfl, ⟨⟨upw_s, ⟨_, _, _, _, _, _, ⟨(upw_o (by decide) q1), (upw_o (by decide) q2), (upw_o (by decide) q3), (upw_o (by decide) q4), (upw_o (by decide) q5), (upw_o (by decide) q6)⟩, hRd⟩, ⟨_, ⟨(upw_o (by decide) q9), (upw_o (by decide) q10), (upw_o (by decide) q11)⟩, ⟨(upw_o (by decide) q7), (upw_o (by decide) q8)⟩, hO⟩, ⟨_, _, _, (upw_o (by decide) q12), (upw_o (by decide) q13), (upw_o (by decide) q14)⟩, ⟨_, (upw_o (by decide) q15)⟩, hbm, ⟨_, _, _, B, _, _, (upw_o (by decide) q16), (upw_o (by decide) q17), (upw_o (by decide) q18)⟩, ⟨⟨(upw_o (by decide) q19), (upw_o (by decide) q20), (upw_o (by decide) q21), (upw_o (by decide) q22)⟩, hMm⟩, ⟨⟨_, (upw_o (by decide) q23), s0, s1, s2, s3⟩, ⟨_, _, _, _, (upw_o (by decide) q24), (upw_o (by decide) q25), r0, d0⟩, ⟨_, _, _, _, (upw_o (by decide) q26), (upw_o (by decide) q27), r1, d1⟩, ⟨_, _, _, _, (upw_o (by decide) q28), (upw_o (by decide) q29), r2, d2⟩, ⟨_, _, _, _, (upw_o (by decide) q30), (upw_o (by decide) q31), r3, d3⟩⟩⟩, (fun k hk => upw_o (by omega) ((fun (k : Nat) (_ : 32 ≤ k) => rfl) k hk))⟩⟩))
          · refine gj_al0 dX8_copy_68 ?_
            refine gj_iconst dX8_copy_69 ?_
            refine gj_cV1w dX8_copy_70 mX8_127 hX8_found q0 rfl (by omega) rfl (tX8_found  (by omega) q0) (fun w70 P70 => ?_)
            obtain rfl := P70
            exact gj_iret dX8_copy_73 rfl (Or.inr (Or.inr (Or.inl ⟨⟨by omega, by omega⟩, by omega, by omega, rfl, ⟨⟨upw_s, ⟨_, _, _, _, _, _, ⟨(upw_o (by decide) q1), (upw_o (by decide) q2), (upw_o (by decide) q3), (upw_o (by decide) q4), (upw_o (by decide) q5), (upw_o (by decide) q6)⟩, hRd⟩, ⟨_, ⟨(upw_o (by decide) q9), (upw_o (by decide) q10), (upw_o (by decide) q11)⟩, ⟨(upw_o (by decide) q7), (upw_o (by decide) q8)⟩, hO⟩, ⟨_, _, _, (upw_o (by decide) q12), (upw_o (by decide) q13), (upw_o (by decide) q14)⟩, ⟨_, (upw_o (by decide) q15)⟩, hbm, ⟨_, _, _, B, _, _, (upw_o (by decide) q16), (upw_o (by decide) q17), (upw_o (by decide) q18)⟩, ⟨⟨(upw_o (by decide) q19), (upw_o (by decide) q20), (upw_o (by decide) q21), (upw_o (by decide) q22)⟩, hMm⟩, ⟨⟨_, (upw_o (by decide) q23), s0, s1, s2, s3⟩, ⟨_, _, _, _, (upw_o (by decide) q24), (upw_o (by decide) q25), r0, d0⟩, ⟨_, _, _, _, (upw_o (by decide) q26), (upw_o (by decide) q27), r1, d1⟩, ⟨_, _, _, _, (upw_o (by decide) q28), (upw_o (by decide) q29), r2, d2⟩, ⟨_, _, _, _, (upw_o (by decide) q30), (upw_o (by decide) q31), r3, d3⟩⟩⟩, (fun k hk => upw_o (by omega) ((fun (k : Nat) (_ : 32 ≤ k) => rfl) k hk))⟩⟩)))
        · have et : lo3 = 1 ∧ fm 3 = -1 := d3.resolve_right (fun z => absurd z.1 (by omega))
          refine gj_al0 dX8_copy_49 ?_
          refine gj_iconst dX8_copy_50 ?_
          refine gj_cV1w dX8_copy_51 mX8_127 hX8_found q0 rfl (by omega) rfl (tX8_found  (by omega) q0) (fun w51 P51 => ?_)
          obtain rfl := P51
          exact gj_iret dX8_copy_54 rfl (Or.inr (Or.inr (Or.inr (Or.inl ⟨⟨by omega, by omega⟩, Or.inr et.2, rfl, ⟨⟨upw_s, ⟨_, _, _, _, _, _, ⟨(upw_o (by decide) q1), (upw_o (by decide) q2), (upw_o (by decide) q3), (upw_o (by decide) q4), (upw_o (by decide) q5), (upw_o (by decide) q6)⟩, hRd⟩, ⟨_, ⟨(upw_o (by decide) q9), (upw_o (by decide) q10), (upw_o (by decide) q11)⟩, ⟨(upw_o (by decide) q7), (upw_o (by decide) q8)⟩, hO⟩, ⟨_, _, _, (upw_o (by decide) q12), (upw_o (by decide) q13), (upw_o (by decide) q14)⟩, ⟨_, (upw_o (by decide) q15)⟩, hbm, ⟨_, _, _, B, _, _, (upw_o (by decide) q16), (upw_o (by decide) q17), (upw_o (by decide) q18)⟩, ⟨⟨(upw_o (by decide) q19), (upw_o (by decide) q20), (upw_o (by decide) q21), (upw_o (by decide) q22)⟩, hMm⟩, ⟨⟨_, (upw_o (by decide) q23), s0, s1, s2, s3⟩, ⟨_, _, _, _, (upw_o (by decide) q24), (upw_o (by decide) q25), r0, d0⟩, ⟨_, _, _, _, (upw_o (by decide) q26), (upw_o (by decide) q27), r1, d1⟩, ⟨_, _, _, _, (upw_o (by decide) q28), (upw_o (by decide) q29), r2, d2⟩, ⟨_, _, _, _, (upw_o (by decide) q30), (upw_o (by decide) q31), r3, d3⟩⟩⟩, (fun k hk => upw_o (by omega) ((fun (k : Nat) (_ : 32 ≤ k) => rfl) k hk))⟩⟩))))
    · exact absurd (by omega) h11
set_option maxRecDepth 20000 in
set_option maxHeartbeats 4000000 in
theorem tCopy30 {l : Launch} {x : Cx} {d : Nat} {w : AW} {tx : Int → Int} {by0 : Int} {ru fa fe : Int → Int} {fc lw br me : Int} {mh ml mw : Int → Int} {mn fi : Int} {fm ln : Int → Int} {it : Int → Int → Int} {i j cn : Int} (hd : 2 ≤ d) (hC : ClassC w tx by0 ru fa fe fc lw br me mh ml mw mn fi fm ln it) (hi : R32 i) (hj : R32 j) (hcn : R32 cn) : Mt l x iX8_copy d 0 0 50 w [vR 0, vI 3, vI i, vI 0, vI j, vI cn] (fun v2 w2 => (((0 ≤ (3 : Int) ∧ (3 : Int) ≤ 3) ∧ (0 ≤ (0 : Int) ∧ (0 : Int) ≤ 3)) ∧ ¬ (fm (3 : Int) = -1 ∨ fm (0 : Int) = -1) ∧ fm (3 : Int) = fm (0 : Int) ∧ (0 ≤ i ∧ 0 ≤ cn ∧ i ≤ ln (3 : Int) ∧ cn ≤ ln (3 : Int) - i ∧ 0 ≤ j ∧ j ≤ ln (0 : Int) ∧ cn ≤ ln (0 : Int) - j) ∧ v2 = some (vI 1) ∧ ClassC w2 tx by0 ru fa fe fc lw br me mh ml mw mn fi fm ln (upi it (0 : Int) (cpf (it (3 : Int)) (it (0 : Int)) i j cn)) ∧ ∀ k : Nat, 32 ≤ k → w2 k = w k) ∨ (((0 ≤ (3 : Int) ∧ (3 : Int) ≤ 3) ∧ (0 ≤ (0 : Int) ∧ (0 : Int) ≤ 3)) ∧ ¬ (fm (3 : Int) = -1 ∨ fm (0 : Int) = -1) ∧ fm (3 : Int) = fm (0 : Int) ∧ ¬ (0 ≤ i ∧ 0 ≤ cn ∧ i ≤ ln (3 : Int) ∧ cn ≤ ln (3 : Int) - i ∧ 0 ≤ j ∧ j ≤ ln (0 : Int) ∧ cn ≤ ln (0 : Int) - j) ∧ v2 = some (vI (-12)) ∧ ClassC w2 tx by0 ru fa fe fc lw br me mh ml mw mn 2 fm ln it ∧ ∀ k : Nat, 32 ≤ k → w2 k = w k) ∨ (((0 ≤ (3 : Int) ∧ (3 : Int) ≤ 3) ∧ (0 ≤ (0 : Int) ∧ (0 : Int) ≤ 3)) ∧ ¬ (fm (3 : Int) = -1 ∨ fm (0 : Int) = -1) ∧ fm (3 : Int) ≠ fm (0 : Int) ∧ v2 = some (vI (-14)) ∧ ClassC w2 tx by0 ru fa fe fc lw br me mh ml mw mn 4 fm ln it ∧ ∀ k : Nat, 32 ≤ k → w2 k = w k) ∨ (((0 ≤ (3 : Int) ∧ (3 : Int) ≤ 3) ∧ (0 ≤ (0 : Int) ∧ (0 : Int) ≤ 3)) ∧ (fm (3 : Int) = -1 ∨ fm (0 : Int) = -1) ∧ v2 = some (vI (-11)) ∧ ClassC w2 tx by0 ru fa fe fc lw br me mh ml mw mn 1 fm ln it ∧ ∀ k : Nat, 32 ≤ k → w2 k = w k) ∨ (¬ ((0 ≤ (3 : Int) ∧ (3 : Int) ≤ 3) ∧ (0 ≤ (0 : Int) ∧ (0 : Int) ≤ 3)) ∧ v2 = some (vI (-2)) ∧ w2 = w)) := by
  have hC0 := hC
  obtain ⟨q0, ⟨on, ot, ho, wy, nu, fl, ⟨q1, q2, q3, q4, q5, q6⟩, hRd⟩, ⟨fd, ⟨q9, q10, q11⟩, ⟨q7, q8⟩, hO⟩, ⟨la, be, ne, q12, q13, q14⟩, ⟨sl, q15⟩, hbm, ⟨go, st, bn, B, ra, rb, q16, q17, q18⟩, ⟨⟨q19, q20, q21, q22⟩, hMm⟩, hSh⟩ := hC
  have hW : WarC w fa (warB lw fa ru fe fc) := ⟨fe, ru, fc, fd, lw, ⟨q9, q10, q11⟩, ⟨q7, q8⟩, hO, rfl⟩
  have hE := hRd.ed
  have hM := hRd.mat
  obtain ⟨⟨sf, q23, s0, s1, s2, s3⟩, ⟨fo0, le0, lo0, g0, q24, q25, r0, d0⟩, ⟨fo1, le1, lo1, g1, q26, q27, r1, d1⟩, ⟨fo2, le2, lo2, g2, q28, q29, r2, d2⟩, ⟨fo3, le3, lo3, g3, q30, q31, r3, d3⟩⟩ := hSh
  refine Mt.of (L0 := [some (vR 0), some (vI 3), some (vI i), some (vI 0), some (vI j), some (vI cn), none, none]) rfl rfl rfl ?_
  refine gj_il1 dX8_copy_0 ?_
  refine gj_cS1r dX8_copy_1 mX8_120 hX8_isSheet (by omega) rfl (tX8_isSheet  (by omega) (by omega)) ?_
  refine gj_ifB_eq dX8_copy_4 (fun h4 => ?_) (fun h4 => ?_)
  · exact absurd (by omega) h4
  · refine gj_il3 dX8_copy_7 ?_
    refine gj_cS1r dX8_copy_8 mX8_120 hX8_isSheet (by omega) rfl (tX8_isSheet  (by omega) (by omega)) ?_
    refine gj_ifB_ne dX8_copy_11 (fun h11 => ?_) (fun h11 => ?_)
    · refine gj_al0 dX8_copy_17 ?_
      refine gj_get dX8_copy_18 fX8_66 q0 rfl rfl ?_
      refine gj_il1 dX8_copy_21 ?_
      refine gj_aald dX8_copy_22 q23 rfl rfl (by omega) s3 ?_
      refine gj_as6 dX8_copy_23 rfl rfl ?_
      refine gj_al0 dX8_copy_25 ?_
      refine gj_get dX8_copy_26 fX8_66 q0 rfl rfl ?_
      refine gj_il3 dX8_copy_29 ?_
      refine gj_aald dX8_copy_30 q23 rfl rfl (by omega) s0 ?_
      refine gj_as7 dX8_copy_31 rfl rfl ?_
      refine gj_al6 dX8_copy_33 ?_
      refine gj_get dX8_copy_35 fX8_123 q30 rfl rfl ?_
      refine gj_if_ne dX8_copy_38 (by omega) (fun h38 => ?_) (fun h38 => ?_)
      · have e3 : lo3 = 1 ∧ fm 3 = -1 := d3.resolve_right (fun z => absurd z.1 (by omega))
        refine gj_al0 dX8_copy_49 ?_
        refine gj_iconst dX8_copy_50 ?_
        refine gj_cV1w dX8_copy_51 mX8_127 hX8_found q0 rfl (by omega) rfl (tX8_found  (by omega) q0) (fun w51 P51 => ?_)
        obtain rfl := P51
        exact gj_iret dX8_copy_54 rfl (Or.inr (Or.inr (Or.inr (Or.inl ⟨⟨by omega, by omega⟩, Or.inl e3.2, rfl, ⟨⟨upw_s, ⟨_, _, _, _, _, _, ⟨(upw_o (by decide) q1), (upw_o (by decide) q2), (upw_o (by decide) q3), (upw_o (by decide) q4), (upw_o (by decide) q5), (upw_o (by decide) q6)⟩, hRd⟩, ⟨_, ⟨(upw_o (by decide) q9), (upw_o (by decide) q10), (upw_o (by decide) q11)⟩, ⟨(upw_o (by decide) q7), (upw_o (by decide) q8)⟩, hO⟩, ⟨_, _, _, (upw_o (by decide) q12), (upw_o (by decide) q13), (upw_o (by decide) q14)⟩, ⟨_, (upw_o (by decide) q15)⟩, hbm, ⟨_, _, _, B, _, _, (upw_o (by decide) q16), (upw_o (by decide) q17), (upw_o (by decide) q18)⟩, ⟨⟨(upw_o (by decide) q19), (upw_o (by decide) q20), (upw_o (by decide) q21), (upw_o (by decide) q22)⟩, hMm⟩, ⟨⟨_, (upw_o (by decide) q23), s0, s1, s2, s3⟩, ⟨_, _, _, _, (upw_o (by decide) q24), (upw_o (by decide) q25), r0, d0⟩, ⟨_, _, _, _, (upw_o (by decide) q26), (upw_o (by decide) q27), r1, d1⟩, ⟨_, _, _, _, (upw_o (by decide) q28), (upw_o (by decide) q29), r2, d2⟩, ⟨_, _, _, _, (upw_o (by decide) q30), (upw_o (by decide) q31), r3, d3⟩⟩⟩, (fun k hk => upw_o (by omega) ((fun (k : Nat) (_ : 32 ≤ k) => rfl) k hk))⟩⟩))))
      · obtain ⟨e3, y3, m3, n3, t3, v3⟩ : lo3 = 0 ∧ fm 3 = fo3 ∧ (0 ≤ fo3 ∧ fo3 ≤ 2) ∧ ln 3 = le3 ∧ (0 ≤ le3 ∧ le3 ≤ 60) ∧ ∀ j : Int, 0 ≤ j → j < le3 → g3 j = it 3 j ∧ R32 (g3 j) := d3.resolve_left (fun z => absurd z.1 (by omega))
        refine gj_al7 dX8_copy_41 ?_
        refine gj_get dX8_copy_43 fX8_123 q24 rfl rfl ?_
        refine gj_if_eq dX8_copy_46 (by omega) (fun h46 => ?_) (fun h46 => ?_)
        · obtain ⟨e0, y0, m0, n0, t0, v0⟩ : lo0 = 0 ∧ fm 0 = fo0 ∧ (0 ≤ fo0 ∧ fo0 ≤ 2) ∧ ln 0 = le0 ∧ (0 ≤ le0 ∧ le0 ≤ 60) ∧ ∀ j : Int, 0 ≤ j → j < le0 → g0 j = it 0 j ∧ R32 (g0 j) := d0.resolve_left (fun z => absurd z.1 (by omega))
          refine gj_al6 dX8_copy_55 ?_
          refine gj_get dX8_copy_57 fX8_261 q30 rfl rfl ?_
          refine gj_al7 dX8_copy_60 ?_
          refine gj_get dX8_copy_62 fX8_261 q24 rfl rfl ?_
          refine gj_icmp_eq dX8_copy_65 (by omega) (fun h65 => ?_) (fun h65 => ?_)
          · refine gj_al6 dX8_copy_74 ?_
            refine gj_il2 dX8_copy_76 ?_
            refine gj_il5 dX8_copy_77 ?_
            refine gj_cV2r dX8_copy_79 mX8_264 hX7_holdsRun q30 rfl (by omega) rfl (tX7_holdsRun3  (by omega) ⟨q30, q31⟩ (by omega) (by omega) (by omega)) ?_
            refine gj_ifB_eq dX8_copy_82 (fun h82 => ?_) (fun h82 => ?_)
            · refine gj_al0 dX8_copy_97 ?_
              refine gj_iconst dX8_copy_98 ?_
              refine gj_cV1w dX8_copy_99 mX8_127 hX8_found q0 rfl (by omega) rfl (tX8_found  (by omega) q0) (fun w99 P99 => ?_)
              obtain rfl := P99
              exact gj_iret dX8_copy_102 rfl (Or.inr (Or.inl ⟨⟨by omega, by omega⟩, by omega, by omega, by omega, rfl, ⟨⟨upw_s, ⟨_, _, _, _, _, _, ⟨(upw_o (by decide) q1), (upw_o (by decide) q2), (upw_o (by decide) q3), (upw_o (by decide) q4), (upw_o (by decide) q5), (upw_o (by decide) q6)⟩, hRd⟩, ⟨_, ⟨(upw_o (by decide) q9), (upw_o (by decide) q10), (upw_o (by decide) q11)⟩, ⟨(upw_o (by decide) q7), (upw_o (by decide) q8)⟩, hO⟩, ⟨_, _, _, (upw_o (by decide) q12), (upw_o (by decide) q13), (upw_o (by decide) q14)⟩, ⟨_, (upw_o (by decide) q15)⟩, hbm, ⟨_, _, _, B, _, _, (upw_o (by decide) q16), (upw_o (by decide) q17), (upw_o (by decide) q18)⟩, ⟨⟨(upw_o (by decide) q19), (upw_o (by decide) q20), (upw_o (by decide) q21), (upw_o (by decide) q22)⟩, hMm⟩, ⟨⟨_, (upw_o (by decide) q23), s0, s1, s2, s3⟩, ⟨_, _, _, _, (upw_o (by decide) q24), (upw_o (by decide) q25), r0, d0⟩, ⟨_, _, _, _, (upw_o (by decide) q26), (upw_o (by decide) q27), r1, d1⟩, ⟨_, _, _, _, (upw_o (by decide) q28), (upw_o (by decide) q29), r2, d2⟩, ⟨_, _, _, _, (upw_o (by decide) q30), (upw_o (by decide) q31), r3, d3⟩⟩⟩, (fun k hk => upw_o (by omega) ((fun (k : Nat) (_ : 32 ≤ k) => rfl) k hk))⟩⟩))
            · refine gj_al7 dX8_copy_85 ?_
              refine gj_il4 dX8_copy_87 ?_
              refine gj_il5 dX8_copy_89 ?_
              refine gj_cV2r dX8_copy_91 mX8_264 hX7_holdsRun q24 rfl (by omega) rfl (tX7_holdsRun0  (by omega) ⟨q24, q25⟩ (by omega) (by omega) (by omega)) ?_
              refine gj_ifB_ne dX8_copy_94 (fun h94 => ?_) (fun h94 => ?_)
              · refine gj_al6 dX8_copy_103 ?_
                refine gj_get dX8_copy_105 fX8_138 q30 rfl rfl ?_
                refine gj_il2 dX8_copy_108 ?_
                refine gj_al7 dX8_copy_109 ?_
                refine gj_get dX8_copy_111 fX8_138 q24 rfl rfl ?_
                refine gj_il4 dX8_copy_114 ?_
                refine gj_il5 dX8_copy_116 ?_
                refine gj_acopy dX8_copy_118 mX8_267 (by omega) rfl q31 rfl q25 rfl ⟨rfl, rfl⟩ (by omega) ?_
                refine gj_iconst dX8_copy_121 ?_
                exact gj_iret dX8_copy_122 rfl (Or.inl ⟨⟨by omega, by omega⟩, by omega, by omega, by omega, rfl, ⟨⟨(upw_o (by decide) q0), ⟨_, _, _, _, _, _, ⟨(upw_o (by decide) q1), (upw_o (by decide) q2), (upw_o (by decide) q3), (upw_o (by decide) q4), (upw_o (by decide) q5), (upw_o (by decide) q6)⟩, hRd⟩, ⟨_, ⟨(upw_o (by decide) q9), (upw_o (by decide) q10), (upw_o (by decide) q11)⟩, ⟨(upw_o (by decide) q7), (upw_o (by decide) q8)⟩, hO⟩, ⟨_, _, _, (upw_o (by decide) q12), (upw_o (by decide) q13), (upw_o (by decide) q14)⟩, ⟨_, (upw_o (by decide) q15)⟩, hbm, ⟨_, _, _, B, _, _, (upw_o (by decide) q16), (upw_o (by decide) q17), (upw_o (by decide) q18)⟩, ⟨⟨(upw_o (by decide) q19), (upw_o (by decide) q20), (upw_o (by decide) q21), (upw_o (by decide) q22)⟩, hMm⟩, ⟨⟨_, (upw_o (by decide) q23), s0, s1, s2, s3⟩, ⟨_, _, _, _, (upw_o (by decide) q24), upw_s, r0, Or.inr ⟨e0, y0, m0, n0, t0, fun q g8 g9 => by
                            show cpf g3 g0 i j cn q = cpf (it 3) (it 0) i j cn q ∧ R32 (cpf g3 g0 i j cn q)
                            unfold cpf
                            by_cases z : j ≤ q ∧ q < j + cn
                            · rw [if_pos z, if_pos z]; exact v3 _ (by omega) (by omega)
                            · rw [if_neg z, if_neg z]; exact v0 q g8 g9⟩⟩, ⟨_, _, _, _, (upw_o (by decide) q26), (upw_o (by decide) q27), r1, d1⟩, ⟨_, _, _, _, (upw_o (by decide) q28), (upw_o (by decide) q29), r2, d2⟩, ⟨_, _, _, _, (upw_o (by decide) q30), (upw_o (by decide) q31), r3, d3⟩⟩⟩, (fun k hk => upw_o (by omega) ((fun (k : Nat) (_ : 32 ≤ k) => rfl) k hk))⟩⟩)
              · refine gj_al0 dX8_copy_97 ?_
                refine gj_iconst dX8_copy_98 ?_
                refine gj_cV1w dX8_copy_99 mX8_127 hX8_found q0 rfl (by omega) rfl (tX8_found  (by omega) q0) (fun w99 P99 => ?_)
                obtain rfl := P99
                exact gj_iret dX8_copy_102 rfl (Or.inr (Or.inl ⟨⟨by omega, by omega⟩, by omega, by omega, by omega, rfl, ⟨⟨upw_s, ⟨_, _, _, _, _, _, ⟨(upw_o (by decide) q1), (upw_o (by decide) q2), (upw_o (by decide) q3), (upw_o (by decide) q4), (upw_o (by decide) q5), (upw_o (by decide) q6)⟩, hRd⟩, ⟨_, ⟨(upw_o (by decide) q9), (upw_o (by decide) q10), (upw_o (by decide) q11)⟩, ⟨(upw_o (by decide) q7), (upw_o (by decide) q8)⟩, hO⟩, ⟨_, _, _, (upw_o (by decide) q12), (upw_o (by decide) q13), (upw_o (by decide) q14)⟩, ⟨_, (upw_o (by decide) q15)⟩, hbm, ⟨_, _, _, B, _, _, (upw_o (by decide) q16), (upw_o (by decide) q17), (upw_o (by decide) q18)⟩, ⟨⟨(upw_o (by decide) q19), (upw_o (by decide) q20), (upw_o (by decide) q21), (upw_o (by decide) q22)⟩, hMm⟩, ⟨⟨_, (upw_o (by decide) q23), s0, s1, s2, s3⟩, ⟨_, _, _, _, (upw_o (by decide) q24), (upw_o (by decide) q25), r0, d0⟩, ⟨_, _, _, _, (upw_o (by decide) q26), (upw_o (by decide) q27), r1, d1⟩, ⟨_, _, _, _, (upw_o (by decide) q28), (upw_o (by decide) q29), r2, d2⟩, ⟨_, _, _, _, (upw_o (by decide) q30), (upw_o (by decide) q31), r3, d3⟩⟩⟩, (fun k hk => upw_o (by omega) ((fun (k : Nat) (_ : 32 ≤ k) => rfl) k hk))⟩⟩))
          · refine gj_al0 dX8_copy_68 ?_
            refine gj_iconst dX8_copy_69 ?_
            refine gj_cV1w dX8_copy_70 mX8_127 hX8_found q0 rfl (by omega) rfl (tX8_found  (by omega) q0) (fun w70 P70 => ?_)
            obtain rfl := P70
            exact gj_iret dX8_copy_73 rfl (Or.inr (Or.inr (Or.inl ⟨⟨by omega, by omega⟩, by omega, by omega, rfl, ⟨⟨upw_s, ⟨_, _, _, _, _, _, ⟨(upw_o (by decide) q1), (upw_o (by decide) q2), (upw_o (by decide) q3), (upw_o (by decide) q4), (upw_o (by decide) q5), (upw_o (by decide) q6)⟩, hRd⟩, ⟨_, ⟨(upw_o (by decide) q9), (upw_o (by decide) q10), (upw_o (by decide) q11)⟩, ⟨(upw_o (by decide) q7), (upw_o (by decide) q8)⟩, hO⟩, ⟨_, _, _, (upw_o (by decide) q12), (upw_o (by decide) q13), (upw_o (by decide) q14)⟩, ⟨_, (upw_o (by decide) q15)⟩, hbm, ⟨_, _, _, B, _, _, (upw_o (by decide) q16), (upw_o (by decide) q17), (upw_o (by decide) q18)⟩, ⟨⟨(upw_o (by decide) q19), (upw_o (by decide) q20), (upw_o (by decide) q21), (upw_o (by decide) q22)⟩, hMm⟩, ⟨⟨_, (upw_o (by decide) q23), s0, s1, s2, s3⟩, ⟨_, _, _, _, (upw_o (by decide) q24), (upw_o (by decide) q25), r0, d0⟩, ⟨_, _, _, _, (upw_o (by decide) q26), (upw_o (by decide) q27), r1, d1⟩, ⟨_, _, _, _, (upw_o (by decide) q28), (upw_o (by decide) q29), r2, d2⟩, ⟨_, _, _, _, (upw_o (by decide) q30), (upw_o (by decide) q31), r3, d3⟩⟩⟩, (fun k hk => upw_o (by omega) ((fun (k : Nat) (_ : 32 ≤ k) => rfl) k hk))⟩⟩)))
        · have et : lo0 = 1 ∧ fm 0 = -1 := d0.resolve_right (fun z => absurd z.1 (by omega))
          refine gj_al0 dX8_copy_49 ?_
          refine gj_iconst dX8_copy_50 ?_
          refine gj_cV1w dX8_copy_51 mX8_127 hX8_found q0 rfl (by omega) rfl (tX8_found  (by omega) q0) (fun w51 P51 => ?_)
          obtain rfl := P51
          exact gj_iret dX8_copy_54 rfl (Or.inr (Or.inr (Or.inr (Or.inl ⟨⟨by omega, by omega⟩, Or.inr et.2, rfl, ⟨⟨upw_s, ⟨_, _, _, _, _, _, ⟨(upw_o (by decide) q1), (upw_o (by decide) q2), (upw_o (by decide) q3), (upw_o (by decide) q4), (upw_o (by decide) q5), (upw_o (by decide) q6)⟩, hRd⟩, ⟨_, ⟨(upw_o (by decide) q9), (upw_o (by decide) q10), (upw_o (by decide) q11)⟩, ⟨(upw_o (by decide) q7), (upw_o (by decide) q8)⟩, hO⟩, ⟨_, _, _, (upw_o (by decide) q12), (upw_o (by decide) q13), (upw_o (by decide) q14)⟩, ⟨_, (upw_o (by decide) q15)⟩, hbm, ⟨_, _, _, B, _, _, (upw_o (by decide) q16), (upw_o (by decide) q17), (upw_o (by decide) q18)⟩, ⟨⟨(upw_o (by decide) q19), (upw_o (by decide) q20), (upw_o (by decide) q21), (upw_o (by decide) q22)⟩, hMm⟩, ⟨⟨_, (upw_o (by decide) q23), s0, s1, s2, s3⟩, ⟨_, _, _, _, (upw_o (by decide) q24), (upw_o (by decide) q25), r0, d0⟩, ⟨_, _, _, _, (upw_o (by decide) q26), (upw_o (by decide) q27), r1, d1⟩, ⟨_, _, _, _, (upw_o (by decide) q28), (upw_o (by decide) q29), r2, d2⟩, ⟨_, _, _, _, (upw_o (by decide) q30), (upw_o (by decide) q31), r3, d3⟩⟩⟩, (fun k hk => upw_o (by omega) ((fun (k : Nat) (_ : 32 ≤ k) => rfl) k hk))⟩⟩))))
    · exact absurd (by omega) h11
set_option maxRecDepth 20000 in
set_option maxHeartbeats 4000000 in
theorem tCopy31 {l : Launch} {x : Cx} {d : Nat} {w : AW} {tx : Int → Int} {by0 : Int} {ru fa fe : Int → Int} {fc lw br me : Int} {mh ml mw : Int → Int} {mn fi : Int} {fm ln : Int → Int} {it : Int → Int → Int} {i j cn : Int} (hd : 2 ≤ d) (hC : ClassC w tx by0 ru fa fe fc lw br me mh ml mw mn fi fm ln it) (hi : R32 i) (hj : R32 j) (hcn : R32 cn) : Mt l x iX8_copy d 0 0 50 w [vR 0, vI 3, vI i, vI 1, vI j, vI cn] (fun v2 w2 => (((0 ≤ (3 : Int) ∧ (3 : Int) ≤ 3) ∧ (0 ≤ (1 : Int) ∧ (1 : Int) ≤ 3)) ∧ ¬ (fm (3 : Int) = -1 ∨ fm (1 : Int) = -1) ∧ fm (3 : Int) = fm (1 : Int) ∧ (0 ≤ i ∧ 0 ≤ cn ∧ i ≤ ln (3 : Int) ∧ cn ≤ ln (3 : Int) - i ∧ 0 ≤ j ∧ j ≤ ln (1 : Int) ∧ cn ≤ ln (1 : Int) - j) ∧ v2 = some (vI 1) ∧ ClassC w2 tx by0 ru fa fe fc lw br me mh ml mw mn fi fm ln (upi it (1 : Int) (cpf (it (3 : Int)) (it (1 : Int)) i j cn)) ∧ ∀ k : Nat, 32 ≤ k → w2 k = w k) ∨ (((0 ≤ (3 : Int) ∧ (3 : Int) ≤ 3) ∧ (0 ≤ (1 : Int) ∧ (1 : Int) ≤ 3)) ∧ ¬ (fm (3 : Int) = -1 ∨ fm (1 : Int) = -1) ∧ fm (3 : Int) = fm (1 : Int) ∧ ¬ (0 ≤ i ∧ 0 ≤ cn ∧ i ≤ ln (3 : Int) ∧ cn ≤ ln (3 : Int) - i ∧ 0 ≤ j ∧ j ≤ ln (1 : Int) ∧ cn ≤ ln (1 : Int) - j) ∧ v2 = some (vI (-12)) ∧ ClassC w2 tx by0 ru fa fe fc lw br me mh ml mw mn 2 fm ln it ∧ ∀ k : Nat, 32 ≤ k → w2 k = w k) ∨ (((0 ≤ (3 : Int) ∧ (3 : Int) ≤ 3) ∧ (0 ≤ (1 : Int) ∧ (1 : Int) ≤ 3)) ∧ ¬ (fm (3 : Int) = -1 ∨ fm (1 : Int) = -1) ∧ fm (3 : Int) ≠ fm (1 : Int) ∧ v2 = some (vI (-14)) ∧ ClassC w2 tx by0 ru fa fe fc lw br me mh ml mw mn 4 fm ln it ∧ ∀ k : Nat, 32 ≤ k → w2 k = w k) ∨ (((0 ≤ (3 : Int) ∧ (3 : Int) ≤ 3) ∧ (0 ≤ (1 : Int) ∧ (1 : Int) ≤ 3)) ∧ (fm (3 : Int) = -1 ∨ fm (1 : Int) = -1) ∧ v2 = some (vI (-11)) ∧ ClassC w2 tx by0 ru fa fe fc lw br me mh ml mw mn 1 fm ln it ∧ ∀ k : Nat, 32 ≤ k → w2 k = w k) ∨ (¬ ((0 ≤ (3 : Int) ∧ (3 : Int) ≤ 3) ∧ (0 ≤ (1 : Int) ∧ (1 : Int) ≤ 3)) ∧ v2 = some (vI (-2)) ∧ w2 = w)) := by
  have hC0 := hC
  obtain ⟨q0, ⟨on, ot, ho, wy, nu, fl, ⟨q1, q2, q3, q4, q5, q6⟩, hRd⟩, ⟨fd, ⟨q9, q10, q11⟩, ⟨q7, q8⟩, hO⟩, ⟨la, be, ne, q12, q13, q14⟩, ⟨sl, q15⟩, hbm, ⟨go, st, bn, B, ra, rb, q16, q17, q18⟩, ⟨⟨q19, q20, q21, q22⟩, hMm⟩, hSh⟩ := hC
  have hW : WarC w fa (warB lw fa ru fe fc) := ⟨fe, ru, fc, fd, lw, ⟨q9, q10, q11⟩, ⟨q7, q8⟩, hO, rfl⟩
  have hE := hRd.ed
  have hM := hRd.mat
  obtain ⟨⟨sf, q23, s0, s1, s2, s3⟩, ⟨fo0, le0, lo0, g0, q24, q25, r0, d0⟩, ⟨fo1, le1, lo1, g1, q26, q27, r1, d1⟩, ⟨fo2, le2, lo2, g2, q28, q29, r2, d2⟩, ⟨fo3, le3, lo3, g3, q30, q31, r3, d3⟩⟩ := hSh
  refine Mt.of (L0 := [some (vR 0), some (vI 3), some (vI i), some (vI 1), some (vI j), some (vI cn), none, none]) rfl rfl rfl ?_
  refine gj_il1 dX8_copy_0 ?_
  refine gj_cS1r dX8_copy_1 mX8_120 hX8_isSheet (by omega) rfl (tX8_isSheet  (by omega) (by omega)) ?_
  refine gj_ifB_eq dX8_copy_4 (fun h4 => ?_) (fun h4 => ?_)
  · exact absurd (by omega) h4
  · refine gj_il3 dX8_copy_7 ?_
    refine gj_cS1r dX8_copy_8 mX8_120 hX8_isSheet (by omega) rfl (tX8_isSheet  (by omega) (by omega)) ?_
    refine gj_ifB_ne dX8_copy_11 (fun h11 => ?_) (fun h11 => ?_)
    · refine gj_al0 dX8_copy_17 ?_
      refine gj_get dX8_copy_18 fX8_66 q0 rfl rfl ?_
      refine gj_il1 dX8_copy_21 ?_
      refine gj_aald dX8_copy_22 q23 rfl rfl (by omega) s3 ?_
      refine gj_as6 dX8_copy_23 rfl rfl ?_
      refine gj_al0 dX8_copy_25 ?_
      refine gj_get dX8_copy_26 fX8_66 q0 rfl rfl ?_
      refine gj_il3 dX8_copy_29 ?_
      refine gj_aald dX8_copy_30 q23 rfl rfl (by omega) s1 ?_
      refine gj_as7 dX8_copy_31 rfl rfl ?_
      refine gj_al6 dX8_copy_33 ?_
      refine gj_get dX8_copy_35 fX8_123 q30 rfl rfl ?_
      refine gj_if_ne dX8_copy_38 (by omega) (fun h38 => ?_) (fun h38 => ?_)
      · have e3 : lo3 = 1 ∧ fm 3 = -1 := d3.resolve_right (fun z => absurd z.1 (by omega))
        refine gj_al0 dX8_copy_49 ?_
        refine gj_iconst dX8_copy_50 ?_
        refine gj_cV1w dX8_copy_51 mX8_127 hX8_found q0 rfl (by omega) rfl (tX8_found  (by omega) q0) (fun w51 P51 => ?_)
        obtain rfl := P51
        exact gj_iret dX8_copy_54 rfl (Or.inr (Or.inr (Or.inr (Or.inl ⟨⟨by omega, by omega⟩, Or.inl e3.2, rfl, ⟨⟨upw_s, ⟨_, _, _, _, _, _, ⟨(upw_o (by decide) q1), (upw_o (by decide) q2), (upw_o (by decide) q3), (upw_o (by decide) q4), (upw_o (by decide) q5), (upw_o (by decide) q6)⟩, hRd⟩, ⟨_, ⟨(upw_o (by decide) q9), (upw_o (by decide) q10), (upw_o (by decide) q11)⟩, ⟨(upw_o (by decide) q7), (upw_o (by decide) q8)⟩, hO⟩, ⟨_, _, _, (upw_o (by decide) q12), (upw_o (by decide) q13), (upw_o (by decide) q14)⟩, ⟨_, (upw_o (by decide) q15)⟩, hbm, ⟨_, _, _, B, _, _, (upw_o (by decide) q16), (upw_o (by decide) q17), (upw_o (by decide) q18)⟩, ⟨⟨(upw_o (by decide) q19), (upw_o (by decide) q20), (upw_o (by decide) q21), (upw_o (by decide) q22)⟩, hMm⟩, ⟨⟨_, (upw_o (by decide) q23), s0, s1, s2, s3⟩, ⟨_, _, _, _, (upw_o (by decide) q24), (upw_o (by decide) q25), r0, d0⟩, ⟨_, _, _, _, (upw_o (by decide) q26), (upw_o (by decide) q27), r1, d1⟩, ⟨_, _, _, _, (upw_o (by decide) q28), (upw_o (by decide) q29), r2, d2⟩, ⟨_, _, _, _, (upw_o (by decide) q30), (upw_o (by decide) q31), r3, d3⟩⟩⟩, (fun k hk => upw_o (by omega) ((fun (k : Nat) (_ : 32 ≤ k) => rfl) k hk))⟩⟩))))
      · obtain ⟨e3, y3, m3, n3, t3, v3⟩ : lo3 = 0 ∧ fm 3 = fo3 ∧ (0 ≤ fo3 ∧ fo3 ≤ 2) ∧ ln 3 = le3 ∧ (0 ≤ le3 ∧ le3 ≤ 60) ∧ ∀ j : Int, 0 ≤ j → j < le3 → g3 j = it 3 j ∧ R32 (g3 j) := d3.resolve_left (fun z => absurd z.1 (by omega))
        refine gj_al7 dX8_copy_41 ?_
        refine gj_get dX8_copy_43 fX8_123 q26 rfl rfl ?_
        refine gj_if_eq dX8_copy_46 (by omega) (fun h46 => ?_) (fun h46 => ?_)
        · obtain ⟨e1, y1, m1, n1, t1, v1⟩ : lo1 = 0 ∧ fm 1 = fo1 ∧ (0 ≤ fo1 ∧ fo1 ≤ 2) ∧ ln 1 = le1 ∧ (0 ≤ le1 ∧ le1 ≤ 60) ∧ ∀ j : Int, 0 ≤ j → j < le1 → g1 j = it 1 j ∧ R32 (g1 j) := d1.resolve_left (fun z => absurd z.1 (by omega))
          refine gj_al6 dX8_copy_55 ?_
          refine gj_get dX8_copy_57 fX8_261 q30 rfl rfl ?_
          refine gj_al7 dX8_copy_60 ?_
          refine gj_get dX8_copy_62 fX8_261 q26 rfl rfl ?_
          refine gj_icmp_eq dX8_copy_65 (by omega) (fun h65 => ?_) (fun h65 => ?_)
          · refine gj_al6 dX8_copy_74 ?_
            refine gj_il2 dX8_copy_76 ?_
            refine gj_il5 dX8_copy_77 ?_
            refine gj_cV2r dX8_copy_79 mX8_264 hX7_holdsRun q30 rfl (by omega) rfl (tX7_holdsRun3  (by omega) ⟨q30, q31⟩ (by omega) (by omega) (by omega)) ?_
            refine gj_ifB_eq dX8_copy_82 (fun h82 => ?_) (fun h82 => ?_)
            · refine gj_al0 dX8_copy_97 ?_
              refine gj_iconst dX8_copy_98 ?_
              refine gj_cV1w dX8_copy_99 mX8_127 hX8_found q0 rfl (by omega) rfl (tX8_found  (by omega) q0) (fun w99 P99 => ?_)
              obtain rfl := P99
              exact gj_iret dX8_copy_102 rfl (Or.inr (Or.inl ⟨⟨by omega, by omega⟩, by omega, by omega, by omega, rfl, ⟨⟨upw_s, ⟨_, _, _, _, _, _, ⟨(upw_o (by decide) q1), (upw_o (by decide) q2), (upw_o (by decide) q3), (upw_o (by decide) q4), (upw_o (by decide) q5), (upw_o (by decide) q6)⟩, hRd⟩, ⟨_, ⟨(upw_o (by decide) q9), (upw_o (by decide) q10), (upw_o (by decide) q11)⟩, ⟨(upw_o (by decide) q7), (upw_o (by decide) q8)⟩, hO⟩, ⟨_, _, _, (upw_o (by decide) q12), (upw_o (by decide) q13), (upw_o (by decide) q14)⟩, ⟨_, (upw_o (by decide) q15)⟩, hbm, ⟨_, _, _, B, _, _, (upw_o (by decide) q16), (upw_o (by decide) q17), (upw_o (by decide) q18)⟩, ⟨⟨(upw_o (by decide) q19), (upw_o (by decide) q20), (upw_o (by decide) q21), (upw_o (by decide) q22)⟩, hMm⟩, ⟨⟨_, (upw_o (by decide) q23), s0, s1, s2, s3⟩, ⟨_, _, _, _, (upw_o (by decide) q24), (upw_o (by decide) q25), r0, d0⟩, ⟨_, _, _, _, (upw_o (by decide) q26), (upw_o (by decide) q27), r1, d1⟩, ⟨_, _, _, _, (upw_o (by decide) q28), (upw_o (by decide) q29), r2, d2⟩, ⟨_, _, _, _, (upw_o (by decide) q30), (upw_o (by decide) q31), r3, d3⟩⟩⟩, (fun k hk => upw_o (by omega) ((fun (k : Nat) (_ : 32 ≤ k) => rfl) k hk))⟩⟩))
            · refine gj_al7 dX8_copy_85 ?_
              refine gj_il4 dX8_copy_87 ?_
              refine gj_il5 dX8_copy_89 ?_
              refine gj_cV2r dX8_copy_91 mX8_264 hX7_holdsRun q26 rfl (by omega) rfl (tX7_holdsRun1  (by omega) ⟨q26, q27⟩ (by omega) (by omega) (by omega)) ?_
              refine gj_ifB_ne dX8_copy_94 (fun h94 => ?_) (fun h94 => ?_)
              · refine gj_al6 dX8_copy_103 ?_
                refine gj_get dX8_copy_105 fX8_138 q30 rfl rfl ?_
                refine gj_il2 dX8_copy_108 ?_
                refine gj_al7 dX8_copy_109 ?_
                refine gj_get dX8_copy_111 fX8_138 q26 rfl rfl ?_
                refine gj_il4 dX8_copy_114 ?_
                refine gj_il5 dX8_copy_116 ?_
                refine gj_acopy dX8_copy_118 mX8_267 (by omega) rfl q31 rfl q27 rfl ⟨rfl, rfl⟩ (by omega) ?_
                refine gj_iconst dX8_copy_121 ?_
                exact gj_iret dX8_copy_122 rfl (Or.inl ⟨⟨by omega, by omega⟩, by omega, by omega, by omega, rfl, ⟨⟨(upw_o (by decide) q0), ⟨_, _, _, _, _, _, ⟨(upw_o (by decide) q1), (upw_o (by decide) q2), (upw_o (by decide) q3), (upw_o (by decide) q4), (upw_o (by decide) q5), (upw_o (by decide) q6)⟩, hRd⟩, ⟨_, ⟨(upw_o (by decide) q9), (upw_o (by decide) q10), (upw_o (by decide) q11)⟩, ⟨(upw_o (by decide) q7), (upw_o (by decide) q8)⟩, hO⟩, ⟨_, _, _, (upw_o (by decide) q12), (upw_o (by decide) q13), (upw_o (by decide) q14)⟩, ⟨_, (upw_o (by decide) q15)⟩, hbm, ⟨_, _, _, B, _, _, (upw_o (by decide) q16), (upw_o (by decide) q17), (upw_o (by decide) q18)⟩, ⟨⟨(upw_o (by decide) q19), (upw_o (by decide) q20), (upw_o (by decide) q21), (upw_o (by decide) q22)⟩, hMm⟩, ⟨⟨_, (upw_o (by decide) q23), s0, s1, s2, s3⟩, ⟨_, _, _, _, (upw_o (by decide) q24), (upw_o (by decide) q25), r0, d0⟩, ⟨_, _, _, _, (upw_o (by decide) q26), upw_s, r1, Or.inr ⟨e1, y1, m1, n1, t1, fun q g8 g9 => by
                            show cpf g3 g1 i j cn q = cpf (it 3) (it 1) i j cn q ∧ R32 (cpf g3 g1 i j cn q)
                            unfold cpf
                            by_cases z : j ≤ q ∧ q < j + cn
                            · rw [if_pos z, if_pos z]; exact v3 _ (by omega) (by omega)
                            · rw [if_neg z, if_neg z]; exact v1 q g8 g9⟩⟩, ⟨_, _, _, _, (upw_o (by decide) q28), (upw_o (by decide) q29), r2, d2⟩, ⟨_, _, _, _, (upw_o (by decide) q30), (upw_o (by decide) q31), r3, d3⟩⟩⟩, (fun k hk => upw_o (by omega) ((fun (k : Nat) (_ : 32 ≤ k) => rfl) k hk))⟩⟩)
              · refine gj_al0 dX8_copy_97 ?_
                refine gj_iconst dX8_copy_98 ?_
                refine gj_cV1w dX8_copy_99 mX8_127 hX8_found q0 rfl (by omega) rfl (tX8_found  (by omega) q0) (fun w99 P99 => ?_)
                obtain rfl := P99
                exact gj_iret dX8_copy_102 rfl (Or.inr (Or.inl ⟨⟨by omega, by omega⟩, by omega, by omega, by omega, rfl, ⟨⟨upw_s, ⟨_, _, _, _, _, _, ⟨(upw_o (by decide) q1), (upw_o (by decide) q2), (upw_o (by decide) q3), (upw_o (by decide) q4), (upw_o (by decide) q5), (upw_o (by decide) q6)⟩, hRd⟩, ⟨_, ⟨(upw_o (by decide) q9), (upw_o (by decide) q10), (upw_o (by decide) q11)⟩, ⟨(upw_o (by decide) q7), (upw_o (by decide) q8)⟩, hO⟩, ⟨_, _, _, (upw_o (by decide) q12), (upw_o (by decide) q13), (upw_o (by decide) q14)⟩, ⟨_, (upw_o (by decide) q15)⟩, hbm, ⟨_, _, _, B, _, _, (upw_o (by decide) q16), (upw_o (by decide) q17), (upw_o (by decide) q18)⟩, ⟨⟨(upw_o (by decide) q19), (upw_o (by decide) q20), (upw_o (by decide) q21), (upw_o (by decide) q22)⟩, hMm⟩, ⟨⟨_, (upw_o (by decide) q23), s0, s1, s2, s3⟩, ⟨_, _, _, _, (upw_o (by decide) q24), (upw_o (by decide) q25), r0, d0⟩, ⟨_, _, _, _, (upw_o (by decide) q26), (upw_o (by decide) q27), r1, d1⟩, ⟨_, _, _, _, (upw_o (by decide) q28), (upw_o (by decide) q29), r2, d2⟩, ⟨_, _, _, _, (upw_o (by decide) q30), (upw_o (by decide) q31), r3, d3⟩⟩⟩, (fun k hk => upw_o (by omega) ((fun (k : Nat) (_ : 32 ≤ k) => rfl) k hk))⟩⟩))
          · refine gj_al0 dX8_copy_68 ?_
            refine gj_iconst dX8_copy_69 ?_
            refine gj_cV1w dX8_copy_70 mX8_127 hX8_found q0 rfl (by omega) rfl (tX8_found  (by omega) q0) (fun w70 P70 => ?_)
            obtain rfl := P70
            exact gj_iret dX8_copy_73 rfl (Or.inr (Or.inr (Or.inl ⟨⟨by omega, by omega⟩, by omega, by omega, rfl, ⟨⟨upw_s, ⟨_, _, _, _, _, _, ⟨(upw_o (by decide) q1), (upw_o (by decide) q2), (upw_o (by decide) q3), (upw_o (by decide) q4), (upw_o (by decide) q5), (upw_o (by decide) q6)⟩, hRd⟩, ⟨_, ⟨(upw_o (by decide) q9), (upw_o (by decide) q10), (upw_o (by decide) q11)⟩, ⟨(upw_o (by decide) q7), (upw_o (by decide) q8)⟩, hO⟩, ⟨_, _, _, (upw_o (by decide) q12), (upw_o (by decide) q13), (upw_o (by decide) q14)⟩, ⟨_, (upw_o (by decide) q15)⟩, hbm, ⟨_, _, _, B, _, _, (upw_o (by decide) q16), (upw_o (by decide) q17), (upw_o (by decide) q18)⟩, ⟨⟨(upw_o (by decide) q19), (upw_o (by decide) q20), (upw_o (by decide) q21), (upw_o (by decide) q22)⟩, hMm⟩, ⟨⟨_, (upw_o (by decide) q23), s0, s1, s2, s3⟩, ⟨_, _, _, _, (upw_o (by decide) q24), (upw_o (by decide) q25), r0, d0⟩, ⟨_, _, _, _, (upw_o (by decide) q26), (upw_o (by decide) q27), r1, d1⟩, ⟨_, _, _, _, (upw_o (by decide) q28), (upw_o (by decide) q29), r2, d2⟩, ⟨_, _, _, _, (upw_o (by decide) q30), (upw_o (by decide) q31), r3, d3⟩⟩⟩, (fun k hk => upw_o (by omega) ((fun (k : Nat) (_ : 32 ≤ k) => rfl) k hk))⟩⟩)))
        · have et : lo1 = 1 ∧ fm 1 = -1 := d1.resolve_right (fun z => absurd z.1 (by omega))
          refine gj_al0 dX8_copy_49 ?_
          refine gj_iconst dX8_copy_50 ?_
          refine gj_cV1w dX8_copy_51 mX8_127 hX8_found q0 rfl (by omega) rfl (tX8_found  (by omega) q0) (fun w51 P51 => ?_)
          obtain rfl := P51
          exact gj_iret dX8_copy_54 rfl (Or.inr (Or.inr (Or.inr (Or.inl ⟨⟨by omega, by omega⟩, Or.inr et.2, rfl, ⟨⟨upw_s, ⟨_, _, _, _, _, _, ⟨(upw_o (by decide) q1), (upw_o (by decide) q2), (upw_o (by decide) q3), (upw_o (by decide) q4), (upw_o (by decide) q5), (upw_o (by decide) q6)⟩, hRd⟩, ⟨_, ⟨(upw_o (by decide) q9), (upw_o (by decide) q10), (upw_o (by decide) q11)⟩, ⟨(upw_o (by decide) q7), (upw_o (by decide) q8)⟩, hO⟩, ⟨_, _, _, (upw_o (by decide) q12), (upw_o (by decide) q13), (upw_o (by decide) q14)⟩, ⟨_, (upw_o (by decide) q15)⟩, hbm, ⟨_, _, _, B, _, _, (upw_o (by decide) q16), (upw_o (by decide) q17), (upw_o (by decide) q18)⟩, ⟨⟨(upw_o (by decide) q19), (upw_o (by decide) q20), (upw_o (by decide) q21), (upw_o (by decide) q22)⟩, hMm⟩, ⟨⟨_, (upw_o (by decide) q23), s0, s1, s2, s3⟩, ⟨_, _, _, _, (upw_o (by decide) q24), (upw_o (by decide) q25), r0, d0⟩, ⟨_, _, _, _, (upw_o (by decide) q26), (upw_o (by decide) q27), r1, d1⟩, ⟨_, _, _, _, (upw_o (by decide) q28), (upw_o (by decide) q29), r2, d2⟩, ⟨_, _, _, _, (upw_o (by decide) q30), (upw_o (by decide) q31), r3, d3⟩⟩⟩, (fun k hk => upw_o (by omega) ((fun (k : Nat) (_ : 32 ≤ k) => rfl) k hk))⟩⟩))))
    · exact absurd (by omega) h11
set_option maxRecDepth 20000 in
set_option maxHeartbeats 4000000 in
theorem tCopy32 {l : Launch} {x : Cx} {d : Nat} {w : AW} {tx : Int → Int} {by0 : Int} {ru fa fe : Int → Int} {fc lw br me : Int} {mh ml mw : Int → Int} {mn fi : Int} {fm ln : Int → Int} {it : Int → Int → Int} {i j cn : Int} (hd : 2 ≤ d) (hC : ClassC w tx by0 ru fa fe fc lw br me mh ml mw mn fi fm ln it) (hi : R32 i) (hj : R32 j) (hcn : R32 cn) : Mt l x iX8_copy d 0 0 50 w [vR 0, vI 3, vI i, vI 2, vI j, vI cn] (fun v2 w2 => (((0 ≤ (3 : Int) ∧ (3 : Int) ≤ 3) ∧ (0 ≤ (2 : Int) ∧ (2 : Int) ≤ 3)) ∧ ¬ (fm (3 : Int) = -1 ∨ fm (2 : Int) = -1) ∧ fm (3 : Int) = fm (2 : Int) ∧ (0 ≤ i ∧ 0 ≤ cn ∧ i ≤ ln (3 : Int) ∧ cn ≤ ln (3 : Int) - i ∧ 0 ≤ j ∧ j ≤ ln (2 : Int) ∧ cn ≤ ln (2 : Int) - j) ∧ v2 = some (vI 1) ∧ ClassC w2 tx by0 ru fa fe fc lw br me mh ml mw mn fi fm ln (upi it (2 : Int) (cpf (it (3 : Int)) (it (2 : Int)) i j cn)) ∧ ∀ k : Nat, 32 ≤ k → w2 k = w k) ∨ (((0 ≤ (3 : Int) ∧ (3 : Int) ≤ 3) ∧ (0 ≤ (2 : Int) ∧ (2 : Int) ≤ 3)) ∧ ¬ (fm (3 : Int) = -1 ∨ fm (2 : Int) = -1) ∧ fm (3 : Int) = fm (2 : Int) ∧ ¬ (0 ≤ i ∧ 0 ≤ cn ∧ i ≤ ln (3 : Int) ∧ cn ≤ ln (3 : Int) - i ∧ 0 ≤ j ∧ j ≤ ln (2 : Int) ∧ cn ≤ ln (2 : Int) - j) ∧ v2 = some (vI (-12)) ∧ ClassC w2 tx by0 ru fa fe fc lw br me mh ml mw mn 2 fm ln it ∧ ∀ k : Nat, 32 ≤ k → w2 k = w k) ∨ (((0 ≤ (3 : Int) ∧ (3 : Int) ≤ 3) ∧ (0 ≤ (2 : Int) ∧ (2 : Int) ≤ 3)) ∧ ¬ (fm (3 : Int) = -1 ∨ fm (2 : Int) = -1) ∧ fm (3 : Int) ≠ fm (2 : Int) ∧ v2 = some (vI (-14)) ∧ ClassC w2 tx by0 ru fa fe fc lw br me mh ml mw mn 4 fm ln it ∧ ∀ k : Nat, 32 ≤ k → w2 k = w k) ∨ (((0 ≤ (3 : Int) ∧ (3 : Int) ≤ 3) ∧ (0 ≤ (2 : Int) ∧ (2 : Int) ≤ 3)) ∧ (fm (3 : Int) = -1 ∨ fm (2 : Int) = -1) ∧ v2 = some (vI (-11)) ∧ ClassC w2 tx by0 ru fa fe fc lw br me mh ml mw mn 1 fm ln it ∧ ∀ k : Nat, 32 ≤ k → w2 k = w k) ∨ (¬ ((0 ≤ (3 : Int) ∧ (3 : Int) ≤ 3) ∧ (0 ≤ (2 : Int) ∧ (2 : Int) ≤ 3)) ∧ v2 = some (vI (-2)) ∧ w2 = w)) := by
  have hC0 := hC
  obtain ⟨q0, ⟨on, ot, ho, wy, nu, fl, ⟨q1, q2, q3, q4, q5, q6⟩, hRd⟩, ⟨fd, ⟨q9, q10, q11⟩, ⟨q7, q8⟩, hO⟩, ⟨la, be, ne, q12, q13, q14⟩, ⟨sl, q15⟩, hbm, ⟨go, st, bn, B, ra, rb, q16, q17, q18⟩, ⟨⟨q19, q20, q21, q22⟩, hMm⟩, hSh⟩ := hC
  have hW : WarC w fa (warB lw fa ru fe fc) := ⟨fe, ru, fc, fd, lw, ⟨q9, q10, q11⟩, ⟨q7, q8⟩, hO, rfl⟩
  have hE := hRd.ed
  have hM := hRd.mat
  obtain ⟨⟨sf, q23, s0, s1, s2, s3⟩, ⟨fo0, le0, lo0, g0, q24, q25, r0, d0⟩, ⟨fo1, le1, lo1, g1, q26, q27, r1, d1⟩, ⟨fo2, le2, lo2, g2, q28, q29, r2, d2⟩, ⟨fo3, le3, lo3, g3, q30, q31, r3, d3⟩⟩ := hSh
  refine Mt.of (L0 := [some (vR 0), some (vI 3), some (vI i), some (vI 2), some (vI j), some (vI cn), none, none]) rfl rfl rfl ?_
  refine gj_il1 dX8_copy_0 ?_
  refine gj_cS1r dX8_copy_1 mX8_120 hX8_isSheet (by omega) rfl (tX8_isSheet  (by omega) (by omega)) ?_
  refine gj_ifB_eq dX8_copy_4 (fun h4 => ?_) (fun h4 => ?_)
  · exact absurd (by omega) h4
  · refine gj_il3 dX8_copy_7 ?_
    refine gj_cS1r dX8_copy_8 mX8_120 hX8_isSheet (by omega) rfl (tX8_isSheet  (by omega) (by omega)) ?_
    refine gj_ifB_ne dX8_copy_11 (fun h11 => ?_) (fun h11 => ?_)
    · refine gj_al0 dX8_copy_17 ?_
      refine gj_get dX8_copy_18 fX8_66 q0 rfl rfl ?_
      refine gj_il1 dX8_copy_21 ?_
      refine gj_aald dX8_copy_22 q23 rfl rfl (by omega) s3 ?_
      refine gj_as6 dX8_copy_23 rfl rfl ?_
      refine gj_al0 dX8_copy_25 ?_
      refine gj_get dX8_copy_26 fX8_66 q0 rfl rfl ?_
      refine gj_il3 dX8_copy_29 ?_
      refine gj_aald dX8_copy_30 q23 rfl rfl (by omega) s2 ?_
      refine gj_as7 dX8_copy_31 rfl rfl ?_
      refine gj_al6 dX8_copy_33 ?_
      refine gj_get dX8_copy_35 fX8_123 q30 rfl rfl ?_
      refine gj_if_ne dX8_copy_38 (by omega) (fun h38 => ?_) (fun h38 => ?_)
      · have e3 : lo3 = 1 ∧ fm 3 = -1 := d3.resolve_right (fun z => absurd z.1 (by omega))
        refine gj_al0 dX8_copy_49 ?_
        refine gj_iconst dX8_copy_50 ?_
        refine gj_cV1w dX8_copy_51 mX8_127 hX8_found q0 rfl (by omega) rfl (tX8_found  (by omega) q0) (fun w51 P51 => ?_)
        obtain rfl := P51
        exact gj_iret dX8_copy_54 rfl (Or.inr (Or.inr (Or.inr (Or.inl ⟨⟨by omega, by omega⟩, Or.inl e3.2, rfl, ⟨⟨upw_s, ⟨_, _, _, _, _, _, ⟨(upw_o (by decide) q1), (upw_o (by decide) q2), (upw_o (by decide) q3), (upw_o (by decide) q4), (upw_o (by decide) q5), (upw_o (by decide) q6)⟩, hRd⟩, ⟨_, ⟨(upw_o (by decide) q9), (upw_o (by decide) q10), (upw_o (by decide) q11)⟩, ⟨(upw_o (by decide) q7), (upw_o (by decide) q8)⟩, hO⟩, ⟨_, _, _, (upw_o (by decide) q12), (upw_o (by decide) q13), (upw_o (by decide) q14)⟩, ⟨_, (upw_o (by decide) q15)⟩, hbm, ⟨_, _, _, B, _, _, (upw_o (by decide) q16), (upw_o (by decide) q17), (upw_o (by decide) q18)⟩, ⟨⟨(upw_o (by decide) q19), (upw_o (by decide) q20), (upw_o (by decide) q21), (upw_o (by decide) q22)⟩, hMm⟩, ⟨⟨_, (upw_o (by decide) q23), s0, s1, s2, s3⟩, ⟨_, _, _, _, (upw_o (by decide) q24), (upw_o (by decide) q25), r0, d0⟩, ⟨_, _, _, _, (upw_o (by decide) q26), (upw_o (by decide) q27), r1, d1⟩, ⟨_, _, _, _, (upw_o (by decide) q28), (upw_o (by decide) q29), r2, d2⟩, ⟨_, _, _, _, (upw_o (by decide) q30), (upw_o (by decide) q31), r3, d3⟩⟩⟩, (fun k hk => upw_o (by omega) ((fun (k : Nat) (_ : 32 ≤ k) => rfl) k hk))⟩⟩))))
      · obtain ⟨e3, y3, m3, n3, t3, v3⟩ : lo3 = 0 ∧ fm 3 = fo3 ∧ (0 ≤ fo3 ∧ fo3 ≤ 2) ∧ ln 3 = le3 ∧ (0 ≤ le3 ∧ le3 ≤ 60) ∧ ∀ j : Int, 0 ≤ j → j < le3 → g3 j = it 3 j ∧ R32 (g3 j) := d3.resolve_left (fun z => absurd z.1 (by omega))
        refine gj_al7 dX8_copy_41 ?_
        refine gj_get dX8_copy_43 fX8_123 q28 rfl rfl ?_
        refine gj_if_eq dX8_copy_46 (by omega) (fun h46 => ?_) (fun h46 => ?_)
        · obtain ⟨e2, y2, m2, n2, t2, v2⟩ : lo2 = 0 ∧ fm 2 = fo2 ∧ (0 ≤ fo2 ∧ fo2 ≤ 2) ∧ ln 2 = le2 ∧ (0 ≤ le2 ∧ le2 ≤ 60) ∧ ∀ j : Int, 0 ≤ j → j < le2 → g2 j = it 2 j ∧ R32 (g2 j) := d2.resolve_left (fun z => absurd z.1 (by omega))
          refine gj_al6 dX8_copy_55 ?_
          refine gj_get dX8_copy_57 fX8_261 q30 rfl rfl ?_
          refine gj_al7 dX8_copy_60 ?_
          refine gj_get dX8_copy_62 fX8_261 q28 rfl rfl ?_
          refine gj_icmp_eq dX8_copy_65 (by omega) (fun h65 => ?_) (fun h65 => ?_)
          · refine gj_al6 dX8_copy_74 ?_
            refine gj_il2 dX8_copy_76 ?_
            refine gj_il5 dX8_copy_77 ?_
            refine gj_cV2r dX8_copy_79 mX8_264 hX7_holdsRun q30 rfl (by omega) rfl (tX7_holdsRun3  (by omega) ⟨q30, q31⟩ (by omega) (by omega) (by omega)) ?_
            refine gj_ifB_eq dX8_copy_82 (fun h82 => ?_) (fun h82 => ?_)
            · refine gj_al0 dX8_copy_97 ?_
              refine gj_iconst dX8_copy_98 ?_
              refine gj_cV1w dX8_copy_99 mX8_127 hX8_found q0 rfl (by omega) rfl (tX8_found  (by omega) q0) (fun w99 P99 => ?_)
              obtain rfl := P99
              exact gj_iret dX8_copy_102 rfl (Or.inr (Or.inl ⟨⟨by omega, by omega⟩, by omega, by omega, by omega, rfl, ⟨⟨upw_s, ⟨_, _, _, _, _, _, ⟨(upw_o (by decide) q1), (upw_o (by decide) q2), (upw_o (by decide) q3), (upw_o (by decide) q4), (upw_o (by decide) q5), (upw_o (by decide) q6)⟩, hRd⟩, ⟨_, ⟨(upw_o (by decide) q9), (upw_o (by decide) q10), (upw_o (by decide) q11)⟩, ⟨(upw_o (by decide) q7), (upw_o (by decide) q8)⟩, hO⟩, ⟨_, _, _, (upw_o (by decide) q12), (upw_o (by decide) q13), (upw_o (by decide) q14)⟩, ⟨_, (upw_o (by decide) q15)⟩, hbm, ⟨_, _, _, B, _, _, (upw_o (by decide) q16), (upw_o (by decide) q17), (upw_o (by decide) q18)⟩, ⟨⟨(upw_o (by decide) q19), (upw_o (by decide) q20), (upw_o (by decide) q21), (upw_o (by decide) q22)⟩, hMm⟩, ⟨⟨_, (upw_o (by decide) q23), s0, s1, s2, s3⟩, ⟨_, _, _, _, (upw_o (by decide) q24), (upw_o (by decide) q25), r0, d0⟩, ⟨_, _, _, _, (upw_o (by decide) q26), (upw_o (by decide) q27), r1, d1⟩, ⟨_, _, _, _, (upw_o (by decide) q28), (upw_o (by decide) q29), r2, d2⟩, ⟨_, _, _, _, (upw_o (by decide) q30), (upw_o (by decide) q31), r3, d3⟩⟩⟩, (fun k hk => upw_o (by omega) ((fun (k : Nat) (_ : 32 ≤ k) => rfl) k hk))⟩⟩))
            · refine gj_al7 dX8_copy_85 ?_
              refine gj_il4 dX8_copy_87 ?_
              refine gj_il5 dX8_copy_89 ?_
              refine gj_cV2r dX8_copy_91 mX8_264 hX7_holdsRun q28 rfl (by omega) rfl (tX7_holdsRun2  (by omega) ⟨q28, q29⟩ (by omega) (by omega) (by omega)) ?_
              refine gj_ifB_ne dX8_copy_94 (fun h94 => ?_) (fun h94 => ?_)
              · refine gj_al6 dX8_copy_103 ?_
                refine gj_get dX8_copy_105 fX8_138 q30 rfl rfl ?_
                refine gj_il2 dX8_copy_108 ?_
                refine gj_al7 dX8_copy_109 ?_
                refine gj_get dX8_copy_111 fX8_138 q28 rfl rfl ?_
                refine gj_il4 dX8_copy_114 ?_
                refine gj_il5 dX8_copy_116 ?_
                refine gj_acopy dX8_copy_118 mX8_267 (by omega) rfl q31 rfl q29 rfl ⟨rfl, rfl⟩ (by omega) ?_
                refine gj_iconst dX8_copy_121 ?_
                exact gj_iret dX8_copy_122 rfl (Or.inl ⟨⟨by omega, by omega⟩, by omega, by omega, by omega, rfl, ⟨⟨(upw_o (by decide) q0), ⟨_, _, _, _, _, _, ⟨(upw_o (by decide) q1), (upw_o (by decide) q2), (upw_o (by decide) q3), (upw_o (by decide) q4), (upw_o (by decide) q5), (upw_o (by decide) q6)⟩, hRd⟩, ⟨_, ⟨(upw_o (by decide) q9), (upw_o (by decide) q10), (upw_o (by decide) q11)⟩, ⟨(upw_o (by decide) q7), (upw_o (by decide) q8)⟩, hO⟩, ⟨_, _, _, (upw_o (by decide) q12), (upw_o (by decide) q13), (upw_o (by decide) q14)⟩, ⟨_, (upw_o (by decide) q15)⟩, hbm, ⟨_, _, _, B, _, _, (upw_o (by decide) q16), (upw_o (by decide) q17), (upw_o (by decide) q18)⟩, ⟨⟨(upw_o (by decide) q19), (upw_o (by decide) q20), (upw_o (by decide) q21), (upw_o (by decide) q22)⟩, hMm⟩, ⟨⟨_, (upw_o (by decide) q23), s0, s1, s2, s3⟩, ⟨_, _, _, _, (upw_o (by decide) q24), (upw_o (by decide) q25), r0, d0⟩, ⟨_, _, _, _, (upw_o (by decide) q26), (upw_o (by decide) q27), r1, d1⟩, ⟨_, _, _, _, (upw_o (by decide) q28), upw_s, r2, Or.inr ⟨e2, y2, m2, n2, t2, fun q g8 g9 => by
                            show cpf g3 g2 i j cn q = cpf (it 3) (it 2) i j cn q ∧ R32 (cpf g3 g2 i j cn q)
                            unfold cpf
                            by_cases z : j ≤ q ∧ q < j + cn
                            · rw [if_pos z, if_pos z]; exact v3 _ (by omega) (by omega)
                            · rw [if_neg z, if_neg z]; exact v2 q g8 g9⟩⟩, ⟨_, _, _, _, (upw_o (by decide) q30), (upw_o (by decide) q31), r3, d3⟩⟩⟩, (fun k hk => upw_o (by omega) ((fun (k : Nat) (_ : 32 ≤ k) => rfl) k hk))⟩⟩)
              · refine gj_al0 dX8_copy_97 ?_
                refine gj_iconst dX8_copy_98 ?_
                refine gj_cV1w dX8_copy_99 mX8_127 hX8_found q0 rfl (by omega) rfl (tX8_found  (by omega) q0) (fun w99 P99 => ?_)
                obtain rfl := P99
                exact gj_iret dX8_copy_102 rfl (Or.inr (Or.inl ⟨⟨by omega, by omega⟩, by omega, by omega, by omega, rfl, ⟨⟨upw_s, ⟨_, _, _, _, _, _, ⟨(upw_o (by decide) q1), (upw_o (by decide) q2), (upw_o (by decide) q3), (upw_o (by decide) q4), (upw_o (by decide) q5), (upw_o (by decide) q6)⟩, hRd⟩, ⟨_, ⟨(upw_o (by decide) q9), (upw_o (by decide) q10), (upw_o (by decide) q11)⟩, ⟨(upw_o (by decide) q7), (upw_o (by decide) q8)⟩, hO⟩, ⟨_, _, _, (upw_o (by decide) q12), (upw_o (by decide) q13), (upw_o (by decide) q14)⟩, ⟨_, (upw_o (by decide) q15)⟩, hbm, ⟨_, _, _, B, _, _, (upw_o (by decide) q16), (upw_o (by decide) q17), (upw_o (by decide) q18)⟩, ⟨⟨(upw_o (by decide) q19), (upw_o (by decide) q20), (upw_o (by decide) q21), (upw_o (by decide) q22)⟩, hMm⟩, ⟨⟨_, (upw_o (by decide) q23), s0, s1, s2, s3⟩, ⟨_, _, _, _, (upw_o (by decide) q24), (upw_o (by decide) q25), r0, d0⟩, ⟨_, _, _, _, (upw_o (by decide) q26), (upw_o (by decide) q27), r1, d1⟩, ⟨_, _, _, _, (upw_o (by decide) q28), (upw_o (by decide) q29), r2, d2⟩, ⟨_, _, _, _, (upw_o (by decide) q30), (upw_o (by decide) q31), r3, d3⟩⟩⟩, (fun k hk => upw_o (by omega) ((fun (k : Nat) (_ : 32 ≤ k) => rfl) k hk))⟩⟩))
          · refine gj_al0 dX8_copy_68 ?_
            refine gj_iconst dX8_copy_69 ?_
            refine gj_cV1w dX8_copy_70 mX8_127 hX8_found q0 rfl (by omega) rfl (tX8_found  (by omega) q0) (fun w70 P70 => ?_)
            obtain rfl := P70
            exact gj_iret dX8_copy_73 rfl (Or.inr (Or.inr (Or.inl ⟨⟨by omega, by omega⟩, by omega, by omega, rfl, ⟨⟨upw_s, ⟨_, _, _, _, _, _, ⟨(upw_o (by decide) q1), (upw_o (by decide) q2), (upw_o (by decide) q3), (upw_o (by decide) q4), (upw_o (by decide) q5), (upw_o (by decide) q6)⟩, hRd⟩, ⟨_, ⟨(upw_o (by decide) q9), (upw_o (by decide) q10), (upw_o (by decide) q11)⟩, ⟨(upw_o (by decide) q7), (upw_o (by decide) q8)⟩, hO⟩, ⟨_, _, _, (upw_o (by decide) q12), (upw_o (by decide) q13), (upw_o (by decide) q14)⟩, ⟨_, (upw_o (by decide) q15)⟩, hbm, ⟨_, _, _, B, _, _, (upw_o (by decide) q16), (upw_o (by decide) q17), (upw_o (by decide) q18)⟩, ⟨⟨(upw_o (by decide) q19), (upw_o (by decide) q20), (upw_o (by decide) q21), (upw_o (by decide) q22)⟩, hMm⟩, ⟨⟨_, (upw_o (by decide) q23), s0, s1, s2, s3⟩, ⟨_, _, _, _, (upw_o (by decide) q24), (upw_o (by decide) q25), r0, d0⟩, ⟨_, _, _, _, (upw_o (by decide) q26), (upw_o (by decide) q27), r1, d1⟩, ⟨_, _, _, _, (upw_o (by decide) q28), (upw_o (by decide) q29), r2, d2⟩, ⟨_, _, _, _, (upw_o (by decide) q30), (upw_o (by decide) q31), r3, d3⟩⟩⟩, (fun k hk => upw_o (by omega) ((fun (k : Nat) (_ : 32 ≤ k) => rfl) k hk))⟩⟩)))
        · have et : lo2 = 1 ∧ fm 2 = -1 := d2.resolve_right (fun z => absurd z.1 (by omega))
          refine gj_al0 dX8_copy_49 ?_
          refine gj_iconst dX8_copy_50 ?_
          refine gj_cV1w dX8_copy_51 mX8_127 hX8_found q0 rfl (by omega) rfl (tX8_found  (by omega) q0) (fun w51 P51 => ?_)
          obtain rfl := P51
          exact gj_iret dX8_copy_54 rfl (Or.inr (Or.inr (Or.inr (Or.inl ⟨⟨by omega, by omega⟩, Or.inr et.2, rfl, ⟨⟨upw_s, ⟨_, _, _, _, _, _, ⟨(upw_o (by decide) q1), (upw_o (by decide) q2), (upw_o (by decide) q3), (upw_o (by decide) q4), (upw_o (by decide) q5), (upw_o (by decide) q6)⟩, hRd⟩, ⟨_, ⟨(upw_o (by decide) q9), (upw_o (by decide) q10), (upw_o (by decide) q11)⟩, ⟨(upw_o (by decide) q7), (upw_o (by decide) q8)⟩, hO⟩, ⟨_, _, _, (upw_o (by decide) q12), (upw_o (by decide) q13), (upw_o (by decide) q14)⟩, ⟨_, (upw_o (by decide) q15)⟩, hbm, ⟨_, _, _, B, _, _, (upw_o (by decide) q16), (upw_o (by decide) q17), (upw_o (by decide) q18)⟩, ⟨⟨(upw_o (by decide) q19), (upw_o (by decide) q20), (upw_o (by decide) q21), (upw_o (by decide) q22)⟩, hMm⟩, ⟨⟨_, (upw_o (by decide) q23), s0, s1, s2, s3⟩, ⟨_, _, _, _, (upw_o (by decide) q24), (upw_o (by decide) q25), r0, d0⟩, ⟨_, _, _, _, (upw_o (by decide) q26), (upw_o (by decide) q27), r1, d1⟩, ⟨_, _, _, _, (upw_o (by decide) q28), (upw_o (by decide) q29), r2, d2⟩, ⟨_, _, _, _, (upw_o (by decide) q30), (upw_o (by decide) q31), r3, d3⟩⟩⟩, (fun k hk => upw_o (by omega) ((fun (k : Nat) (_ : 32 ≤ k) => rfl) k hk))⟩⟩))))
    · exact absurd (by omega) h11
set_option maxRecDepth 20000 in
set_option maxHeartbeats 4000000 in
theorem tCopy33 {l : Launch} {x : Cx} {d : Nat} {w : AW} {tx : Int → Int} {by0 : Int} {ru fa fe : Int → Int} {fc lw br me : Int} {mh ml mw : Int → Int} {mn fi : Int} {fm ln : Int → Int} {it : Int → Int → Int} {i j cn : Int} (hd : 2 ≤ d) (hC : ClassC w tx by0 ru fa fe fc lw br me mh ml mw mn fi fm ln it) (hi : R32 i) (hj : R32 j) (hcn : R32 cn) : Mt l x iX8_copy d 0 0 50 w [vR 0, vI 3, vI i, vI 3, vI j, vI cn] (fun v2 w2 => (((0 ≤ (3 : Int) ∧ (3 : Int) ≤ 3) ∧ (0 ≤ (3 : Int) ∧ (3 : Int) ≤ 3)) ∧ ¬ (fm (3 : Int) = -1 ∨ fm (3 : Int) = -1) ∧ fm (3 : Int) = fm (3 : Int) ∧ (0 ≤ i ∧ 0 ≤ cn ∧ i ≤ ln (3 : Int) ∧ cn ≤ ln (3 : Int) - i ∧ 0 ≤ j ∧ j ≤ ln (3 : Int) ∧ cn ≤ ln (3 : Int) - j) ∧ v2 = some (vI 1) ∧ ClassC w2 tx by0 ru fa fe fc lw br me mh ml mw mn fi fm ln (upi it (3 : Int) (cpf (it (3 : Int)) (it (3 : Int)) i j cn)) ∧ ∀ k : Nat, 32 ≤ k → w2 k = w k) ∨ (((0 ≤ (3 : Int) ∧ (3 : Int) ≤ 3) ∧ (0 ≤ (3 : Int) ∧ (3 : Int) ≤ 3)) ∧ ¬ (fm (3 : Int) = -1 ∨ fm (3 : Int) = -1) ∧ fm (3 : Int) = fm (3 : Int) ∧ ¬ (0 ≤ i ∧ 0 ≤ cn ∧ i ≤ ln (3 : Int) ∧ cn ≤ ln (3 : Int) - i ∧ 0 ≤ j ∧ j ≤ ln (3 : Int) ∧ cn ≤ ln (3 : Int) - j) ∧ v2 = some (vI (-12)) ∧ ClassC w2 tx by0 ru fa fe fc lw br me mh ml mw mn 2 fm ln it ∧ ∀ k : Nat, 32 ≤ k → w2 k = w k) ∨ (((0 ≤ (3 : Int) ∧ (3 : Int) ≤ 3) ∧ (0 ≤ (3 : Int) ∧ (3 : Int) ≤ 3)) ∧ ¬ (fm (3 : Int) = -1 ∨ fm (3 : Int) = -1) ∧ fm (3 : Int) ≠ fm (3 : Int) ∧ v2 = some (vI (-14)) ∧ ClassC w2 tx by0 ru fa fe fc lw br me mh ml mw mn 4 fm ln it ∧ ∀ k : Nat, 32 ≤ k → w2 k = w k) ∨ (((0 ≤ (3 : Int) ∧ (3 : Int) ≤ 3) ∧ (0 ≤ (3 : Int) ∧ (3 : Int) ≤ 3)) ∧ (fm (3 : Int) = -1 ∨ fm (3 : Int) = -1) ∧ v2 = some (vI (-11)) ∧ ClassC w2 tx by0 ru fa fe fc lw br me mh ml mw mn 1 fm ln it ∧ ∀ k : Nat, 32 ≤ k → w2 k = w k) ∨ (¬ ((0 ≤ (3 : Int) ∧ (3 : Int) ≤ 3) ∧ (0 ≤ (3 : Int) ∧ (3 : Int) ≤ 3)) ∧ v2 = some (vI (-2)) ∧ w2 = w)) := by
  have hC0 := hC
  obtain ⟨q0, ⟨on, ot, ho, wy, nu, fl, ⟨q1, q2, q3, q4, q5, q6⟩, hRd⟩, ⟨fd, ⟨q9, q10, q11⟩, ⟨q7, q8⟩, hO⟩, ⟨la, be, ne, q12, q13, q14⟩, ⟨sl, q15⟩, hbm, ⟨go, st, bn, B, ra, rb, q16, q17, q18⟩, ⟨⟨q19, q20, q21, q22⟩, hMm⟩, hSh⟩ := hC
  have hW : WarC w fa (warB lw fa ru fe fc) := ⟨fe, ru, fc, fd, lw, ⟨q9, q10, q11⟩, ⟨q7, q8⟩, hO, rfl⟩
  have hE := hRd.ed
  have hM := hRd.mat
  obtain ⟨⟨sf, q23, s0, s1, s2, s3⟩, ⟨fo0, le0, lo0, g0, q24, q25, r0, d0⟩, ⟨fo1, le1, lo1, g1, q26, q27, r1, d1⟩, ⟨fo2, le2, lo2, g2, q28, q29, r2, d2⟩, ⟨fo3, le3, lo3, g3, q30, q31, r3, d3⟩⟩ := hSh
  refine Mt.of (L0 := [some (vR 0), some (vI 3), some (vI i), some (vI 3), some (vI j), some (vI cn), none, none]) rfl rfl rfl ?_
  refine gj_il1 dX8_copy_0 ?_
  refine gj_cS1r dX8_copy_1 mX8_120 hX8_isSheet (by omega) rfl (tX8_isSheet  (by omega) (by omega)) ?_
  refine gj_ifB_eq dX8_copy_4 (fun h4 => ?_) (fun h4 => ?_)
  · exact absurd (by omega) h4
  · refine gj_il3 dX8_copy_7 ?_
    refine gj_cS1r dX8_copy_8 mX8_120 hX8_isSheet (by omega) rfl (tX8_isSheet  (by omega) (by omega)) ?_
    refine gj_ifB_ne dX8_copy_11 (fun h11 => ?_) (fun h11 => ?_)
    · refine gj_al0 dX8_copy_17 ?_
      refine gj_get dX8_copy_18 fX8_66 q0 rfl rfl ?_
      refine gj_il1 dX8_copy_21 ?_
      refine gj_aald dX8_copy_22 q23 rfl rfl (by omega) s3 ?_
      refine gj_as6 dX8_copy_23 rfl rfl ?_
      refine gj_al0 dX8_copy_25 ?_
      refine gj_get dX8_copy_26 fX8_66 q0 rfl rfl ?_
      refine gj_il3 dX8_copy_29 ?_
      refine gj_aald dX8_copy_30 q23 rfl rfl (by omega) s3 ?_
      refine gj_as7 dX8_copy_31 rfl rfl ?_
      refine gj_al6 dX8_copy_33 ?_
      refine gj_get dX8_copy_35 fX8_123 q30 rfl rfl ?_
      refine gj_if_ne dX8_copy_38 (by omega) (fun h38 => ?_) (fun h38 => ?_)
      · have e3 : lo3 = 1 ∧ fm 3 = -1 := d3.resolve_right (fun z => absurd z.1 (by omega))
        refine gj_al0 dX8_copy_49 ?_
        refine gj_iconst dX8_copy_50 ?_
        refine gj_cV1w dX8_copy_51 mX8_127 hX8_found q0 rfl (by omega) rfl (tX8_found  (by omega) q0) (fun w51 P51 => ?_)
        obtain rfl := P51
        exact gj_iret dX8_copy_54 rfl (Or.inr (Or.inr (Or.inr (Or.inl ⟨⟨by omega, by omega⟩, Or.inl e3.2, rfl, ⟨⟨upw_s, ⟨_, _, _, _, _, _, ⟨(upw_o (by decide) q1), (upw_o (by decide) q2), (upw_o (by decide) q3), (upw_o (by decide) q4), (upw_o (by decide) q5), (upw_o (by decide) q6)⟩, hRd⟩, ⟨_, ⟨(upw_o (by decide) q9), (upw_o (by decide) q10), (upw_o (by decide) q11)⟩, ⟨(upw_o (by decide) q7), (upw_o (by decide) q8)⟩, hO⟩, ⟨_, _, _, (upw_o (by decide) q12), (upw_o (by decide) q13), (upw_o (by decide) q14)⟩, ⟨_, (upw_o (by decide) q15)⟩, hbm, ⟨_, _, _, B, _, _, (upw_o (by decide) q16), (upw_o (by decide) q17), (upw_o (by decide) q18)⟩, ⟨⟨(upw_o (by decide) q19), (upw_o (by decide) q20), (upw_o (by decide) q21), (upw_o (by decide) q22)⟩, hMm⟩, ⟨⟨_, (upw_o (by decide) q23), s0, s1, s2, s3⟩, ⟨_, _, _, _, (upw_o (by decide) q24), (upw_o (by decide) q25), r0, d0⟩, ⟨_, _, _, _, (upw_o (by decide) q26), (upw_o (by decide) q27), r1, d1⟩, ⟨_, _, _, _, (upw_o (by decide) q28), (upw_o (by decide) q29), r2, d2⟩, ⟨_, _, _, _, (upw_o (by decide) q30), (upw_o (by decide) q31), r3, d3⟩⟩⟩, (fun k hk => upw_o (by omega) ((fun (k : Nat) (_ : 32 ≤ k) => rfl) k hk))⟩⟩))))
      · obtain ⟨e3, y3, m3, n3, t3, v3⟩ : lo3 = 0 ∧ fm 3 = fo3 ∧ (0 ≤ fo3 ∧ fo3 ≤ 2) ∧ ln 3 = le3 ∧ (0 ≤ le3 ∧ le3 ≤ 60) ∧ ∀ j : Int, 0 ≤ j → j < le3 → g3 j = it 3 j ∧ R32 (g3 j) := d3.resolve_left (fun z => absurd z.1 (by omega))
        refine gj_al7 dX8_copy_41 ?_
        refine gj_get dX8_copy_43 fX8_123 q30 rfl rfl ?_
        refine gj_if_eq dX8_copy_46 (by omega) (fun h46 => ?_) (fun h46 => ?_)
        · refine gj_al6 dX8_copy_55 ?_
          refine gj_get dX8_copy_57 fX8_261 q30 rfl rfl ?_
          refine gj_al7 dX8_copy_60 ?_
          refine gj_get dX8_copy_62 fX8_261 q30 rfl rfl ?_
          refine gj_icmp_eq dX8_copy_65 (by omega) (fun h65 => ?_) (fun h65 => ?_)
          · refine gj_al6 dX8_copy_74 ?_
            refine gj_il2 dX8_copy_76 ?_
            refine gj_il5 dX8_copy_77 ?_
            refine gj_cV2r dX8_copy_79 mX8_264 hX7_holdsRun q30 rfl (by omega) rfl (tX7_holdsRun3  (by omega) ⟨q30, q31⟩ (by omega) (by omega) (by omega)) ?_
            refine gj_ifB_eq dX8_copy_82 (fun h82 => ?_) (fun h82 => ?_)
            · refine gj_al0 dX8_copy_97 ?_
              refine gj_iconst dX8_copy_98 ?_
              refine gj_cV1w dX8_copy_99 mX8_127 hX8_found q0 rfl (by omega) rfl (tX8_found  (by omega) q0) (fun w99 P99 => ?_)
              obtain rfl := P99
              exact gj_iret dX8_copy_102 rfl (Or.inr (Or.inl ⟨⟨by omega, by omega⟩, by omega, by omega, by omega, rfl, ⟨⟨upw_s, ⟨_, _, _, _, _, _, ⟨(upw_o (by decide) q1), (upw_o (by decide) q2), (upw_o (by decide) q3), (upw_o (by decide) q4), (upw_o (by decide) q5), (upw_o (by decide) q6)⟩, hRd⟩, ⟨_, ⟨(upw_o (by decide) q9), (upw_o (by decide) q10), (upw_o (by decide) q11)⟩, ⟨(upw_o (by decide) q7), (upw_o (by decide) q8)⟩, hO⟩, ⟨_, _, _, (upw_o (by decide) q12), (upw_o (by decide) q13), (upw_o (by decide) q14)⟩, ⟨_, (upw_o (by decide) q15)⟩, hbm, ⟨_, _, _, B, _, _, (upw_o (by decide) q16), (upw_o (by decide) q17), (upw_o (by decide) q18)⟩, ⟨⟨(upw_o (by decide) q19), (upw_o (by decide) q20), (upw_o (by decide) q21), (upw_o (by decide) q22)⟩, hMm⟩, ⟨⟨_, (upw_o (by decide) q23), s0, s1, s2, s3⟩, ⟨_, _, _, _, (upw_o (by decide) q24), (upw_o (by decide) q25), r0, d0⟩, ⟨_, _, _, _, (upw_o (by decide) q26), (upw_o (by decide) q27), r1, d1⟩, ⟨_, _, _, _, (upw_o (by decide) q28), (upw_o (by decide) q29), r2, d2⟩, ⟨_, _, _, _, (upw_o (by decide) q30), (upw_o (by decide) q31), r3, d3⟩⟩⟩, (fun k hk => upw_o (by omega) ((fun (k : Nat) (_ : 32 ≤ k) => rfl) k hk))⟩⟩))
            · refine gj_al7 dX8_copy_85 ?_
              refine gj_il4 dX8_copy_87 ?_
              refine gj_il5 dX8_copy_89 ?_
              refine gj_cV2r dX8_copy_91 mX8_264 hX7_holdsRun q30 rfl (by omega) rfl (tX7_holdsRun3  (by omega) ⟨q30, q31⟩ (by omega) (by omega) (by omega)) ?_
              refine gj_ifB_ne dX8_copy_94 (fun h94 => ?_) (fun h94 => ?_)
              · refine gj_al6 dX8_copy_103 ?_
                refine gj_get dX8_copy_105 fX8_138 q30 rfl rfl ?_
                refine gj_il2 dX8_copy_108 ?_
                refine gj_al7 dX8_copy_109 ?_
                refine gj_get dX8_copy_111 fX8_138 q30 rfl rfl ?_
                refine gj_il4 dX8_copy_114 ?_
                refine gj_il5 dX8_copy_116 ?_
                refine gj_acopy dX8_copy_118 mX8_267 (by omega) rfl q31 rfl q31 rfl ⟨rfl, rfl⟩ (by omega) ?_
                refine gj_iconst dX8_copy_121 ?_
                exact gj_iret dX8_copy_122 rfl (Or.inl ⟨⟨by omega, by omega⟩, by omega, by omega, by omega, rfl, ⟨⟨(upw_o (by decide) q0), ⟨_, _, _, _, _, _, ⟨(upw_o (by decide) q1), (upw_o (by decide) q2), (upw_o (by decide) q3), (upw_o (by decide) q4), (upw_o (by decide) q5), (upw_o (by decide) q6)⟩, hRd⟩, ⟨_, ⟨(upw_o (by decide) q9), (upw_o (by decide) q10), (upw_o (by decide) q11)⟩, ⟨(upw_o (by decide) q7), (upw_o (by decide) q8)⟩, hO⟩, ⟨_, _, _, (upw_o (by decide) q12), (upw_o (by decide) q13), (upw_o (by decide) q14)⟩, ⟨_, (upw_o (by decide) q15)⟩, hbm, ⟨_, _, _, B, _, _, (upw_o (by decide) q16), (upw_o (by decide) q17), (upw_o (by decide) q18)⟩, ⟨⟨(upw_o (by decide) q19), (upw_o (by decide) q20), (upw_o (by decide) q21), (upw_o (by decide) q22)⟩, hMm⟩, ⟨⟨_, (upw_o (by decide) q23), s0, s1, s2, s3⟩, ⟨_, _, _, _, (upw_o (by decide) q24), (upw_o (by decide) q25), r0, d0⟩, ⟨_, _, _, _, (upw_o (by decide) q26), (upw_o (by decide) q27), r1, d1⟩, ⟨_, _, _, _, (upw_o (by decide) q28), (upw_o (by decide) q29), r2, d2⟩, ⟨_, _, _, _, (upw_o (by decide) q30), upw_s, r3, Or.inr ⟨e3, y3, m3, n3, t3, fun q g8 g9 => by
                            show cpf g3 g3 i j cn q = cpf (it 3) (it 3) i j cn q ∧ R32 (cpf g3 g3 i j cn q)
                            unfold cpf
                            by_cases z : j ≤ q ∧ q < j + cn
                            · rw [if_pos z, if_pos z]; exact v3 _ (by omega) (by omega)
                            · rw [if_neg z, if_neg z]; exact v3 q g8 g9⟩⟩⟩⟩, (fun k hk => upw_o (by omega) ((fun (k : Nat) (_ : 32 ≤ k) => rfl) k hk))⟩⟩)
              · refine gj_al0 dX8_copy_97 ?_
                refine gj_iconst dX8_copy_98 ?_
                refine gj_cV1w dX8_copy_99 mX8_127 hX8_found q0 rfl (by omega) rfl (tX8_found  (by omega) q0) (fun w99 P99 => ?_)
                obtain rfl := P99
                exact gj_iret dX8_copy_102 rfl (Or.inr (Or.inl ⟨⟨by omega, by omega⟩, by omega, by omega, by omega, rfl, ⟨⟨upw_s, ⟨_, _, _, _, _, _, ⟨(upw_o (by decide) q1), (upw_o (by decide) q2), (upw_o (by decide) q3), (upw_o (by decide) q4), (upw_o (by decide) q5), (upw_o (by decide) q6)⟩, hRd⟩, ⟨_, ⟨(upw_o (by decide) q9), (upw_o (by decide) q10), (upw_o (by decide) q11)⟩, ⟨(upw_o (by decide) q7), (upw_o (by decide) q8)⟩, hO⟩, ⟨_, _, _, (upw_o (by decide) q12), (upw_o (by decide) q13), (upw_o (by decide) q14)⟩, ⟨_, (upw_o (by decide) q15)⟩, hbm, ⟨_, _, _, B, _, _, (upw_o (by decide) q16), (upw_o (by decide) q17), (upw_o (by decide) q18)⟩, ⟨⟨(upw_o (by decide) q19), (upw_o (by decide) q20), (upw_o (by decide) q21), (upw_o (by decide) q22)⟩, hMm⟩, ⟨⟨_, (upw_o (by decide) q23), s0, s1, s2, s3⟩, ⟨_, _, _, _, (upw_o (by decide) q24), (upw_o (by decide) q25), r0, d0⟩, ⟨_, _, _, _, (upw_o (by decide) q26), (upw_o (by decide) q27), r1, d1⟩, ⟨_, _, _, _, (upw_o (by decide) q28), (upw_o (by decide) q29), r2, d2⟩, ⟨_, _, _, _, (upw_o (by decide) q30), (upw_o (by decide) q31), r3, d3⟩⟩⟩, (fun k hk => upw_o (by omega) ((fun (k : Nat) (_ : 32 ≤ k) => rfl) k hk))⟩⟩))
          · refine gj_al0 dX8_copy_68 ?_
            refine gj_iconst dX8_copy_69 ?_
            refine gj_cV1w dX8_copy_70 mX8_127 hX8_found q0 rfl (by omega) rfl (tX8_found  (by omega) q0) (fun w70 P70 => ?_)
            obtain rfl := P70
            exact gj_iret dX8_copy_73 rfl (Or.inr (Or.inr (Or.inl ⟨⟨by omega, by omega⟩, by omega, by omega, rfl, ⟨⟨upw_s, ⟨_, _, _, _, _, _, ⟨(upw_o (by decide) q1), (upw_o (by decide) q2), (upw_o (by decide) q3), (upw_o (by decide) q4), (upw_o (by decide) q5), (upw_o (by decide) q6)⟩, hRd⟩, ⟨_, ⟨(upw_o (by decide) q9), (upw_o (by decide) q10), (upw_o (by decide) q11)⟩, ⟨(upw_o (by decide) q7), (upw_o (by decide) q8)⟩, hO⟩, ⟨_, _, _, (upw_o (by decide) q12), (upw_o (by decide) q13), (upw_o (by decide) q14)⟩, ⟨_, (upw_o (by decide) q15)⟩, hbm, ⟨_, _, _, B, _, _, (upw_o (by decide) q16), (upw_o (by decide) q17), (upw_o (by decide) q18)⟩, ⟨⟨(upw_o (by decide) q19), (upw_o (by decide) q20), (upw_o (by decide) q21), (upw_o (by decide) q22)⟩, hMm⟩, ⟨⟨_, (upw_o (by decide) q23), s0, s1, s2, s3⟩, ⟨_, _, _, _, (upw_o (by decide) q24), (upw_o (by decide) q25), r0, d0⟩, ⟨_, _, _, _, (upw_o (by decide) q26), (upw_o (by decide) q27), r1, d1⟩, ⟨_, _, _, _, (upw_o (by decide) q28), (upw_o (by decide) q29), r2, d2⟩, ⟨_, _, _, _, (upw_o (by decide) q30), (upw_o (by decide) q31), r3, d3⟩⟩⟩, (fun k hk => upw_o (by omega) ((fun (k : Nat) (_ : 32 ≤ k) => rfl) k hk))⟩⟩)))
        · refine gj_al0 dX8_copy_49 ?_
          refine gj_iconst dX8_copy_50 ?_
          refine gj_cV1w dX8_copy_51 mX8_127 hX8_found q0 rfl (by omega) rfl (tX8_found  (by omega) q0) (fun w51 P51 => ?_)
          obtain rfl := P51
          exact gj_iret dX8_copy_54 rfl (absurd e3 h46)
    · exact absurd (by omega) h11
set_option maxRecDepth 20000 in
set_option maxHeartbeats 4000000 in
theorem tCopyB {l : Launch} {x : Cx} {d : Nat} {w : AW} {tx : Int → Int} {by0 : Int} {ru fa fe : Int → Int} {fc lw br me : Int} {mh ml mw : Int → Int} {mn fi : Int} {fm ln : Int → Int} {it : Int → Int → Int} {s t i j cn : Int} (hd : 2 ≤ d) (hC : ClassC w tx by0 ru fa fe fc lw br me mh ml mw mn fi fm ln it) (hs : R32 s) (ht : R32 t) (hi : R32 i) (hj : R32 j) (hcn : R32 cn) (hs9 : ¬ ((0 ≤ s ∧ s ≤ 3) ∧ (0 ≤ t ∧ t ≤ 3))) : Mt l x iX8_copy d 0 0 50 w [vR 0, vI s, vI i, vI t, vI j, vI cn] (fun v2 w2 => (((0 ≤ s ∧ s ≤ 3) ∧ (0 ≤ t ∧ t ≤ 3)) ∧ ¬ (fm s = -1 ∨ fm t = -1) ∧ fm s = fm t ∧ (0 ≤ i ∧ 0 ≤ cn ∧ i ≤ ln s ∧ cn ≤ ln s - i ∧ 0 ≤ j ∧ j ≤ ln t ∧ cn ≤ ln t - j) ∧ v2 = some (vI 1) ∧ ClassC w2 tx by0 ru fa fe fc lw br me mh ml mw mn fi fm ln (upi it t (cpf (it s) (it t) i j cn)) ∧ ∀ k : Nat, 32 ≤ k → w2 k = w k) ∨ (((0 ≤ s ∧ s ≤ 3) ∧ (0 ≤ t ∧ t ≤ 3)) ∧ ¬ (fm s = -1 ∨ fm t = -1) ∧ fm s = fm t ∧ ¬ (0 ≤ i ∧ 0 ≤ cn ∧ i ≤ ln s ∧ cn ≤ ln s - i ∧ 0 ≤ j ∧ j ≤ ln t ∧ cn ≤ ln t - j) ∧ v2 = some (vI (-12)) ∧ ClassC w2 tx by0 ru fa fe fc lw br me mh ml mw mn 2 fm ln it ∧ ∀ k : Nat, 32 ≤ k → w2 k = w k) ∨ (((0 ≤ s ∧ s ≤ 3) ∧ (0 ≤ t ∧ t ≤ 3)) ∧ ¬ (fm s = -1 ∨ fm t = -1) ∧ fm s ≠ fm t ∧ v2 = some (vI (-14)) ∧ ClassC w2 tx by0 ru fa fe fc lw br me mh ml mw mn 4 fm ln it ∧ ∀ k : Nat, 32 ≤ k → w2 k = w k) ∨ (((0 ≤ s ∧ s ≤ 3) ∧ (0 ≤ t ∧ t ≤ 3)) ∧ (fm s = -1 ∨ fm t = -1) ∧ v2 = some (vI (-11)) ∧ ClassC w2 tx by0 ru fa fe fc lw br me mh ml mw mn 1 fm ln it ∧ ∀ k : Nat, 32 ≤ k → w2 k = w k) ∨ (¬ ((0 ≤ s ∧ s ≤ 3) ∧ (0 ≤ t ∧ t ≤ 3)) ∧ v2 = some (vI (-2)) ∧ w2 = w)) := by
  have hC0 := hC
  obtain ⟨q0, ⟨on, ot, ho, wy, nu, fl, ⟨q1, q2, q3, q4, q5, q6⟩, hRd⟩, ⟨fd, ⟨q9, q10, q11⟩, ⟨q7, q8⟩, hO⟩, ⟨la, be, ne, q12, q13, q14⟩, ⟨sl, q15⟩, hbm, ⟨go, st, bn, B, ra, rb, q16, q17, q18⟩, ⟨⟨q19, q20, q21, q22⟩, hMm⟩, hSh⟩ := hC
  have hW : WarC w fa (warB lw fa ru fe fc) := ⟨fe, ru, fc, fd, lw, ⟨q9, q10, q11⟩, ⟨q7, q8⟩, hO, rfl⟩
  have hE := hRd.ed
  have hM := hRd.mat
  obtain ⟨⟨sf, q23, s0, s1, s2, s3⟩, ⟨fo0, le0, lo0, g0, q24, q25, r0, d0⟩, ⟨fo1, le1, lo1, g1, q26, q27, r1, d1⟩, ⟨fo2, le2, lo2, g2, q28, q29, r2, d2⟩, ⟨fo3, le3, lo3, g3, q30, q31, r3, d3⟩⟩ := hSh
  refine Mt.of (L0 := [some (vR 0), some (vI s), some (vI i), some (vI t), some (vI j), some (vI cn), none, none]) rfl rfl rfl ?_
  refine gj_il1 dX8_copy_0 ?_
  refine gj_cS1r dX8_copy_1 mX8_120 hX8_isSheet (by omega) rfl (tX8_isSheet  (by omega) (by omega)) ?_
  refine gj_ifB_eq dX8_copy_4 (fun h4 => ?_) (fun h4 => ?_)
  · refine gj_bipush dX8_copy_14 rfl ?_
    exact gj_iret dX8_copy_16 rfl (Or.inr (Or.inr (Or.inr (Or.inr ⟨by omega, rfl, rfl⟩))))
  · refine gj_il3 dX8_copy_7 ?_
    refine gj_cS1r dX8_copy_8 mX8_120 hX8_isSheet (by omega) rfl (tX8_isSheet  (by omega) (by omega)) ?_
    refine gj_ifB_ne dX8_copy_11 (fun h11 => ?_) (fun h11 => ?_)
    · exact absurd ⟨h4, h11⟩ hs9
    · refine gj_bipush dX8_copy_14 rfl ?_
      exact gj_iret dX8_copy_16 rfl (Or.inr (Or.inr (Or.inr (Or.inr ⟨by omega, rfl, rfl⟩))))
theorem tCopy {l : Launch} {x : Cx} {d : Nat} {w : AW} {tx : Int → Int} {by0 : Int} {ru fa fe : Int → Int} {fc lw br me : Int} {mh ml mw : Int → Int} {mn fi : Int} {fm ln : Int → Int} {it : Int → Int → Int} {s t i j cn : Int} (hd : 2 ≤ d) (hC : ClassC w tx by0 ru fa fe fc lw br me mh ml mw mn fi fm ln it) (hs : R32 s) (ht : R32 t) (hi : R32 i) (hj : R32 j) (hcn : R32 cn) : Mt l x iX8_copy d 0 0 50 w [vR 0, vI s, vI i, vI t, vI j, vI cn] (fun v2 w2 => (((0 ≤ s ∧ s ≤ 3) ∧ (0 ≤ t ∧ t ≤ 3)) ∧ ¬ (fm s = -1 ∨ fm t = -1) ∧ fm s = fm t ∧ (0 ≤ i ∧ 0 ≤ cn ∧ i ≤ ln s ∧ cn ≤ ln s - i ∧ 0 ≤ j ∧ j ≤ ln t ∧ cn ≤ ln t - j) ∧ v2 = some (vI 1) ∧ ClassC w2 tx by0 ru fa fe fc lw br me mh ml mw mn fi fm ln (upi it t (cpf (it s) (it t) i j cn)) ∧ ∀ k : Nat, 32 ≤ k → w2 k = w k) ∨ (((0 ≤ s ∧ s ≤ 3) ∧ (0 ≤ t ∧ t ≤ 3)) ∧ ¬ (fm s = -1 ∨ fm t = -1) ∧ fm s = fm t ∧ ¬ (0 ≤ i ∧ 0 ≤ cn ∧ i ≤ ln s ∧ cn ≤ ln s - i ∧ 0 ≤ j ∧ j ≤ ln t ∧ cn ≤ ln t - j) ∧ v2 = some (vI (-12)) ∧ ClassC w2 tx by0 ru fa fe fc lw br me mh ml mw mn 2 fm ln it ∧ ∀ k : Nat, 32 ≤ k → w2 k = w k) ∨ (((0 ≤ s ∧ s ≤ 3) ∧ (0 ≤ t ∧ t ≤ 3)) ∧ ¬ (fm s = -1 ∨ fm t = -1) ∧ fm s ≠ fm t ∧ v2 = some (vI (-14)) ∧ ClassC w2 tx by0 ru fa fe fc lw br me mh ml mw mn 4 fm ln it ∧ ∀ k : Nat, 32 ≤ k → w2 k = w k) ∨ (((0 ≤ s ∧ s ≤ 3) ∧ (0 ≤ t ∧ t ≤ 3)) ∧ (fm s = -1 ∨ fm t = -1) ∧ v2 = some (vI (-11)) ∧ ClassC w2 tx by0 ru fa fe fc lw br me mh ml mw mn 1 fm ln it ∧ ∀ k : Nat, 32 ≤ k → w2 k = w k) ∨ (¬ ((0 ≤ s ∧ s ≤ 3) ∧ (0 ≤ t ∧ t ≤ 3)) ∧ v2 = some (vI (-2)) ∧ w2 = w)) := by
  by_cases c : (0 ≤ s ∧ s ≤ 3) ∧ (0 ≤ t ∧ t ≤ 3)
  · rcases (show s = 0 ∨ s = 1 ∨ s = 2 ∨ s = 3 by omega) with rfl | rfl | rfl | rfl <;> rcases (show t = 0 ∨ t = 1 ∨ t = 2 ∨ t = 3 by omega) with rfl | rfl | rfl | rfl
    · exact tCopy00 (by omega) hC hi hj hcn
    · exact tCopy01 (by omega) hC hi hj hcn
    · exact tCopy02 (by omega) hC hi hj hcn
    · exact tCopy03 (by omega) hC hi hj hcn
    · exact tCopy10 (by omega) hC hi hj hcn
    · exact tCopy11 (by omega) hC hi hj hcn
    · exact tCopy12 (by omega) hC hi hj hcn
    · exact tCopy13 (by omega) hC hi hj hcn
    · exact tCopy20 (by omega) hC hi hj hcn
    · exact tCopy21 (by omega) hC hi hj hcn
    · exact tCopy22 (by omega) hC hi hj hcn
    · exact tCopy23 (by omega) hC hi hj hcn
    · exact tCopy30 (by omega) hC hi hj hcn
    · exact tCopy31 (by omega) hC hi hj hcn
    · exact tCopy32 (by omega) hC hi hj hcn
    · exact tCopy33 (by omega) hC hi hj hcn
  · exact tCopyB (by omega) hC hs ht hi hj hcn c
