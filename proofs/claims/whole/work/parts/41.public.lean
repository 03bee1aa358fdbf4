/-! contracts: public methods of the class, without sheets -/
set_option maxRecDepth 20000 in
set_option maxHeartbeats 4000000 in
theorem tX8_type {l : Launch} {x : Cx} {d : Nat} {w : AW} {tx : Int → Int} {by0 : Int} {ru fa fe : Int → Int} {fc lw br me : Int} {mh ml mw : Int → Int} {mn fi : Int} {fm ln : Int → Int} {it : Int → Int → Int} {b : Int} (hd : 5 ≤ d) (hC : ClassC w tx by0 ru fa fe fc lw br me mh ml mw mn fi fm ln it) (hb : R32 b) : Mt l x iX8_type d 0 0 50 w [vR 0, vI b] (fun v2 w2 => ((0 ≤ b ∧ b ≤ 255) ∧ by0 < 47 ∧ v2 = some (vI (by0 + 1)) ∧ ClassC w2 (upf tx by0 b) (by0 + 1) ru fa fe fc lw br me mh ml mw mn fi fm ln it ∧ ∀ k : Nat, 32 ≤ k → w2 k = w k) ∨ ((0 ≤ b ∧ b ≤ 255) ∧ ¬ by0 < 47 ∧ v2 = some (vI (-4)) ∧ w2 = w) ∨ (¬ (0 ≤ b ∧ b ≤ 255) ∧ v2 = some (vI (-2)) ∧ w2 = w)) := by
  have hC0 := hC
  obtain ⟨q0, ⟨on, ot, ho, wy, nu, fl, ⟨q1, q2, q3, q4, q5, q6⟩, hRd⟩, ⟨fd, ⟨q9, q10, q11⟩, ⟨q7, q8⟩, hO⟩, ⟨la, be, ne, q12, q13, q14⟩, ⟨sl, q15⟩, hbm, ⟨go, st, bn, B, ra, rb, q16, q17, q18⟩, ⟨⟨q19, q20, q21, q22⟩, hMm⟩, hSh⟩ := hC
  have hW : WarC w fa (warB lw fa ru fe fc) := ⟨fe, ru, fc, fd, lw, ⟨q9, q10, q11⟩, ⟨q7, q8⟩, hO, rfl⟩
  have hE := hRd.ed
  have hM := hRd.mat
  refine Mt.of (L0 := [some (vR 0), some (vI b)]) rfl rfl rfl ?_
  refine gj_il1 dX8_type_0 ?_
  refine gj_sipush dX8_type_1 rfl ?_
  refine gj_cS2r dX8_type_4 mX8_75 hX8_upTo (by omega) rfl (tX8_upTo  (by omega) (by omega) (by omega)) ?_
  refine gj_ifB_ne dX8_type_7 (fun h7 => ?_) (fun h7 => ?_)
  · refine gj_al0 dX8_type_13 ?_
    refine gj_get dX8_type_14 fX8_12 q0 rfl rfl ?_
    refine gj_il1 dX8_type_17 ?_
    refine gj_cV1x dX8_type_18 mX8_79 hX6_append q1 rfl (by omega) rfl (tX6_append  (by omega) ⟨q1, q2, q3, q4, q5, q6⟩ hRd.1 (by omega)) (fun v18 w18 P18 => ?_)
    rcases P18 with ⟨hc18, rfl, ⟨on18, ot18, ho18, wy18, nu18, fl18, ⟨qa18, qb18, qc18, qd18, qe18, qf18⟩, rk18⟩, fr18⟩ | ⟨hc18, rfl, rfl⟩
    · simp only [Option.toList, List.cons_append, List.nil_append]
      refine gj_if_eq dX8_type_21 (by omega) (fun h => absurd h (by omega)) (fun _ => ?_)
      refine gj_al0 dX8_type_24 ?_
      refine gj_get dX8_type_25 fX8_12 ((fr18 0 (by decide)).trans q0) rfl rfl ?_
      refine gj_get dX8_type_28 fX8_83 qa18 rfl rfl ?_
      refine gj_goto dX8_type_31 ?_
      exact gj_iret dX8_type_36 rfl (Or.inl ⟨h7, hc18, rfl, ⟨⟨((fr18 0 (by decide)).trans q0), ⟨_, _, _, _, _, _, ⟨qa18, qb18, qc18, qd18, qe18, qf18⟩, rk18.w⟩, ⟨_, ⟨((fr18 9 (by decide)).trans q9), ((fr18 10 (by decide)).trans q10), ((fr18 11 (by decide)).trans q11)⟩, ⟨((fr18 7 (by decide)).trans q7), ((fr18 8 (by decide)).trans q8)⟩, hO⟩, ⟨_, _, _, ((fr18 12 (by decide)).trans q12), ((fr18 13 (by decide)).trans q13), ((fr18 14 (by decide)).trans q14)⟩, ⟨_, ((fr18 15 (by decide)).trans q15)⟩, hbm, ⟨_, _, _, B, _, _, ((fr18 16 (by decide)).trans q16), ((fr18 17 (by decide)).trans q17), ((fr18 18 (by decide)).trans q18)⟩, ⟨⟨((fr18 19 (by decide)).trans q19), ((fr18 20 (by decide)).trans q20), ((fr18 21 (by decide)).trans q21), ((fr18 22 (by decide)).trans q22)⟩, hMm⟩, (SheetsC.fr (fun k g1 g2 => fr18 k (by omega)) hSh)⟩, (fun k hk => (fr18 k (by omega)).trans ((fun (k : Nat) (_ : 32 ≤ k) => rfl) k hk))⟩⟩)
    · simp only [Option.toList, List.cons_append, List.nil_append]
      refine gj_if_eq dX8_type_21 (by omega) (fun _ => ?_) (fun h => absurd h (by omega))
      refine gj_bipush dX8_type_34 rfl ?_
      exact gj_iret dX8_type_36 rfl (Or.inr (Or.inl ⟨h7, hc18, rfl, rfl⟩))
  · refine gj_bipush dX8_type_10 rfl ?_
    exact gj_iret dX8_type_12 rfl (Or.inr (Or.inr ⟨h7, rfl, rfl⟩))
set_option maxRecDepth 20000 in
set_option maxHeartbeats 4000000 in
theorem tX8_wipe {l : Launch} {x : Cx} {d : Nat} {w : AW} {tx : Int → Int} {by0 : Int} {ru fa fe : Int → Int} {fc lw br me : Int} {mh ml mw : Int → Int} {mn fi : Int} {fm ln : Int → Int} {it : Int → Int → Int}  (hd : 5 ≤ d) (hC : ClassC w tx by0 ru fa fe fc lw br me mh ml mw mn fi fm ln it) : Mt l x iX8_wipe d 0 0 50 w [vR 0] (Wr (vI (by0)) (fun w2 => ClassC w2 tx 0 ru fa fe fc lw br me mh ml mw mn fi fm ln it ∧ ∀ k : Nat, 32 ≤ k → w2 k = w k)) := by
  have hC0 := hC
  obtain ⟨q0, ⟨on, ot, ho, wy, nu, fl, ⟨q1, q2, q3, q4, q5, q6⟩, hRd⟩, ⟨fd, ⟨q9, q10, q11⟩, ⟨q7, q8⟩, hO⟩, ⟨la, be, ne, q12, q13, q14⟩, ⟨sl, q15⟩, hbm, ⟨go, st, bn, B, ra, rb, q16, q17, q18⟩, ⟨⟨q19, q20, q21, q22⟩, hMm⟩, hSh⟩ := hC
  have hW : WarC w fa (warB lw fa ru fe fc) := ⟨fe, ru, fc, fd, lw, ⟨q9, q10, q11⟩, ⟨q7, q8⟩, hO, rfl⟩
  have hE := hRd.ed
  have hM := hRd.mat
  refine Mt.of (L0 := [some (vR 0), none]) rfl rfl rfl ?_
  refine gj_al0 dX8_wipe_0 ?_
  refine gj_get dX8_wipe_1 fX8_12 q0 rfl rfl ?_
  refine gj_get dX8_wipe_4 fX8_83 q1 rfl rfl ?_
  refine gj_is1 dX8_wipe_7 rfl rfl ?_
  refine gj_al0 dX8_wipe_8 ?_
  refine gj_get dX8_wipe_9 fX8_12 q0 rfl rfl ?_
  refine gj_iconst dX8_wipe_12 ?_
  refine gj_cV1v dX8_wipe_13 mX8_86 hX6_shorten q1 rfl (by omega) rfl (tX6_shorten  (by omega) ⟨q1, q2, q3, q4, q5, q6⟩ ⟨by omega, fun i g0 g1 => absurd g1 (by omega)⟩) (fun w13 P13 => ?_)
  obtain ⟨⟨on13, ot13, ho13, wy13, nu13, fl13, ⟨qa13, qb13, qc13, qd13, qe13, qf13⟩, rk13⟩, fr13⟩ := P13
  refine gj_il1 dX8_wipe_16 ?_
  exact gj_iret dX8_wipe_17 rfl (wr_i rfl ⟨⟨((fr13 0 (by decide)).trans q0), ⟨_, _, _, _, _, _, ⟨qa13, qb13, qc13, qd13, qe13, qf13⟩, rk13.w⟩, ⟨_, ⟨((fr13 9 (by decide)).trans q9), ((fr13 10 (by decide)).trans q10), ((fr13 11 (by decide)).trans q11)⟩, ⟨((fr13 7 (by decide)).trans q7), ((fr13 8 (by decide)).trans q8)⟩, hO⟩, ⟨_, _, _, ((fr13 12 (by decide)).trans q12), ((fr13 13 (by decide)).trans q13), ((fr13 14 (by decide)).trans q14)⟩, ⟨_, ((fr13 15 (by decide)).trans q15)⟩, hbm, ⟨_, _, _, B, _, _, ((fr13 16 (by decide)).trans q16), ((fr13 17 (by decide)).trans q17), ((fr13 18 (by decide)).trans q18)⟩, ⟨⟨((fr13 19 (by decide)).trans q19), ((fr13 20 (by decide)).trans q20), ((fr13 21 (by decide)).trans q21), ((fr13 22 (by decide)).trans q22)⟩, hMm⟩, (SheetsC.fr (fun k g1 g2 => fr13 k (by omega)) hSh)⟩, (fun k hk => (fr13 k (by omega)).trans ((fun (k : Nat) (_ : 32 ≤ k) => rfl) k hk))⟩)
set_option maxRecDepth 20000 in
set_option maxHeartbeats 4000000 in
theorem tX8_undo {l : Launch} {x : Cx} {d : Nat} {w : AW} {tx : Int → Int} {by0 : Int} {ru fa fe : Int → Int} {fc lw br me : Int} {mh ml mw : Int → Int} {mn fi : Int} {fm ln : Int → Int} {it : Int → Int → Int}  (hd : 5 ≤ d) (hC : ClassC w tx by0 ru fa fe fc lw br me mh ml mw mn fi fm ln it) : Mt l x iX8_undo d 0 0 50 w [vR 0] (fun v2 w2 => (by0 ≠ 0 ∧ v2 = some (vI (by0 - 1)) ∧ ClassC w2 tx (by0 - 1) ru fa fe fc lw br me mh ml mw mn fi fm ln it ∧ ∀ k : Nat, 32 ≤ k → w2 k = w k) ∨ (by0 = 0 ∧ v2 = some (vI (-3)) ∧ w2 = w)) := by
  have hC0 := hC
  obtain ⟨q0, ⟨on, ot, ho, wy, nu, fl, ⟨q1, q2, q3, q4, q5, q6⟩, hRd⟩, ⟨fd, ⟨q9, q10, q11⟩, ⟨q7, q8⟩, hO⟩, ⟨la, be, ne, q12, q13, q14⟩, ⟨sl, q15⟩, hbm, ⟨go, st, bn, B, ra, rb, q16, q17, q18⟩, ⟨⟨q19, q20, q21, q22⟩, hMm⟩, hSh⟩ := hC
  have hW : WarC w fa (warB lw fa ru fe fc) := ⟨fe, ru, fc, fd, lw, ⟨q9, q10, q11⟩, ⟨q7, q8⟩, hO, rfl⟩
  have hE := hRd.ed
  have hM := hRd.mat
  have b9 := hRd.1.1
  refine Mt.of (L0 := [some (vR 0)]) rfl rfl rfl ?_
  refine gj_al0 dX8_undo_0 ?_
  refine gj_get dX8_undo_1 fX8_12 q0 rfl rfl ?_
  refine gj_get dX8_undo_4 fX8_83 q1 rfl rfl ?_
  refine gj_if_ne dX8_undo_7 (by omega) (fun h7 => ?_) (fun h7 => ?_)
  · refine gj_al0 dX8_undo_13 ?_
    refine gj_get dX8_undo_14 fX8_12 q0 rfl rfl ?_
    refine gj_al0 dX8_undo_17 ?_
    refine gj_get dX8_undo_18 fX8_12 q0 rfl rfl ?_
    refine gj_get dX8_undo_21 fX8_83 q1 rfl rfl ?_
    refine gj_iconst dX8_undo_24 ?_
    refine gj_isub dX8_undo_25 ?_
    refine gj_cV1v dX8_undo_26 mX8_86 hX6_shorten q1 rfl (by omega) rfl (tX6_shorten  (by omega) ⟨q1, q2, q3, q4, q5, q6⟩ ⟨by omega, fun i g0 g1 => hRd.1.2 i g0 (by omega)⟩) (fun w26 P26 => ?_)
    obtain ⟨⟨on26, ot26, ho26, wy26, nu26, fl26, ⟨qa26, qb26, qc26, qd26, qe26, qf26⟩, rk26⟩, fr26⟩ := P26
    refine gj_al0 dX8_undo_29 ?_
    refine gj_get dX8_undo_30 fX8_12 ((fr26 0 (by decide)).trans q0) rfl rfl ?_
    refine gj_get dX8_undo_33 fX8_83 qa26 rfl rfl ?_
    exact gj_iret dX8_undo_36 rfl (Or.inl ⟨h7, rfl, ⟨⟨((fr26 0 (by decide)).trans q0), ⟨_, _, _, _, _, _, ⟨qa26, qb26, qc26, qd26, qe26, qf26⟩, rk26.w⟩, ⟨_, ⟨((fr26 9 (by decide)).trans q9), ((fr26 10 (by decide)).trans q10), ((fr26 11 (by decide)).trans q11)⟩, ⟨((fr26 7 (by decide)).trans q7), ((fr26 8 (by decide)).trans q8)⟩, hO⟩, ⟨_, _, _, ((fr26 12 (by decide)).trans q12), ((fr26 13 (by decide)).trans q13), ((fr26 14 (by decide)).trans q14)⟩, ⟨_, ((fr26 15 (by decide)).trans q15)⟩, hbm, ⟨_, _, _, B, _, _, ((fr26 16 (by decide)).trans q16), ((fr26 17 (by decide)).trans q17), ((fr26 18 (by decide)).trans q18)⟩, ⟨⟨((fr26 19 (by decide)).trans q19), ((fr26 20 (by decide)).trans q20), ((fr26 21 (by decide)).trans q21), ((fr26 22 (by decide)).trans q22)⟩, hMm⟩, (SheetsC.fr (fun k g1 g2 => fr26 k (by omega)) hSh)⟩, (fun k hk => (fr26 k (by omega)).trans ((fun (k : Nat) (_ : 32 ≤ k) => rfl) k hk))⟩⟩)
  · refine gj_bipush dX8_undo_10 rfl ?_
    exact gj_iret dX8_undo_12 rfl (Or.inr ⟨h7, rfl, rfl⟩)
set_option maxRecDepth 20000 in
set_option maxHeartbeats 4000000 in
theorem tX8_fault {l : Launch} {x : Cx} {d : Nat} {w : AW} {tx : Int → Int} {by0 : Int} {ru fa fe : Int → Int} {fc lw br me : Int} {mh ml mw : Int → Int} {mn fi : Int} {fm ln : Int → Int} {it : Int → Int → Int}  (hd : 0 ≤ d) (hC : ClassC w tx by0 ru fa fe fc lw br me mh ml mw mn fi fm ln it) : Mt l x iX8_fault d 0 0 50 w [vR 0] (Rd (vI (fltF tx by0)) w) := by
  have hC0 := hC
  obtain ⟨q0, ⟨on, ot, ho, wy, nu, fl, ⟨q1, q2, q3, q4, q5, q6⟩, hRd⟩, ⟨fd, ⟨q9, q10, q11⟩, ⟨q7, q8⟩, hO⟩, ⟨la, be, ne, q12, q13, q14⟩, ⟨sl, q15⟩, hbm, ⟨go, st, bn, B, ra, rb, q16, q17, q18⟩, ⟨⟨q19, q20, q21, q22⟩, hMm⟩, hSh⟩ := hC
  have hW : WarC w fa (warB lw fa ru fe fc) := ⟨fe, ru, fc, fd, lw, ⟨q9, q10, q11⟩, ⟨q7, q8⟩, hO, rfl⟩
  have hE := hRd.ed
  have hM := hRd.mat
  refine Mt.of (L0 := [some (vR 0)]) rfl rfl rfl ?_
  refine gj_al0 dX8_fault_0 ?_
  refine gj_get dX8_fault_1 fX8_12 q0 rfl rfl ?_
  refine gj_get dX8_fault_4 fX8_90 q1 rfl rfl ?_
  exact gj_iret dX8_fault_7 rfl (rd_i hRd.2.1)
def rdA (tx : Int → Int) (by0 r k : Int) : Int := if (0 ≤ r ∧ r ≤ numF tx by0 - 1) ∧ (0 ≤ k ∧ k ≤ 2) then (if k = 2 then tx (4 * r + 2) - 48 else if k = 0 then tx (4 * r) - 97 else tx (4 * r + 1) - 97) else -2
set_option maxRecDepth 20000 in
set_option maxHeartbeats 4000000 in
theorem tX8_road {l : Launch} {x : Cx} {d : Nat} {w : AW} {tx : Int → Int} {by0 : Int} {ru fa fe : Int → Int} {fc lw br me : Int} {mh ml mw : Int → Int} {mn fi : Int} {fm ln : Int → Int} {it : Int → Int → Int} {r k : Int} (hd : 1 ≤ d) (hC : ClassC w tx by0 ru fa fe fc lw br me mh ml mw mn fi fm ln it) (hr : R32 r) (hk : R32 k) : Mt l x iX8_road d 0 0 50 w [vR 0, vI r, vI k] (Rd (vI (rdA tx by0 r k)) w) := by
  have hC0 := hC
  obtain ⟨q0, ⟨on, ot, ho, wy, nu, fl, ⟨q1, q2, q3, q4, q5, q6⟩, hRd⟩, ⟨fd, ⟨q9, q10, q11⟩, ⟨q7, q8⟩, hO⟩, ⟨la, be, ne, q12, q13, q14⟩, ⟨sl, q15⟩, hbm, ⟨go, st, bn, B, ra, rb, q16, q17, q18⟩, ⟨⟨q19, q20, q21, q22⟩, hMm⟩, hSh⟩ := hC
  have hW : WarC w fa (warB lw fa ru fe fc) := ⟨fe, ru, fc, fd, lw, ⟨q9, q10, q11⟩, ⟨q7, q8⟩, hO, rfl⟩
  have hE := hRd.ed
  have hM := hRd.mat
  have n9 := hE.1
  have n8 := hRd.2.2.1
  refine Mt.of (L0 := [some (vR 0), some (vI r), some (vI k)]) rfl rfl rfl ?_
  refine gj_il1 dX8_road_0 ?_
  refine gj_al0 dX8_road_1 ?_
  refine gj_get dX8_road_2 fX8_12 q0 rfl rfl ?_
  refine gj_get dX8_road_5 fX8_93 q1 rfl rfl ?_
  refine gj_iconst dX8_road_8 ?_
  refine gj_isub dX8_road_9 ?_
  refine gj_cS2r dX8_road_10 mX8_75 hX8_upTo (by omega) rfl (tX8_upTo  (by omega) (by omega) (by omega)) ?_
  refine gj_ifB_eq dX8_road_13 (fun h13 => ?_) (fun h13 => ?_)
  · refine gj_bipush dX8_road_24 rfl ?_
    exact gj_iret dX8_road_26 rfl (rd_i (by unfold rdA; rw [if_neg (by omega)]))
  · refine gj_il2 dX8_road_16 ?_
    refine gj_iconst dX8_road_17 ?_
    refine gj_cS2r dX8_road_18 mX8_75 hX8_upTo (by omega) rfl (tX8_upTo  (by omega) (by omega) (by omega)) ?_
    refine gj_ifB_ne dX8_road_21 (fun h21 => ?_) (fun h21 => ?_)
    · have v9 := hRd.2.2.2.1 r (by omega) (by omega)
      refine gj_il2 dX8_road_27 ?_
      refine gj_iconst dX8_road_28 ?_
      refine gj_icmp_ne dX8_road_29 (by omega) (fun h29 => ?_) (fun h29 => ?_)
      · refine gj_al0 dX8_road_44 ?_
        refine gj_get dX8_road_45 fX8_12 q0 rfl rfl ?_
        refine gj_il1 dX8_road_48 ?_
        refine gj_il2 dX8_road_49 ?_
        refine gj_cV2r dX8_road_50 mX8_100 hX6_end q1 rfl (by omega) rfl (tX6_end  (by omega) ⟨q1, q2, q3, q4, q5, q6⟩ (by omega) (by omega)) ?_
        exact gj_iret dX8_road_53 rfl (rd_i (by unfold rdA; rw [if_pos (show (0 ≤ r ∧ r ≤ numF tx by0 - 1) ∧ (0 ≤ k ∧ k ≤ 2) from ⟨by omega, by omega⟩), if_neg (show ¬ k = 2 from h29), v9.1, v9.2.1]))
      · refine gj_al0 dX8_road_32 ?_
        refine gj_get dX8_road_33 fX8_12 q0 rfl rfl ?_
        refine gj_get dX8_road_36 fX8_96 q1 rfl rfl ?_
        refine gj_il1 dX8_road_39 ?_
        refine gj_iald dX8_road_40 q5 rfl rfl (by omega) ?_
        refine gj_goto dX8_road_41 ?_
        exact gj_iret dX8_road_53 rfl (rd_i (by unfold rdA; rw [if_pos (show (0 ≤ r ∧ r ≤ numF tx by0 - 1) ∧ (0 ≤ k ∧ k ≤ 2) from ⟨by omega, by omega⟩), if_pos h29]; exact v9.2.2))
    · refine gj_bipush dX8_road_24 rfl ?_
      exact gj_iret dX8_road_26 rfl (rd_i (by unfold rdA; rw [if_neg (by omega)]))
theorem fa_up {fa : Int → Int} {l0 k v : Int} (h : FaOK fa) (hl : 0 ≤ l0 ∧ l0 ≤ 7) (hv : 0 ≤ v ∧ v ≤ mosF k) : FaOK (upf fa (3 * l0 + k) v) := by
  intro m h0 h1
  have f := h m h0 h1
  unfold mosF at hv
  unfold upf
  by_cases k0 : k = 0
  · rw [if_pos k0] at hv
    subst k0
    rw [if_neg (show ¬ 3 * m + 1 = 3 * l0 + 0 by omega), if_neg (show ¬ 3 * m + 2 = 3 * l0 + 0 by omega)]
    split <;> omega
  · rw [if_neg k0] at hv
    by_cases k1 : k = 1
    · rw [if_pos k1] at hv
      subst k1
      rw [if_neg (show ¬ 3 * m = 3 * l0 + 1 by omega), if_neg (show ¬ 3 * m + 2 = 3 * l0 + 1 by omega)]
      split <;> omega
    · rw [if_neg k1] at hv
      by_cases k2 : k = 2
      · rw [if_pos k2] at hv
        subst k2
        rw [if_neg (show ¬ 3 * m = 3 * l0 + 2 by omega), if_neg (show ¬ 3 * m + 1 = 3 * l0 + 2 by omega)]
        split <;> omega
      · rw [if_neg k2] at hv
        omega
theorem mosF_k {k v : Int} (h : 0 ≤ v ∧ v ≤ mosF k) : 0 ≤ k ∧ k ≤ 2 := by
  unfold mosF at h
  by_cases k0 : k = 0
  · omega
  · by_cases k1 : k = 1
    · omega
    · by_cases k2 : k = 2
      · omega
      · rw [if_neg k0, if_neg k1, if_neg k2] at h
        omega
theorem mosF_R (k : Int) : -1 ≤ mosF k ∧ mosF k ≤ 16 := by
  unfold mosF
  (repeat' split) <;> omega
theorem ru_up {ru : Int → Int} {i v : Int} (h : RuOK ru) (hv : 0 ≤ v ∧ v ≤ 23) : RuOK (upf ru i v) := by
  intro j h0 h1
  have := h j h0 h1
  unfold upf
  split <;> omega
theorem fe_up {fe : Int → Int} {fc v : Int} (h : FeOK fe fc) (hc : fc < 8) (hv : 0 ≤ v ∧ v ≤ 27) : FeOK (upf fe fc v) (fc + 1) := by
  refine ⟨by omega, fun k h0 h1 => ?_⟩
  unfold upf
  by_cases e : k = fc
  · rw [if_pos e]; exact hv
  · rw [if_neg e]; exact h.2 k h0 (by omega)
def warA (W : Int → Int → Bool) (h l0 : Int) : Int := if (0 ≤ h ∧ h ≤ 671) ∧ (0 ≤ l0 ∧ l0 ≤ 7) then b2i (W h l0 = true) else -2
def strA (W : Int → Int → Bool) (h l0 a b : Int) : Int := if (0 ≤ h ∧ h ≤ 671) ∧ (0 ≤ l0 ∧ l0 ≤ 7) ∧ (0 ≤ a ∧ a ≤ 3) ∧ (0 ≤ b ∧ b ≤ 3) then b2i ((a = 0 ∨ (a = 2 ∧ h / 24 % 7 = 1)) ∧ b ≠ 3 ∧ W h l0 = true) else -2
def nxtB (W : Int → Int → Bool) (l0 z q : Int) : Bool := decide (b2i (W q l0 = true) = b2i (z = 1))
def nextA (W : Int → Int → Bool) (h l0 z : Int) : Int := if (0 ≤ h ∧ h ≤ 671) ∧ (0 ≤ l0 ∧ l0 ≤ 7) ∧ (0 ≤ z ∧ z ≤ 1) then fstZ (nxtB W l0 z) h 672 else -2
def leftA (W : Int → Int → Bool) (k l0 : Int) : Int := if (0 ≤ k ∧ k ≤ 3) ∧ (0 ≤ l0 ∧ l0 ≤ 7) then leftF W k l0 else -2
def bestA (W : Int → Int → Bool) (l0 : Int) : Int := if 0 ≤ l0 ∧ l0 ≤ 7 then argm (fun k => leftF W k l0) 3 else -2
def unlA (ru : Int → Int) (a b : Int) : Int := if (0 ≤ a ∧ a ≤ 3) ∧ (0 ≤ b ∧ b ≤ 3) then unlF ru a b else -2
def lotF (seed : Int) : Nat → Int
  | 0 => seed
  | k + 1 => 1103515245 * lotF seed k + 12345
def seasF (W : Int → Int → Bool) (seed l0 : Int) : Int := sumZ (fun k => leftF W k l0 - dayF W (k * 7 + bUshr (lotF seed (k.toNat + 1)) 16 % 7) l0) 4
def seasA (W : Int → Int → Bool) (seed l0 : Int) : Int := if 0 ≤ l0 ∧ l0 ≤ 7 then seasF W seed l0 else -2
def sieA (W : Int → Int → Bool) (br me l0 h st k : Int) : Int := if ((0 ≤ l0 ∧ l0 ≤ 7) ∧ (0 ≤ h ∧ h ≤ 671) ∧ 1 ≤ st ∧ st ≤ 999) ∧ (0 ≤ k ∧ k ≤ 1) then (if k = 0 then (bat W br me st l0 h st).1 else (bat W br me st l0 h st).2) else -2
def hldA (W : Int → Int → Bool) (br l0 h st : Int) : Int := if (0 ≤ l0 ∧ l0 ≤ 7) ∧ (0 ≤ h ∧ h ≤ 671) ∧ 1 ≤ st ∧ st ≤ 999 then hldF W br st l0 h else -2
def agrA (ru : Int → Int) (k : Int) : Int := if 0 ≤ k ∧ k ≤ 2 then (if k = 0 then 4 - likF ru (comF ru 3) else ru (2 * comF ru 3 + (k - 1))) else -2
def midA (ru : Int → Int) (k : Int) : Int := if 0 ≤ k ∧ k ≤ 2 then (if k = 0 then chgF ru 0 (midF ru 0) + chgF ru 1 (midF ru 1) else if k = 1 then midF ru 0 else midF ru 1) else -2
def wchN (p : Int → Bool) : Nat → Int
  | 0 => 0
  | k + 1 => if p (k : Int) = true then bOr (wchN p k) (bShl 1 (k : Int)) else wchN p k
def wchF (W : Int → Int → Bool) (mh ml mw : Int → Int) (mn : Int) : Int := wchN (fun day => fitZ W mh ml mw day mn) 28
theorem wch_s (p : Int → Bool) {i : Int} (h : 0 ≤ i) : wchN p (i + 1).toNat = if p i = true then bOr (wchN p i.toNat) (bShl 1 i) else wchN p i.toNat := by
  rw [show (i + 1).toNat = i.toNat + 1 by omega, wchN, show ((i.toNat : Nat) : Int) = i by omega]
def cntA (tx : Int → Int) (by0 : Int) (fa : Int → Int) (fc mn br me fi k : Int) : Int := if k = 0 then numF tx by0 else if k = 1 then by0 else if k = 2 then fc else if k = 3 then mn else if k = 4 then sumZ (fun i => fa (3 * i + 1)) 8 else if k = 5 then sumZ (fun r => tx (4 * r + 2) - 48) (numF tx by0) else if k = 6 then br else if k = 7 then me else if k = 8 then fi else -2
set_option maxRecDepth 20000 in
set_option maxHeartbeats 4000000 in
theorem tX8_land {l : Launch} {x : Cx} {d : Nat} {w : AW} {tx : Int → Int} {by0 : Int} {ru fa fe : Int → Int} {fc lw br me : Int} {mh ml mw : Int → Int} {mn fi : Int} {fm ln : Int → Int} {it : Int → Int → Int} {l0 k v : Int} (hd : 2 ≤ d) (hC : ClassC w tx by0 ru fa fe fc lw br me mh ml mw mn fi fm ln it) (hl0 : R32 l0) (hk : R32 k) (hv : R32 v) : Mt l x iX8_land d 0 0 50 w [vR 0, vI l0, vI k, vI v] (fun v2 w2 => (((0 ≤ l0 ∧ l0 ≤ 7) ∧ (0 ≤ v ∧ v ≤ mosF k)) ∧ v2 = some (vI (fa (3 * l0 + k))) ∧ ClassC w2 tx by0 ru (upf fa (3 * l0 + k) v) fe fc lw br me mh ml mw mn fi fm ln it ∧ ∀ k : Nat, 32 ≤ k → w2 k = w k) ∨ (¬ ((0 ≤ l0 ∧ l0 ≤ 7) ∧ (0 ≤ v ∧ v ≤ mosF k)) ∧ v2 = some (vI (-2)) ∧ w2 = w)) := by
  have hC0 := hC
  obtain ⟨q0, ⟨on, ot, ho, wy, nu, fl, ⟨q1, q2, q3, q4, q5, q6⟩, hRd⟩, ⟨fd, ⟨q9, q10, q11⟩, ⟨q7, q8⟩, hO⟩, ⟨la, be, ne, q12, q13, q14⟩, ⟨sl, q15⟩, hbm, ⟨go, st, bn, B, ra, rb, q16, q17, q18⟩, ⟨⟨q19, q20, q21, q22⟩, hMm⟩, hSh⟩ := hC
  have hW : WarC w fa (warB lw fa ru fe fc) := ⟨fe, ru, fc, fd, lw, ⟨q9, q10, q11⟩, ⟨q7, q8⟩, hO, rfl⟩
  have hE := hRd.ed
  have hM := hRd.mat
  have k9 := mosF_R k
  have e3 : 3 * l0 + k = l0 * 3 + k := by omega
  refine Mt.of (L0 := [some (vR 0), some (vI l0), some (vI k), some (vI v)]) rfl rfl rfl ?_
  refine gj_il1 dX8_land_0 ?_
  refine gj_cS1r dX8_land_1 mX8_104 hX8_isLand (by omega) rfl (tX8_isLand  (by omega) (by omega)) ?_
  refine gj_ifB_eq dX8_land_4 (fun h4 => ?_) (fun h4 => ?_)
  · refine gj_bipush dX8_land_18 rfl ?_
    exact gj_iret dX8_land_20 rfl (Or.inr ⟨by omega, rfl, rfl⟩)
  · refine gj_il3 dX8_land_7 ?_
    refine gj_il2 dX8_land_8 ?_
    refine gj_cS1r dX8_land_9 mX8_107 hX5_mostOf (by omega) rfl (tX5_mostOf  (by omega) (by omega)) ?_
    refine gj_cS2r dX8_land_12 mX8_75 hX8_upTo (by omega) rfl (tX8_upTo  (by omega) (by omega) (by omega)) ?_
    refine gj_ifB_ne dX8_land_15 (fun h15 => ?_) (fun h15 => ?_)
    · refine gj_al0 dX8_land_21 ?_
      refine gj_get dX8_land_22 fX8_28 q0 rfl rfl ?_
      refine gj_il1 dX8_land_25 ?_
      refine gj_il2 dX8_land_26 ?_
      refine gj_il3 dX8_land_27 ?_
      refine gj_cV3w dX8_land_28 mX8_111 hX5_put q9 rfl (by omega) rfl (tX5_put  (by omega) ⟨q9, q10, q11⟩ (by omega) (mosF_k h15)) (fun w28 P28 => ?_)
      obtain rfl := P28
      exact gj_iret dX8_land_31 rfl (Or.inl ⟨⟨h4, h15⟩, by rw [e3], ⟨⟨(upw_o (by decide) q0), ⟨_, _, _, _, _, _, ⟨(upw_o (by decide) q1), (upw_o (by decide) q2), (upw_o (by decide) q3), (upw_o (by decide) q4), (upw_o (by decide) q5), (upw_o (by decide) q6)⟩, hRd⟩, ⟨_, ⟨(upw_o (by decide) q9), by rw [e3]; exact upw_s, (upw_o (by decide) q11)⟩, ⟨(upw_o (by decide) q7), (upw_o (by decide) q8)⟩, ⟨fa_up hO.1 h4 h15, hO.2⟩⟩, ⟨_, _, _, (upw_o (by decide) q12), (upw_o (by decide) q13), (upw_o (by decide) q14)⟩, ⟨_, (upw_o (by decide) q15)⟩, hbm, ⟨_, _, _, B, _, _, (upw_o (by decide) q16), (upw_o (by decide) q17), (upw_o (by decide) q18)⟩, ⟨⟨(upw_o (by decide) q19), (upw_o (by decide) q20), (upw_o (by decide) q21), (upw_o (by decide) q22)⟩, hMm⟩, (SheetsC.up (by decide) hSh)⟩, (fun k hk => upw_o (by omega) ((fun (k : Nat) (_ : 32 ≤ k) => rfl) k hk))⟩⟩)
    · refine gj_bipush dX8_land_18 rfl ?_
      exact gj_iret dX8_land_20 rfl (Or.inr ⟨by omega, rfl, rfl⟩)
set_option maxRecDepth 20000 in
set_option maxHeartbeats 4000000 in
theorem tX8_bell {l : Launch} {x : Cx} {d : Nat} {w : AW} {tx : Int → Int} {by0 : Int} {ru fa fe : Int → Int} {fc lw br me : Int} {mh ml mw : Int → Int} {mn fi : Int} {fm ln : Int → Int} {it : Int → Int → Int} {p k v : Int} (hd : 2 ≤ d) (hC : ClassC w tx by0 ru fa fe fc lw br me mh ml mw mn fi fm ln it) (hp : R32 p) (hk : R32 k) (hv : R32 v) : Mt l x iX8_bell d 0 0 50 w [vR 0, vI p, vI k, vI v] (fun v2 w2 => (((0 ≤ p ∧ p ≤ 3) ∧ (0 ≤ k ∧ k ≤ 1) ∧ (0 ≤ v ∧ v ≤ 23)) ∧ v2 = some (vI (ru (2 * p + k))) ∧ ClassC w2 tx by0 (upf ru (2 * p + k) v) fa fe fc lw br me mh ml mw mn fi fm ln it ∧ ∀ k : Nat, 32 ≤ k → w2 k = w k) ∨ (¬ ((0 ≤ p ∧ p ≤ 3) ∧ (0 ≤ k ∧ k ≤ 1) ∧ (0 ≤ v ∧ v ≤ 23)) ∧ v2 = some (vI (-2)) ∧ w2 = w)) := by
  have hC0 := hC
  obtain ⟨q0, ⟨on, ot, ho, wy, nu, fl, ⟨q1, q2, q3, q4, q5, q6⟩, hRd⟩, ⟨fd, ⟨q9, q10, q11⟩, ⟨q7, q8⟩, hO⟩, ⟨la, be, ne, q12, q13, q14⟩, ⟨sl, q15⟩, hbm, ⟨go, st, bn, B, ra, rb, q16, q17, q18⟩, ⟨⟨q19, q20, q21, q22⟩, hMm⟩, hSh⟩ := hC
  have hW : WarC w fa (warB lw fa ru fe fc) := ⟨fe, ru, fc, fd, lw, ⟨q9, q10, q11⟩, ⟨q7, q8⟩, hO, rfl⟩
  have hE := hRd.ed
  have hM := hRd.mat
  refine Mt.of (L0 := [some (vR 0), some (vI p), some (vI k), some (vI v)]) rfl rfl rfl ?_
  refine gj_il1 dX8_bell_0 ?_
  refine gj_cS1r dX8_bell_1 mX8_115 hX8_isParish (by omega) rfl (tX8_isParish  (by omega) (by omega)) ?_
  refine gj_ifB_eq dX8_bell_4 (fun h4 => ?_) (fun h4 => ?_)
  · refine gj_bipush dX8_bell_24 rfl ?_
    exact gj_iret dX8_bell_26 rfl (Or.inr ⟨by omega, rfl, rfl⟩)
  · refine gj_il2 dX8_bell_7 ?_
    refine gj_iconst dX8_bell_8 ?_
    refine gj_cS2r dX8_bell_9 mX8_75 hX8_upTo (by omega) rfl (tX8_upTo  (by omega) (by omega) (by omega)) ?_
    refine gj_ifB_eq dX8_bell_12 (fun h12 => ?_) (fun h12 => ?_)
    · refine gj_bipush dX8_bell_24 rfl ?_
      exact gj_iret dX8_bell_26 rfl (Or.inr ⟨by omega, rfl, rfl⟩)
    · refine gj_il3 dX8_bell_15 ?_
      refine gj_bipush dX8_bell_16 rfl ?_
      refine gj_cS2r dX8_bell_18 mX8_75 hX8_upTo (by omega) rfl (tX8_upTo  (by omega) (by omega) (by omega)) ?_
      refine gj_ifB_ne dX8_bell_21 (fun h21 => ?_) (fun h21 => ?_)
      · refine gj_al0 dX8_bell_27 ?_
        refine gj_get dX8_bell_28 fX8_19 q0 rfl rfl ?_
        refine gj_iconst dX8_bell_31 ?_
        refine gj_il1 dX8_bell_32 ?_
        refine gj_imul dX8_bell_33 ?_
        refine gj_il2 dX8_bell_34 ?_
        refine gj_iadd dX8_bell_35 ?_
        refine gj_il3 dX8_bell_36 ?_
        refine gj_cV2w dX8_bell_37 mX8_118 hX0_put q7 rfl (by omega) rfl (tX0_put  (by omega) ⟨q7, q8⟩ (by omega)) (fun w37 P37 => ?_)
        obtain rfl := P37
        exact gj_iret dX8_bell_40 rfl (Or.inl ⟨⟨h4, h12, h21⟩, rfl, ⟨⟨(upw_o (by decide) q0), ⟨_, _, _, _, _, _, ⟨(upw_o (by decide) q1), (upw_o (by decide) q2), (upw_o (by decide) q3), (upw_o (by decide) q4), (upw_o (by decide) q5), (upw_o (by decide) q6)⟩, hRd⟩, ⟨_, ⟨(upw_o (by decide) q9), (upw_o (by decide) q10), (upw_o (by decide) q11)⟩, ⟨(upw_o (by decide) q7), upw_s⟩, ⟨hO.1, ru_up hO.2.1 h21, hO.2.2⟩⟩, ⟨_, _, _, (upw_o (by decide) q12), (upw_o (by decide) q13), (upw_o (by decide) q14)⟩, ⟨_, (upw_o (by decide) q15)⟩, hbm, ⟨_, _, _, B, _, _, (upw_o (by decide) q16), (upw_o (by decide) q17), (upw_o (by decide) q18)⟩, ⟨⟨(upw_o (by decide) q19), (upw_o (by decide) q20), (upw_o (by decide) q21), (upw_o (by decide) q22)⟩, hMm⟩, (SheetsC.up (by decide) hSh)⟩, (fun k hk => upw_o (by omega) ((fun (k : Nat) (_ : 32 ≤ k) => rfl) k hk))⟩⟩)
      · refine gj_bipush dX8_bell_24 rfl ?_
        exact gj_iret dX8_bell_26 rfl (Or.inr ⟨by omega, rfl, rfl⟩)
set_option maxRecDepth 20000 in
set_option maxHeartbeats 4000000 in
theorem tX8_feast {l : Launch} {x : Cx} {d : Nat} {w : AW} {tx : Int → Int} {by0 : Int} {ru fa fe : Int → Int} {fc lw br me : Int} {mh ml mw : Int → Int} {mn fi : Int} {fm ln : Int → Int} {it : Int → Int → Int} {v : Int} (hd : 2 ≤ d) (hC : ClassC w tx by0 ru fa fe fc lw br me mh ml mw mn fi fm ln it) (hv : R32 v) : Mt l x iX8_feast d 0 0 50 w [vR 0, vI v] (fun v2 w2 => ((0 ≤ v ∧ v ≤ 27) ∧ fc < 8 ∧ v2 = some (vI (fc + 1)) ∧ ClassC w2 tx by0 ru fa (upf fe fc v) (fc + 1) lw br me mh ml mw mn fi fm ln it ∧ ∀ k : Nat, 32 ≤ k → w2 k = w k) ∨ ((0 ≤ v ∧ v ≤ 27) ∧ ¬ fc < 8 ∧ v2 = some (vI (-4)) ∧ w2 = w) ∨ (¬ (0 ≤ v ∧ v ≤ 27) ∧ v2 = some (vI (-2)) ∧ w2 = w)) := by
  have hC0 := hC
  obtain ⟨q0, ⟨on, ot, ho, wy, nu, fl, ⟨q1, q2, q3, q4, q5, q6⟩, hRd⟩, ⟨fd, ⟨q9, q10, q11⟩, ⟨q7, q8⟩, hO⟩, ⟨la, be, ne, q12, q13, q14⟩, ⟨sl, q15⟩, hbm, ⟨go, st, bn, B, ra, rb, q16, q17, q18⟩, ⟨⟨q19, q20, q21, q22⟩, hMm⟩, hSh⟩ := hC
  have hW : WarC w fa (warB lw fa ru fe fc) := ⟨fe, ru, fc, fd, lw, ⟨q9, q10, q11⟩, ⟨q7, q8⟩, hO, rfl⟩
  have hE := hRd.ed
  have hM := hRd.mat
  refine Mt.of (L0 := [some (vR 0), some (vI v)]) rfl rfl rfl ?_
  refine gj_il1 dX8_feast_0 ?_
  refine gj_bipush dX8_feast_1 rfl ?_
  refine gj_cS2r dX8_feast_3 mX8_75 hX8_upTo (by omega) rfl (tX8_upTo  (by omega) (by omega) (by omega)) ?_
  refine gj_ifB_ne dX8_feast_6 (fun h6 => ?_) (fun h6 => ?_)
  · refine gj_al0 dX8_feast_12 ?_
    refine gj_get dX8_feast_13 fX8_28 q0 rfl rfl ?_
    refine gj_il1 dX8_feast_16 ?_
    refine gj_cV1x dX8_feast_17 mX8_141 hX5_addFeast q9 rfl (by omega) rfl (tX5_addFeast  (by omega) ⟨q9, q10, q11⟩ hO.2.2.1 (by omega)) (fun v17 w17 P17 => ?_)
    rcases P17 with ⟨hc17, rfl, rfl⟩ | ⟨hc17, rfl, rfl⟩
    · simp only [Option.toList, List.cons_append, List.nil_append]
      refine gj_if_eq dX8_feast_20 (by omega) (fun h => absurd h (by omega)) (fun _ => ?_)
      refine gj_al0 dX8_feast_23 ?_
      refine gj_get dX8_feast_24 fX8_28 (upw_o (by decide) (upw_o (by decide) q0)) rfl rfl ?_
      refine gj_get dX8_feast_27 fX8_144 upw_s rfl rfl ?_
      refine gj_goto dX8_feast_30 ?_
      exact gj_iret dX8_feast_35 rfl (Or.inl ⟨h6, hc17, rfl, ⟨⟨(upw_o (by decide) (upw_o (by decide) q0)), ⟨_, _, _, _, _, _, ⟨(upw_o (by decide) (upw_o (by decide) q1)), (upw_o (by decide) (upw_o (by decide) q2)), (upw_o (by decide) (upw_o (by decide) q3)), (upw_o (by decide) (upw_o (by decide) q4)), (upw_o (by decide) (upw_o (by decide) q5)), (upw_o (by decide) (upw_o (by decide) q6))⟩, hRd⟩, ⟨_, ⟨upw_s, (upw_o (by decide) (upw_o (by decide) q10)), (upw_o (by decide) upw_s)⟩, ⟨(upw_o (by decide) (upw_o (by decide) q7)), (upw_o (by decide) (upw_o (by decide) q8))⟩, ⟨hO.1, hO.2.1, fe_up hO.2.2.1 hc17 h6, hO.2.2.2.1, rfl⟩⟩, ⟨_, _, _, (upw_o (by decide) (upw_o (by decide) q12)), (upw_o (by decide) (upw_o (by decide) q13)), (upw_o (by decide) (upw_o (by decide) q14))⟩, ⟨_, (upw_o (by decide) (upw_o (by decide) q15))⟩, hbm, ⟨_, _, _, B, _, _, (upw_o (by decide) (upw_o (by decide) q16)), (upw_o (by decide) (upw_o (by decide) q17)), (upw_o (by decide) (upw_o (by decide) q18))⟩, ⟨⟨(upw_o (by decide) (upw_o (by decide) q19)), (upw_o (by decide) (upw_o (by decide) q20)), (upw_o (by decide) (upw_o (by decide) q21)), (upw_o (by decide) (upw_o (by decide) q22))⟩, hMm⟩, (SheetsC.up (by decide) (SheetsC.up (by decide) hSh))⟩, (fun k hk => upw_o (by omega) ((fun k hk => upw_o (by omega) ((fun (k : Nat) (_ : 32 ≤ k) => rfl) k hk)) k hk))⟩⟩)
    · simp only [Option.toList, List.cons_append, List.nil_append]
      refine gj_if_eq dX8_feast_20 (by omega) (fun _ => ?_) (fun h => absurd h (by omega))
      refine gj_bipush dX8_feast_33 rfl ?_
      exact gj_iret dX8_feast_35 rfl (Or.inr (Or.inl ⟨h6, hc17, rfl, rfl⟩))
  · refine gj_bipush dX8_feast_9 rfl ?_
    exact gj_iret dX8_feast_11 rfl (Or.inr (Or.inr ⟨h6, rfl, rfl⟩))
set_option maxRecDepth 20000 in
set_option maxHeartbeats 4000000 in
theorem tX8_back {l : Launch} {x : Cx} {d : Nat} {w : AW} {tx : Int → Int} {by0 : Int} {ru fa fe : Int → Int} {fc lw br me : Int} {mh ml mw : Int → Int} {mn fi : Int} {fm ln : Int → Int} {it : Int → Int → Int}  (hd : 2 ≤ d) (hC : ClassC w tx by0 ru fa fe fc lw br me mh ml mw mn fi fm ln it) : Mt l x iX8_back d 0 0 50 w [vR 0] (fun v2 w2 => (fc ≠ 0 ∧ v2 = some (vI (fc - 1)) ∧ ClassC w2 tx by0 ru fa fe (fc - 1) lw br me mh ml mw mn fi fm ln it ∧ ∀ k : Nat, 32 ≤ k → w2 k = w k) ∨ (fc = 0 ∧ v2 = some (vI (-3)) ∧ w2 = w)) := by
  have hC0 := hC
  obtain ⟨q0, ⟨on, ot, ho, wy, nu, fl, ⟨q1, q2, q3, q4, q5, q6⟩, hRd⟩, ⟨fd, ⟨q9, q10, q11⟩, ⟨q7, q8⟩, hO⟩, ⟨la, be, ne, q12, q13, q14⟩, ⟨sl, q15⟩, hbm, ⟨go, st, bn, B, ra, rb, q16, q17, q18⟩, ⟨⟨q19, q20, q21, q22⟩, hMm⟩, hSh⟩ := hC
  have hW : WarC w fa (warB lw fa ru fe fc) := ⟨fe, ru, fc, fd, lw, ⟨q9, q10, q11⟩, ⟨q7, q8⟩, hO, rfl⟩
  have hE := hRd.ed
  have hM := hRd.mat
  refine Mt.of (L0 := [some (vR 0)]) rfl rfl rfl ?_
  refine gj_al0 dX8_back_0 ?_
  refine gj_get dX8_back_1 fX8_28 q0 rfl rfl ?_
  refine gj_cV0x dX8_back_4 mX8_147 hX5_dropFeast q9 rfl (by omega) rfl (tX5_dropFeast  (by omega) ⟨q9, q10, q11⟩ hO.2.2.1) (fun v4 w4 P4 => ?_)
  rcases P4 with ⟨hc4, rfl, rfl⟩ | ⟨hc4, rfl, rfl⟩
  · simp only [Option.toList, List.cons_append, List.nil_append]
    refine gj_if_eq dX8_back_7 (by omega) (fun h => absurd h (by omega)) (fun _ => ?_)
    refine gj_al0 dX8_back_10 ?_
    refine gj_get dX8_back_11 fX8_28 (upw_o (by decide) q0) rfl rfl ?_
    refine gj_get dX8_back_14 fX8_144 upw_s rfl rfl ?_
    refine gj_goto dX8_back_17 ?_
    exact gj_iret dX8_back_22 rfl (Or.inl ⟨hc4, rfl, ⟨⟨(upw_o (by decide) q0), ⟨_, _, _, _, _, _, ⟨(upw_o (by decide) q1), (upw_o (by decide) q2), (upw_o (by decide) q3), (upw_o (by decide) q4), (upw_o (by decide) q5), (upw_o (by decide) q6)⟩, hRd⟩, ⟨_, ⟨upw_s, (upw_o (by decide) q10), (upw_o (by decide) q11)⟩, ⟨(upw_o (by decide) q7), (upw_o (by decide) q8)⟩, ⟨hO.1, hO.2.1, ⟨(by have := hO.2.2.1.1; omega), fun k g0 g1 => hO.2.2.1.2 k g0 (by omega)⟩, hO.2.2.2.1, rfl⟩⟩, ⟨_, _, _, (upw_o (by decide) q12), (upw_o (by decide) q13), (upw_o (by decide) q14)⟩, ⟨_, (upw_o (by decide) q15)⟩, hbm, ⟨_, _, _, B, _, _, (upw_o (by decide) q16), (upw_o (by decide) q17), (upw_o (by decide) q18)⟩, ⟨⟨(upw_o (by decide) q19), (upw_o (by decide) q20), (upw_o (by decide) q21), (upw_o (by decide) q22)⟩, hMm⟩, (SheetsC.up (by decide) hSh)⟩, (fun k hk => upw_o (by omega) ((fun (k : Nat) (_ : 32 ≤ k) => rfl) k hk))⟩⟩)
  · simp only [Option.toList, List.cons_append, List.nil_append]
    refine gj_if_eq dX8_back_7 (by omega) (fun _ => ?_) (fun h => absurd h (by omega))
    refine gj_bipush dX8_back_20 rfl ?_
    exact gj_iret dX8_back_22 rfl (Or.inr ⟨hc4, rfl, rfl⟩)
set_option maxRecDepth 20000 in
set_option maxHeartbeats 4000000 in
theorem tX8_lent {l : Launch} {x : Cx} {d : Nat} {w : AW} {tx : Int → Int} {by0 : Int} {ru fa fe : Int → Int} {fc lw br me : Int} {mh ml mw : Int → Int} {mn fi : Int} {fm ln : Int → Int} {it : Int → Int → Int} {v : Int} (hd : 1 ≤ d) (hC : ClassC w tx by0 ru fa fe fc lw br me mh ml mw mn fi fm ln it) (hv : R32 v) : Mt l x iX8_lent d 0 0 50 w [vR 0, vI v] (fun v2 w2 => ((0 ≤ v ∧ v ≤ 15) ∧ v2 = some (vI (lw)) ∧ ClassC w2 tx by0 ru fa fe fc v br me mh ml mw mn fi fm ln it ∧ ∀ k : Nat, 32 ≤ k → w2 k = w k) ∨ (¬ (0 ≤ v ∧ v ≤ 15) ∧ v2 = some (vI (-2)) ∧ w2 = w)) := by
  have hC0 := hC
  obtain ⟨q0, ⟨on, ot, ho, wy, nu, fl, ⟨q1, q2, q3, q4, q5, q6⟩, hRd⟩, ⟨fd, ⟨q9, q10, q11⟩, ⟨q7, q8⟩, hO⟩, ⟨la, be, ne, q12, q13, q14⟩, ⟨sl, q15⟩, hbm, ⟨go, st, bn, B, ra, rb, q16, q17, q18⟩, ⟨⟨q19, q20, q21, q22⟩, hMm⟩, hSh⟩ := hC
  have hW : WarC w fa (warB lw fa ru fe fc) := ⟨fe, ru, fc, fd, lw, ⟨q9, q10, q11⟩, ⟨q7, q8⟩, hO, rfl⟩
  have hE := hRd.ed
  have hM := hRd.mat
  refine Mt.of (L0 := [some (vR 0), some (vI v), none]) rfl rfl rfl ?_
  refine gj_il1 dX8_lent_0 ?_
  refine gj_bipush dX8_lent_1 rfl ?_
  refine gj_cS2r dX8_lent_3 mX8_75 hX8_upTo (by omega) rfl (tX8_upTo  (by omega) (by omega) (by omega)) ?_
  refine gj_ifB_ne dX8_lent_6 (fun h6 => ?_) (fun h6 => ?_)
  · refine gj_al0 dX8_lent_12 ?_
    refine gj_get dX8_lent_13 fX8_28 q0 rfl rfl ?_
    refine gj_get dX8_lent_16 fX8_151 q9 rfl rfl ?_
    refine gj_is2 dX8_lent_19 rfl rfl ?_
    refine gj_al0 dX8_lent_20 ?_
    refine gj_get dX8_lent_21 fX8_28 q0 rfl rfl ?_
    refine gj_il1 dX8_lent_24 ?_
    refine gj_pI5 dX8_lent_25 fX8_151 q9 rfl ?_
    refine gj_il2 dX8_lent_28 ?_
    exact gj_iret dX8_lent_29 rfl (Or.inl ⟨h6, rfl, ⟨⟨(upw_o (by decide) q0), ⟨_, _, _, _, _, _, ⟨(upw_o (by decide) q1), (upw_o (by decide) q2), (upw_o (by decide) q3), (upw_o (by decide) q4), (upw_o (by decide) q5), (upw_o (by decide) q6)⟩, hRd⟩, ⟨_, ⟨upw_s, (upw_o (by decide) q10), (upw_o (by decide) q11)⟩, ⟨(upw_o (by decide) q7), (upw_o (by decide) q8)⟩, ⟨hO.1, hO.2.1, hO.2.2.1, h6, hO.2.2.2.2⟩⟩, ⟨_, _, _, (upw_o (by decide) q12), (upw_o (by decide) q13), (upw_o (by decide) q14)⟩, ⟨_, (upw_o (by decide) q15)⟩, hbm, ⟨_, _, _, B, _, _, (upw_o (by decide) q16), (upw_o (by decide) q17), (upw_o (by decide) q18)⟩, ⟨⟨(upw_o (by decide) q19), (upw_o (by decide) q20), (upw_o (by decide) q21), (upw_o (by decide) q22)⟩, hMm⟩, (SheetsC.up (by decide) hSh)⟩, (fun k hk => upw_o (by omega) ((fun (k : Nat) (_ : 32 ≤ k) => rfl) k hk))⟩⟩)
  · refine gj_bipush dX8_lent_9 rfl ?_
    exact gj_iret dX8_lent_11 rfl (Or.inr ⟨h6, rfl, rfl⟩)
set_option maxRecDepth 20000 in
set_option maxHeartbeats 4000000 in
theorem tX8_war {l : Launch} {x : Cx} {d : Nat} {w : AW} {tx : Int → Int} {by0 : Int} {ru fa fe : Int → Int} {fc lw br me : Int} {mh ml mw : Int → Int} {mn fi : Int} {fm ln : Int → Int} {it : Int → Int → Int} {h l0 : Int} (hd : 3 ≤ d) (hC : ClassC w tx by0 ru fa fe fc lw br me mh ml mw mn fi fm ln it) (hh : R32 h) (hl0 : R32 l0) : Mt l x iX8_war d 0 0 50 w [vR 0, vI h, vI l0] (Rd (vI (warA (warB lw fa ru fe fc) h l0)) w) := by
  have hC0 := hC
  obtain ⟨q0, ⟨on, ot, ho, wy, nu, fl, ⟨q1, q2, q3, q4, q5, q6⟩, hRd⟩, ⟨fd, ⟨q9, q10, q11⟩, ⟨q7, q8⟩, hO⟩, ⟨la, be, ne, q12, q13, q14⟩, ⟨sl, q15⟩, hbm, ⟨go, st, bn, B, ra, rb, q16, q17, q18⟩, ⟨⟨q19, q20, q21, q22⟩, hMm⟩, hSh⟩ := hC
  have hW : WarC w fa (warB lw fa ru fe fc) := ⟨fe, ru, fc, fd, lw, ⟨q9, q10, q11⟩, ⟨q7, q8⟩, hO, rfl⟩
  have hE := hRd.ed
  have hM := hRd.mat
  refine Mt.of (L0 := [some (vR 0), some (vI h), some (vI l0)]) rfl rfl rfl ?_
  refine gj_il1 dX8_war_0 ?_
  refine gj_cS1r dX8_war_1 mX8_154 hX8_isHour (by omega) rfl (tX8_isHour  (by omega) (by omega)) ?_
  refine gj_ifB_eq dX8_war_4 (fun h4 => ?_) (fun h4 => ?_)
  · refine gj_bipush dX8_war_14 rfl ?_
    exact gj_iret dX8_war_16 rfl (rd_i (by unfold warA; rw [if_neg (by omega)]))
  · refine gj_il2 dX8_war_7 ?_
    refine gj_cS1r dX8_war_8 mX8_104 hX8_isLand (by omega) rfl (tX8_isLand  (by omega) (by omega)) ?_
    refine gj_ifB_ne dX8_war_11 (fun h11 => ?_) (fun h11 => ?_)
    · refine gj_al0 dX8_war_17 ?_
      refine gj_get dX8_war_18 fX8_28 q0 rfl rfl ?_
      refine gj_il1 dX8_war_21 ?_
      refine gj_il2 dX8_war_22 ?_
      refine gj_cV2r dX8_war_23 mX8_157 hX5_isWar q9 rfl (by omega) rfl (tWar  (by omega) hW (by omega) (by omega)) ?_
      refine gj_ifB_eq dX8_war_26 (fun h26 => ?_) (fun h26 => ?_)
      · refine gj_iconst dX8_war_33 ?_
        exact gj_iret dX8_war_34 rfl (rd_i (by unfold warA; rw [if_pos (by omega), b2i_f h26]))
      · refine gj_iconst dX8_war_29 ?_
        refine gj_goto dX8_war_30 ?_
        exact gj_iret dX8_war_34 rfl (rd_i (by unfold warA; rw [if_pos (by omega), b2i_t h26]))
    · refine gj_bipush dX8_war_14 rfl ?_
      exact gj_iret dX8_war_16 rfl (rd_i (by unfold warA; rw [if_neg (by omega)]))
set_option maxRecDepth 20000 in
set_option maxHeartbeats 4000000 in
theorem tX8_strikes {l : Launch} {x : Cx} {d : Nat} {w : AW} {tx : Int → Int} {by0 : Int} {ru fa fe : Int → Int} {fc lw br me : Int} {mh ml mw : Int → Int} {mn fi : Int} {fm ln : Int → Int} {it : Int → Int → Int} {h l0 a b : Int} (hd : 3 ≤ d) (hC : ClassC w tx by0 ru fa fe fc lw br me mh ml mw mn fi fm ln it) (hh : R32 h) (hl0 : R32 l0) (ha : R32 a) (hb : R32 b) : Mt l x iX8_strikes d 0 0 50 w [vR 0, vI h, vI l0, vI a, vI b] (Rd (vI (strA (warB lw fa ru fe fc) h l0 a b)) w) := by
  have hC0 := hC
  obtain ⟨q0, ⟨on, ot, ho, wy, nu, fl, ⟨q1, q2, q3, q4, q5, q6⟩, hRd⟩, ⟨fd, ⟨q9, q10, q11⟩, ⟨q7, q8⟩, hO⟩, ⟨la, be, ne, q12, q13, q14⟩, ⟨sl, q15⟩, hbm, ⟨go, st, bn, B, ra, rb, q16, q17, q18⟩, ⟨⟨q19, q20, q21, q22⟩, hMm⟩, hSh⟩ := hC
  have hW : WarC w fa (warB lw fa ru fe fc) := ⟨fe, ru, fc, fd, lw, ⟨q9, q10, q11⟩, ⟨q7, q8⟩, hO, rfl⟩
  have hE := hRd.ed
  have hM := hRd.mat
  refine Mt.of (L0 := [some (vR 0), some (vI h), some (vI l0), some (vI a), some (vI b), none]) rfl rfl rfl ?_
  refine gj_il1 dX8_strikes_0 ?_
  refine gj_cS1r dX8_strikes_1 mX8_154 hX8_isHour (by omega) rfl (tX8_isHour  (by omega) (by omega)) ?_
  refine gj_ifB_eq dX8_strikes_4 (fun h4 => ?_) (fun h4 => ?_)
  · refine gj_bipush dX8_strikes_29 rfl ?_
    exact gj_iret dX8_strikes_31 rfl (rd_i (by unfold strA; rw [if_neg (by omega)]))
  · refine gj_il2 dX8_strikes_7 ?_
    refine gj_cS1r dX8_strikes_8 mX8_104 hX8_isLand (by omega) rfl (tX8_isLand  (by omega) (by omega)) ?_
    refine gj_ifB_eq dX8_strikes_11 (fun h11 => ?_) (fun h11 => ?_)
    · refine gj_bipush dX8_strikes_29 rfl ?_
      exact gj_iret dX8_strikes_31 rfl (rd_i (by unfold strA; rw [if_neg (by omega)]))
    · refine gj_il3 dX8_strikes_14 ?_
      refine gj_cS1r dX8_strikes_15 mX8_160 hX8_isKind (by omega) rfl (tX8_isKind  (by omega) (by omega)) ?_
      refine gj_ifB_eq dX8_strikes_18 (fun h18 => ?_) (fun h18 => ?_)
      · refine gj_bipush dX8_strikes_29 rfl ?_
        exact gj_iret dX8_strikes_31 rfl (rd_i (by unfold strA; rw [if_neg (by omega)]))
      · refine gj_il4 dX8_strikes_21 ?_
        refine gj_cS1r dX8_strikes_23 mX8_160 hX8_isKind (by omega) rfl (tX8_isKind  (by omega) (by omega)) ?_
        refine gj_ifB_ne dX8_strikes_26 (fun h26 => ?_) (fun h26 => ?_)
        · refine gj_il3 dX8_strikes_32 ?_
          refine gj_if_eq dX8_strikes_33 (by omega) (fun h33 => ?_) (fun h33 => ?_)
          · refine gj_iconst dX8_strikes_52 ?_
            refine gj_goto dX8_strikes_53 ?_
            refine gj_is5 dX8_strikes_57 rfl rfl ?_
            refine gj_il5 dX8_strikes_59 ?_
            refine gj_if_eq dX8_strikes_61 (by omega) (fun h => absurd h (by omega)) (fun _ => ?_)
            refine gj_il4 dX8_strikes_64 ?_
            refine gj_iconst dX8_strikes_66 ?_
            refine gj_icmp_eq dX8_strikes_67 (by omega) (fun h67 => ?_) (fun h67 => ?_)
            · refine gj_iconst dX8_strikes_86 ?_
              exact gj_iret dX8_strikes_87 rfl (rd_i (by unfold strA; rw [if_pos (by omega)]; first | exact (b2i_t ⟨by omega, by omega, h79⟩).symm | exact (b2i_f (fun z => h79 z.2.2)).symm | exact (b2i_f (by omega)).symm))
            · refine gj_al0 dX8_strikes_70 ?_
              refine gj_get dX8_strikes_71 fX8_28 q0 rfl rfl ?_
              refine gj_il1 dX8_strikes_74 ?_
              refine gj_il2 dX8_strikes_75 ?_
              refine gj_cV2r dX8_strikes_76 mX8_157 hX5_isWar q9 rfl (by omega) rfl (tWar  (by omega) hW (by omega) (by omega)) ?_
              refine gj_ifB_eq dX8_strikes_79 (fun h79 => ?_) (fun h79 => ?_)
              · refine gj_iconst dX8_strikes_86 ?_
                exact gj_iret dX8_strikes_87 rfl (rd_i (by unfold strA; rw [if_pos (by omega)]; first | exact (b2i_t ⟨by omega, by omega, h79⟩).symm | exact (b2i_f (fun z => h79 z.2.2)).symm | exact (b2i_f (by omega)).symm))
              · refine gj_iconst dX8_strikes_82 ?_
                refine gj_goto dX8_strikes_83 ?_
                exact gj_iret dX8_strikes_87 rfl (rd_i (by unfold strA; rw [if_pos (by omega)]; first | exact (b2i_t ⟨by omega, by omega, h79⟩).symm | exact (b2i_f (fun z => h79 z.2.2)).symm | exact (b2i_f (by omega)).symm))
          · refine gj_il3 dX8_strikes_36 ?_
            refine gj_iconst dX8_strikes_37 ?_
            refine gj_icmp_ne dX8_strikes_38 (by omega) (fun h38 => ?_) (fun h38 => ?_)
            · refine gj_iconst dX8_strikes_56 ?_
              refine gj_is5 dX8_strikes_57 rfl rfl ?_
              refine gj_il5 dX8_strikes_59 ?_
              refine gj_if_eq dX8_strikes_61 (by omega) (fun _ => ?_) (fun h => absurd h (by omega))
              refine gj_iconst dX8_strikes_86 ?_
              exact gj_iret dX8_strikes_87 rfl (rd_i (by unfold strA; rw [if_pos (by omega)]; first | exact (b2i_t ⟨by omega, by omega, h79⟩).symm | exact (b2i_f (fun z => h79 z.2.2)).symm | exact (b2i_f (by omega)).symm))
            · refine gj_il1 dX8_strikes_41 ?_
              refine gj_bipush dX8_strikes_42 rfl ?_
              refine gj_idiv dX8_strikes_44 (by omega) (by omega) ?_
              refine gj_bipush dX8_strikes_45 rfl ?_
              refine gj_irem dX8_strikes_47 (by omega) (by omega) ?_
              refine gj_iconst dX8_strikes_48 ?_
              refine gj_icmp_ne dX8_strikes_49 (by omega) (fun h49 => ?_) (fun h49 => ?_)
              · refine gj_iconst dX8_strikes_56 ?_
                refine gj_is5 dX8_strikes_57 rfl rfl ?_
                refine gj_il5 dX8_strikes_59 ?_
                refine gj_if_eq dX8_strikes_61 (by omega) (fun _ => ?_) (fun h => absurd h (by omega))
                refine gj_iconst dX8_strikes_86 ?_
                exact gj_iret dX8_strikes_87 rfl (rd_i (by unfold strA; rw [if_pos (by omega)]; first | exact (b2i_t ⟨by omega, by omega, h79⟩).symm | exact (b2i_f (fun z => h79 z.2.2)).symm | exact (b2i_f (by omega)).symm))
              · refine gj_iconst dX8_strikes_52 ?_
                refine gj_goto dX8_strikes_53 ?_
                refine gj_is5 dX8_strikes_57 rfl rfl ?_
                refine gj_il5 dX8_strikes_59 ?_
                refine gj_if_eq dX8_strikes_61 (by omega) (fun h => absurd h (by omega)) (fun _ => ?_)
                refine gj_il4 dX8_strikes_64 ?_
                refine gj_iconst dX8_strikes_66 ?_
                refine gj_icmp_eq dX8_strikes_67 (by omega) (fun h67 => ?_) (fun h67 => ?_)
                · refine gj_iconst dX8_strikes_86 ?_
                  exact gj_iret dX8_strikes_87 rfl (rd_i (by unfold strA; rw [if_pos (by omega)]; first | exact (b2i_t ⟨by omega, by omega, h79⟩).symm | exact (b2i_f (fun z => h79 z.2.2)).symm | exact (b2i_f (by omega)).symm))
                · refine gj_al0 dX8_strikes_70 ?_
                  refine gj_get dX8_strikes_71 fX8_28 q0 rfl rfl ?_
                  refine gj_il1 dX8_strikes_74 ?_
                  refine gj_il2 dX8_strikes_75 ?_
                  refine gj_cV2r dX8_strikes_76 mX8_157 hX5_isWar q9 rfl (by omega) rfl (tWar  (by omega) hW (by omega) (by omega)) ?_
                  refine gj_ifB_eq dX8_strikes_79 (fun h79 => ?_) (fun h79 => ?_)
                  · refine gj_iconst dX8_strikes_86 ?_
                    exact gj_iret dX8_strikes_87 rfl (rd_i (by unfold strA; rw [if_pos (by omega)]; first | exact (b2i_t ⟨by omega, by omega, h79⟩).symm | exact (b2i_f (fun z => h79 z.2.2)).symm | exact (b2i_f (by omega)).symm))
                  · refine gj_iconst dX8_strikes_82 ?_
                    refine gj_goto dX8_strikes_83 ?_
                    exact gj_iret dX8_strikes_87 rfl (rd_i (by unfold strA; rw [if_pos (by omega)]; first | exact (b2i_t ⟨by omega, by omega, h79⟩).symm | exact (b2i_f (fun z => h79 z.2.2)).symm | exact (b2i_f (by omega)).symm))
        · refine gj_bipush dX8_strikes_29 rfl ?_
          exact gj_iret dX8_strikes_31 rfl (rd_i (by unfold strA; rw [if_neg (by omega)]))
set_option maxRecDepth 20000 in
set_option maxHeartbeats 4000000 in
theorem tX8_next {l : Launch} {x : Cx} {d : Nat} {w : AW} {tx : Int → Int} {by0 : Int} {ru fa fe : Int → Int} {fc lw br me : Int} {mh ml mw : Int → Int} {mn fi : Int} {fm ln : Int → Int} {it : Int → Int → Int} {h l0 z : Int} (hd : 3 ≤ d) (hC : ClassC w tx by0 ru fa fe fc lw br me mh ml mw mn fi fm ln it) (hh : R32 h) (hl0 : R32 l0) (hz : R32 z) : Mt l x iX8_next d 0 0 50 w [vR 0, vI h, vI l0, vI z] (Rd (vI (nextA (warB lw fa ru fe fc) h l0 z)) w) := by
  have hC0 := hC
  obtain ⟨q0, ⟨on, ot, ho, wy, nu, fl, ⟨q1, q2, q3, q4, q5, q6⟩, hRd⟩, ⟨fd, ⟨q9, q10, q11⟩, ⟨q7, q8⟩, hO⟩, ⟨la, be, ne, q12, q13, q14⟩, ⟨sl, q15⟩, hbm, ⟨go, st, bn, B, ra, rb, q16, q17, q18⟩, ⟨⟨q19, q20, q21, q22⟩, hMm⟩, hSh⟩ := hC
  have hW : WarC w fa (warB lw fa ru fe fc) := ⟨fe, ru, fc, fd, lw, ⟨q9, q10, q11⟩, ⟨q7, q8⟩, hO, rfl⟩
  have hE := hRd.ed
  have hM := hRd.mat
  refine Mt.of (L0 := [some (vR 0), some (vI h), some (vI l0), some (vI z), none]) rfl rfl rfl ?_
  refine gj_il1 dX8_next_0 ?_
  refine gj_cS1r dX8_next_1 mX8_154 hX8_isHour (by omega) rfl (tX8_isHour  (by omega) (by omega)) ?_
  refine gj_ifB_eq dX8_next_4 (fun h4 => ?_) (fun h4 => ?_)
  · refine gj_bipush dX8_next_22 rfl ?_
    exact gj_iret dX8_next_24 rfl (rd_i (by unfold nextA; rw [if_neg (by omega)]))
  · refine gj_il2 dX8_next_7 ?_
    refine gj_cS1r dX8_next_8 mX8_104 hX8_isLand (by omega) rfl (tX8_isLand  (by omega) (by omega)) ?_
    refine gj_ifB_eq dX8_next_11 (fun h11 => ?_) (fun h11 => ?_)
    · refine gj_bipush dX8_next_22 rfl ?_
      exact gj_iret dX8_next_24 rfl (rd_i (by unfold nextA; rw [if_neg (by omega)]))
    · refine gj_il3 dX8_next_14 ?_
      refine gj_iconst dX8_next_15 ?_
      refine gj_cS2r dX8_next_16 mX8_75 hX8_upTo (by omega) rfl (tX8_upTo  (by omega) (by omega) (by omega)) ?_
      refine gj_ifB_ne dX8_next_19 (fun h19 => ?_) (fun h19 => ?_)
      · refine gj_il1 dX8_next_25 ?_
        refine gj_is4 dX8_next_26 rfl rfl ?_
        have loop28 : ∀ (k : Nat), ∀ (i : Int), (0 ≤ i ∧ i ≤ 672) → (fstZ (nxtB (warB lw fa ru fe fc) l0 z) i 672 = fstZ (nxtB (warB lw fa ru fe fc) l0 z) h 672) → (672 - i).toNat < k → Gj l x iX8_next d 0 0 50 (Rd (vI (nextA (warB lw fa ru fe fc) h l0 z)) w) 0 0 50 w 28 [some (vR 0), some (vI h), some (vI l0), some (vI z), some (vI i)] [] := by
          intro k
          induction k with
          | zero => intro _ _ _ hm; exact absurd hm (Nat.not_lt_zero _)
          | succ k ih28 =>
            intro i  hi ha hm28
            refine gj_il4 dX8_next_28 ?_
            refine gj_sipush dX8_next_30 rfl ?_
            refine gj_icmp_ge dX8_next_33 (by omega) (fun h33 => ?_) (fun h33 => ?_)
            · refine gj_iconst dX8_next_68 ?_
              exact gj_iret dX8_next_69 rfl (rd_i (by unfold nextA; rw [if_pos (by omega), ← ha, fstZ_end (by omega)]))
            · refine gj_al0 dX8_next_36 ?_
              refine gj_get dX8_next_37 fX8_28 q0 rfl rfl ?_
              refine gj_il4 dX8_next_40 ?_
              refine gj_il2 dX8_next_42 ?_
              refine gj_cV2r dX8_next_43 mX8_157 hX5_isWar q9 rfl (by omega) rfl (tWar  (by omega) hW (by omega) (by omega)) ?_
              refine gj_il3 dX8_next_46 ?_
              refine gj_iconst dX8_next_47 ?_
              refine gj_icmp_ne dX8_next_48 (by omega) (fun h48 => ?_) (fun h48 => ?_)
              · refine gj_iconst dX8_next_55 ?_
                have bb := b2i_R ((warB lw fa ru fe fc) i l0 = true)
                refine gj_icmp_ne dX8_next_56 (by omega) (fun h56 => ?_) (fun h56 => ?_)
                · refine gj_ii4 dX8_next_62 rfl rfl ?_
                  refine gj_goto dX8_next_65 ?_
                  exact ih28 _ (by omega) (by rw [← ha, ← fstZ_no (by omega) (by unfold nxtB; rw [decide_eq_true_eq, b2i_f (P := z = 1) h48]; exact h56)]) (by omega)
                · refine gj_il4 dX8_next_59 ?_
                  exact gj_iret dX8_next_61 rfl (rd_i (by unfold nextA; rw [if_pos (by omega), ← ha, fstZ_yes (by omega) (by unfold nxtB; rw [decide_eq_true_eq, b2i_f (P := z = 1) h48]; exact h56)]))
              · refine gj_iconst dX8_next_51 ?_
                refine gj_goto dX8_next_52 ?_
                have bb := b2i_R ((warB lw fa ru fe fc) i l0 = true)
                refine gj_icmp_ne dX8_next_56 (by omega) (fun h56 => ?_) (fun h56 => ?_)
                · refine gj_ii4 dX8_next_62 rfl rfl ?_
                  refine gj_goto dX8_next_65 ?_
                  exact ih28 _ (by omega) (by rw [← ha, ← fstZ_no (by omega) (by unfold nxtB; rw [decide_eq_true_eq, b2i_t (P := z = 1) h48]; exact h56)]) (by omega)
                · refine gj_il4 dX8_next_59 ?_
                  exact gj_iret dX8_next_61 rfl (rd_i (by unfold nextA; rw [if_pos (by omega), ← ha, fstZ_yes (by omega) (by unfold nxtB; rw [decide_eq_true_eq, b2i_t (P := z = 1) h48]; exact h56)]))
        exact loop28 _ _ (by omega) rfl (Nat.lt_succ_self _)
      · refine gj_bipush dX8_next_22 rfl ?_
        exact gj_iret dX8_next_24 rfl (rd_i (by unfold nextA; rw [if_neg (by omega)]))
