/-! contracts: public methods of the class, the rest without sheets -/
set_option maxRecDepth 20000 in
set_option maxHeartbeats 4000000 in
theorem tX8_left {l : Launch} {x : Cx} {d : Nat} {w : AW} {tx : Int → Int} {by0 : Int} {ru fa fe : Int → Int} {fc lw br me : Int} {mh ml mw : Int → Int} {mn fi : Int} {fm ln : Int → Int} {it : Int → Int → Int} {k l0 : Int} (hd : 4 ≤ d) (hC : ClassC w tx by0 ru fa fe fc lw br me mh ml mw mn fi fm ln it) (hk : R32 k) (hl0 : R32 l0) : Mt l x iX8_left d 0 0 50 w [vR 0, vI k, vI l0] (Rd (vI (leftA (warB lw fa ru fe fc) k l0)) w) := by
  have hC0 := hC
  obtain ⟨q0, ⟨on, ot, ho, wy, nu, fl, ⟨q1, q2, q3, q4, q5, q6⟩, hRd⟩, ⟨fd, ⟨q9, q10, q11⟩, ⟨q7, q8⟩, hO⟩, ⟨la, be, ne, q12, q13, q14⟩, ⟨sl, q15⟩, hbm, ⟨go, st, bn, B, ra, rb, q16, q17, q18⟩, ⟨⟨q19, q20, q21, q22⟩, hMm⟩, hSh⟩ := hC
  have hW : WarC w fa (warB lw fa ru fe fc) := ⟨fe, ru, fc, fd, lw, ⟨q9, q10, q11⟩, ⟨q7, q8⟩, hO, rfl⟩
  have hE := hRd.ed
  have hM := hRd.mat
  refine Mt.of (L0 := [some (vR 0), some (vI k), some (vI l0)]) rfl rfl rfl ?_
  refine gj_il1 dX8_left_0 ?_
  refine gj_iconst dX8_left_1 ?_
  refine gj_cS2r dX8_left_2 mX8_75 hX8_upTo (by omega) rfl (tX8_upTo  (by omega) (by omega) (by omega)) ?_
  refine gj_ifB_eq dX8_left_5 (fun h5 => ?_) (fun h5 => ?_)
  · refine gj_bipush dX8_left_15 rfl ?_
    exact gj_iret dX8_left_17 rfl (rd_i (by unfold leftA; rw [if_neg (by omega)]))
  · refine gj_il2 dX8_left_8 ?_
    refine gj_cS1r dX8_left_9 mX8_104 hX8_isLand (by omega) rfl (tX8_isLand  (by omega) (by omega)) ?_
    refine gj_ifB_ne dX8_left_12 (fun h12 => ?_) (fun h12 => ?_)
    · refine gj_al0 dX8_left_18 ?_
      refine gj_get dX8_left_19 fX8_28 q0 rfl rfl ?_
      refine gj_il1 dX8_left_22 ?_
      refine gj_il2 dX8_left_23 ?_
      refine gj_cV2r dX8_left_24 mX8_163 hX5_warInWeek q9 rfl (by omega) rfl (tX5_warInWeek  (by omega) q9 hW (by omega) (by omega)) ?_
      exact gj_iret dX8_left_27 rfl (rd_i (by unfold leftA; rw [if_pos (by omega)]))
    · refine gj_bipush dX8_left_15 rfl ?_
      exact gj_iret dX8_left_17 rfl (rd_i (by unfold leftA; rw [if_neg (by omega)]))
set_option maxRecDepth 20000 in
set_option maxHeartbeats 4000000 in
theorem tX8_best {l : Launch} {x : Cx} {d : Nat} {w : AW} {tx : Int → Int} {by0 : Int} {ru fa fe : Int → Int} {fc lw br me : Int} {mh ml mw : Int → Int} {mn fi : Int} {fm ln : Int → Int} {it : Int → Int → Int} {l0 : Int} (hd : 4 ≤ d) (hC : ClassC w tx by0 ru fa fe fc lw br me mh ml mw mn fi fm ln it) (hl0 : R32 l0) : Mt l x iX8_best d 0 0 50 w [vR 0, vI l0] (Rd (vI (bestA (warB lw fa ru fe fc) l0)) w) := by
  have hC0 := hC
  obtain ⟨q0, ⟨on, ot, ho, wy, nu, fl, ⟨q1, q2, q3, q4, q5, q6⟩, hRd⟩, ⟨fd, ⟨q9, q10, q11⟩, ⟨q7, q8⟩, hO⟩, ⟨la, be, ne, q12, q13, q14⟩, ⟨sl, q15⟩, hbm, ⟨go, st, bn, B, ra, rb, q16, q17, q18⟩, ⟨⟨q19, q20, q21, q22⟩, hMm⟩, hSh⟩ := hC
  have hW : WarC w fa (warB lw fa ru fe fc) := ⟨fe, ru, fc, fd, lw, ⟨q9, q10, q11⟩, ⟨q7, q8⟩, hO, rfl⟩
  have hE := hRd.ed
  have hM := hRd.mat
  refine Mt.of (L0 := [some (vR 0), some (vI l0), none, none]) rfl rfl rfl ?_
  refine gj_il1 dX8_best_0 ?_
  refine gj_cS1r dX8_best_1 mX8_104 hX8_isLand (by omega) rfl (tX8_isLand  (by omega) (by omega)) ?_
  refine gj_ifB_ne dX8_best_4 (fun h4 => ?_) (fun h4 => ?_)
  · refine gj_iconst dX8_best_10 ?_
    refine gj_is2 dX8_best_11 rfl rfl ?_
    refine gj_iconst dX8_best_12 ?_
    refine gj_is3 dX8_best_13 rfl rfl ?_
    have loop14 : ∀ (k : Nat), ∀ (a i : Int), (1 ≤ i ∧ i ≤ 4) → (a = argm (fun k => leftF (warB lw fa ru fe fc) k l0) (i - 1).toNat) → (4 - i).toNat < k → Gj l x iX8_best d 0 0 50 (Rd (vI (bestA (warB lw fa ru fe fc) l0)) w) 0 0 50 w 14 [some (vR 0), some (vI l0), some (vI a), some (vI i)] [] := by
      intro k
      induction k with
      | zero => intro _ _ _ _ hm; exact absurd hm (Nat.not_lt_zero _)
      | succ k ih14 =>
        intro a i  hi ha hm14
        have hc := argm_in (fun k => leftF (warB lw fa ru fe fc) k l0) (i - 1).toNat
        have hcs := argm_s (fun k => leftF (warB lw fa ru fe fc) k l0) hi.1
        rw [← ha] at hc hcs
        refine gj_il3 dX8_best_14 ?_
        refine gj_iconst dX8_best_15 ?_
        refine gj_icmp_ge dX8_best_16 (by omega) (fun h16 => ?_) (fun h16 => ?_)
        · refine gj_il2 dX8_best_48 ?_
          exact gj_iret dX8_best_49 rfl (rd_i (by unfold bestA; rw [if_pos (by omega), ha, show (i - 1).toNat = 3 by omega]))
        · refine gj_al0 dX8_best_19 ?_
          refine gj_get dX8_best_20 fX8_28 q0 rfl rfl ?_
          refine gj_il3 dX8_best_23 ?_
          refine gj_il1 dX8_best_24 ?_
          refine gj_cV2r dX8_best_25 mX8_163 hX5_warInWeek q9 rfl (by omega) rfl (tX5_warInWeek  (by omega) q9 hW (by omega) (by omega)) ?_
          refine gj_al0 dX8_best_28 ?_
          refine gj_get dX8_best_29 fX8_28 q0 rfl rfl ?_
          refine gj_il2 dX8_best_32 ?_
          refine gj_il1 dX8_best_33 ?_
          refine gj_cV2r dX8_best_34 mX8_163 hX5_warInWeek q9 rfl (by omega) rfl (tX5_warInWeek  (by omega) q9 hW (by omega) (by omega)) ?_
          have k1 := leftF_R (warB lw fa ru fe fc) i l0
          have k2 := leftF_R (warB lw fa ru fe fc) a l0
          refine gj_icmp_le dX8_best_37 (by omega) (fun h37 => ?_) (fun h37 => ?_)
          · refine gj_ii3 dX8_best_42 rfl rfl ?_
            refine gj_goto dX8_best_45 ?_
            exact ih14 _ _ (by omega) (by rw [show i + 1 - 1 = i by omega, hcs, if_neg (by omega)]) (by omega)
          · refine gj_il3 dX8_best_40 ?_
            refine gj_is2 dX8_best_41 rfl rfl ?_
            refine gj_ii3 dX8_best_42 rfl rfl ?_
            refine gj_goto dX8_best_45 ?_
            exact ih14 _ _ (by omega) (by rw [show i + 1 - 1 = i by omega, hcs, if_pos (by omega)]) (by omega)
    exact loop14 _ _ _ (by omega) rfl (Nat.lt_succ_self _)
  · refine gj_bipush dX8_best_7 rfl ?_
    exact gj_iret dX8_best_9 rfl (rd_i (by unfold bestA; rw [if_neg (by omega)]))
set_option maxRecDepth 20000 in
set_option maxHeartbeats 4000000 in
theorem tX8_unlike {l : Launch} {x : Cx} {d : Nat} {w : AW} {tx : Int → Int} {by0 : Int} {ru fa fe : Int → Int} {fc lw br me : Int} {mh ml mw : Int → Int} {mn fi : Int} {fm ln : Int → Int} {it : Int → Int → Int} {a b : Int} (hd : 2 ≤ d) (hC : ClassC w tx by0 ru fa fe fc lw br me mh ml mw mn fi fm ln it) (ha : R32 a) (hb : R32 b) : Mt l x iX8_unlike d 0 0 50 w [vR 0, vI a, vI b] (Rd (vI (unlA ru a b)) w) := by
  have hC0 := hC
  obtain ⟨q0, ⟨on, ot, ho, wy, nu, fl, ⟨q1, q2, q3, q4, q5, q6⟩, hRd⟩, ⟨fd, ⟨q9, q10, q11⟩, ⟨q7, q8⟩, hO⟩, ⟨la, be, ne, q12, q13, q14⟩, ⟨sl, q15⟩, hbm, ⟨go, st, bn, B, ra, rb, q16, q17, q18⟩, ⟨⟨q19, q20, q21, q22⟩, hMm⟩, hSh⟩ := hC
  have hW : WarC w fa (warB lw fa ru fe fc) := ⟨fe, ru, fc, fd, lw, ⟨q9, q10, q11⟩, ⟨q7, q8⟩, hO, rfl⟩
  have hE := hRd.ed
  have hM := hRd.mat
  refine Mt.of (L0 := [some (vR 0), some (vI a), some (vI b)]) rfl rfl rfl ?_
  refine gj_il1 dX8_unlike_0 ?_
  refine gj_cS1r dX8_unlike_1 mX8_115 hX8_isParish (by omega) rfl (tX8_isParish  (by omega) (by omega)) ?_
  refine gj_ifB_eq dX8_unlike_4 (fun h4 => ?_) (fun h4 => ?_)
  · refine gj_bipush dX8_unlike_14 rfl ?_
    exact gj_iret dX8_unlike_16 rfl (rd_i (by unfold unlA; rw [if_neg (by omega)]))
  · refine gj_il2 dX8_unlike_7 ?_
    refine gj_cS1r dX8_unlike_8 mX8_115 hX8_isParish (by omega) rfl (tX8_isParish  (by omega) (by omega)) ?_
    refine gj_ifB_ne dX8_unlike_11 (fun h11 => ?_) (fun h11 => ?_)
    · refine gj_al0 dX8_unlike_17 ?_
      refine gj_get dX8_unlike_18 fX8_19 q0 rfl rfl ?_
      refine gj_il1 dX8_unlike_21 ?_
      refine gj_il2 dX8_unlike_22 ?_
      refine gj_cV2r dX8_unlike_23 mX8_166 hX0_hoursUnlike q7 rfl (by omega) rfl (tX0_hoursUnlike  (by omega) ⟨q7, q8⟩ hO.2.1 (by omega) (by omega)) ?_
      exact gj_iret dX8_unlike_26 rfl (rd_i (by unfold unlA; rw [if_pos (by omega)]))
    · refine gj_bipush dX8_unlike_14 rfl ?_
      exact gj_iret dX8_unlike_16 rfl (rd_i (by unfold unlA; rw [if_neg (by omega)]))
set_option maxRecDepth 20000 in
set_option maxHeartbeats 4000000 in
theorem tX8_way {l : Launch} {x : Cx} {d : Nat} {w : AW} {tx : Int → Int} {by0 : Int} {ru fa fe : Int → Int} {fc lw br me : Int} {mh ml mw : Int → Int} {mn fi : Int} {fm ln : Int → Int} {it : Int → Int → Int} {a b k : Int} (hd : 3 ≤ d) (hC : ClassC w tx by0 ru fa fe fc lw br me mh ml mw mn fi fm ln it) (ha : R32 a) (hb : R32 b) (hk : R32 k) : Mt l x iX8_way d 0 0 50 w [vR 0, vI a, vI b, vI k] (Rd (vI (wayA tx by0 a b k)) w) := by
  have hC0 := hC
  obtain ⟨q0, ⟨on, ot, ho, wy, nu, fl, ⟨q1, q2, q3, q4, q5, q6⟩, hRd⟩, ⟨fd, ⟨q9, q10, q11⟩, ⟨q7, q8⟩, hO⟩, ⟨la, be, ne, q12, q13, q14⟩, ⟨sl, q15⟩, hbm, ⟨go, st, bn, B, ra, rb, q16, q17, q18⟩, ⟨⟨q19, q20, q21, q22⟩, hMm⟩, hSh⟩ := hC
  have hW : WarC w fa (warB lw fa ru fe fc) := ⟨fe, ru, fc, fd, lw, ⟨q9, q10, q11⟩, ⟨q7, q8⟩, hO, rfl⟩
  have hE := hRd.ed
  have hM := hRd.mat
  have hcn := hRd.2.2.1
  have hwo := hRd.wyo
  have hag := hRd.agr
  have hcE := (can_ok hRd.1).ed
  have hcG := (can_ok hRd.1).gr
  refine Mt.of (L0 := [some (vR 0), some (vI a), some (vI b), some (vI k)]) rfl rfl rfl ?_
  refine gj_il1 dX8_way_0 ?_
  refine gj_il2 dX8_way_1 ?_
  refine gj_cS2r dX8_way_2 mX8_169 hX8_areTwoLands (by omega) rfl (tX8_areTwoLands  (by omega) (by omega) (by omega)) ?_
  refine gj_ifB_eq dX8_way_5 (fun h5 => ?_) (fun h5 => ?_)
  · refine gj_bipush dX8_way_16 rfl ?_
    exact gj_iret dX8_way_18 rfl (rd_i (by unfold wayA; rw [if_neg (by omega)]))
  · refine gj_il3 dX8_way_8 ?_
    refine gj_iconst dX8_way_9 ?_
    refine gj_cS2r dX8_way_10 mX8_75 hX8_upTo (by omega) rfl (tX8_upTo  (by omega) (by omega) (by omega)) ?_
    refine gj_ifB_ne dX8_way_13 (fun h13 => ?_) (fun h13 => ?_)
    · refine gj_al0 dX8_way_19 ?_
      refine gj_get dX8_way_20 fX8_12 q0 rfl rfl ?_
      refine gj_il1 dX8_way_23 ?_
      refine gj_il2 dX8_way_24 ?_
      refine gj_cV2r dX8_way_25 mX8_172 hX6_reaches q1 rfl (by omega) rfl (tX6_reaches  (by omega) ⟨q1, q2, q3, q4, q5, q6⟩ hM (by omega) (by omega)) ?_
      have hab := hwo a b (by omega) (by omega) (by omega)
      rw [hab]
      refine gj_ifB_ne dX8_way_28 (fun h28 => ?_) (fun h28 => ?_)
      · have hwy := (hRd.str (a := a) (b := b) (by omega) (by omega) (by omega)).wye
        refine gj_il3 dX8_way_33 ?_
        refine gj_if_ne dX8_way_34 (by omega) (fun h34 => ?_) (fun h34 => ?_)
        · refine gj_al0 dX8_way_49 ?_
          refine gj_get dX8_way_50 fX8_12 q0 rfl rfl ?_
          refine gj_il1 dX8_way_53 ?_
          refine gj_il2 dX8_way_54 ?_
          refine gj_cV2r dX8_way_55 mX8_178 hX6_nextLand q1 rfl (by omega) rfl (tX6_nextLand  (by omega) ⟨q1, q2, q3, q4, q5, q6⟩ hE hM (by omega) (by omega)) ?_
          exact gj_iret dX8_way_58 rfl (rd_i (by unfold wayA; rw [if_pos (by omega), if_pos h28, if_neg h34, hcn]; exact nxtF_eq hag hcE hwy (by omega) (by omega)))
        · refine gj_al0 dX8_way_37 ?_
          refine gj_get dX8_way_38 fX8_12 q0 rfl rfl ?_
          refine gj_il1 dX8_way_41 ?_
          refine gj_il2 dX8_way_42 ?_
          refine gj_cV2r dX8_way_43 mX8_175 hX6_shortest q1 rfl (by omega) rfl (tX6_shortest  (by omega) ⟨q1, q2, q3, q4, q5, q6⟩ (by omega) (by omega)) ?_
          refine gj_goto dX8_way_46 ?_
          exact gj_iret dX8_way_58 rfl (rd_i (by unfold wayA; rw [if_pos (by omega), if_pos h28, if_pos h34]; exact hab))
      · refine gj_iconst dX8_way_31 ?_
        exact gj_iret dX8_way_32 rfl (rd_i (by unfold wayA; rw [if_pos (by omega), if_neg h28]))
    · refine gj_bipush dX8_way_16 rfl ?_
      exact gj_iret dX8_way_18 rfl (rd_i (by unfold wayA; rw [if_neg (by omega)]))
set_option maxRecDepth 20000 in
set_option maxHeartbeats 4000000 in
theorem tX8_raid {l : Launch} {x : Cx} {d : Nat} {w : AW} {tx : Int → Int} {by0 : Int} {ru fa fe : Int → Int} {fc lw br me : Int} {mh ml mw : Int → Int} {mn fi : Int} {fm ln : Int → Int} {it : Int → Int → Int} {a b s0 h : Int} (hd : 5 ≤ d) (hC : ClassC w tx by0 ru fa fe fc lw br me mh ml mw mn fi fm ln it) (ha : R32 a) (hb : R32 b) (hs0 : R32 s0) (hh : R32 h) : Mt l x iX8_raid d 0 0 50 w [vR 0, vI a, vI b, vI s0, vI h] (Wr (vI (raidA (warB lw fa ru fe fc) tx by0 a b s0 h)) (fun w2 => ClassC w2 tx by0 ru fa fe fc lw br me mh ml mw mn fi fm ln it ∧ ∀ k : Nat, 32 ≤ k → w2 k = w k)) := by
  have hC0 := hC
  obtain ⟨q0, ⟨on, ot, ho, wy, nu, fl, ⟨q1, q2, q3, q4, q5, q6⟩, hRd⟩, ⟨fd, ⟨q9, q10, q11⟩, ⟨q7, q8⟩, hO⟩, ⟨la, be, ne, q12, q13, q14⟩, ⟨sl, q15⟩, hbm, ⟨go, st, bn, B, ra, rb, q16, q17, q18⟩, ⟨⟨q19, q20, q21, q22⟩, hMm⟩, hSh⟩ := hC
  have hW : WarC w fa (warB lw fa ru fe fc) := ⟨fe, ru, fc, fd, lw, ⟨q9, q10, q11⟩, ⟨q7, q8⟩, hO, rfl⟩
  have hE := hRd.ed
  have hM := hRd.mat
  have hcn := hRd.2.2.1
  have hwo := hRd.wyo
  have hag := hRd.agr
  have hcE := (can_ok hRd.1).ed
  have hcG := (can_ok hRd.1).gr
  refine Mt.of (L0 := [some (vR 0), some (vI a), some (vI b), some (vI s0), some (vI h)]) rfl rfl rfl ?_
  refine gj_il1 dX8_raid_0 ?_
  refine gj_il2 dX8_raid_1 ?_
  refine gj_cS2r dX8_raid_2 mX8_169 hX8_areTwoLands (by omega) rfl (tX8_areTwoLands  (by omega) (by omega) (by omega)) ?_
  refine gj_ifB_eq dX8_raid_5 (fun h5 => ?_) (fun h5 => ?_)
  · refine gj_bipush dX8_raid_27 rfl ?_
    exact gj_iret dX8_raid_29 rfl (wr_i (by unfold raidA; rw [if_neg (by omega)]) ⟨⟨q0, ⟨_, _, _, _, _, _, ⟨q1, q2, q3, q4, q5, q6⟩, hRd⟩, ⟨_, ⟨q9, q10, q11⟩, ⟨q7, q8⟩, hO⟩, ⟨_, _, _, q12, q13, q14⟩, ⟨_, q15⟩, hbm, ⟨_, _, _, B, _, _, q16, q17, q18⟩, ⟨⟨q19, q20, q21, q22⟩, hMm⟩, hSh⟩, (fun (k : Nat) (_ : 32 ≤ k) => rfl)⟩)
  · refine gj_il3 dX8_raid_8 ?_
    refine gj_iconst dX8_raid_9 ?_
    refine gj_icmp_lt dX8_raid_10 (by omega) (fun h10 => ?_) (fun h10 => ?_)
    · refine gj_bipush dX8_raid_27 rfl ?_
      exact gj_iret dX8_raid_29 rfl (wr_i (by unfold raidA; rw [if_neg (by omega)]) ⟨⟨q0, ⟨_, _, _, _, _, _, ⟨q1, q2, q3, q4, q5, q6⟩, hRd⟩, ⟨_, ⟨q9, q10, q11⟩, ⟨q7, q8⟩, hO⟩, ⟨_, _, _, q12, q13, q14⟩, ⟨_, q15⟩, hbm, ⟨_, _, _, B, _, _, q16, q17, q18⟩, ⟨⟨q19, q20, q21, q22⟩, hMm⟩, hSh⟩, (fun (k : Nat) (_ : 32 ≤ k) => rfl)⟩)
    · refine gj_il3 dX8_raid_13 ?_
      refine gj_bipush dX8_raid_14 rfl ?_
      refine gj_icmp_gt dX8_raid_16 (by omega) (fun h16 => ?_) (fun h16 => ?_)
      · refine gj_bipush dX8_raid_27 rfl ?_
        exact gj_iret dX8_raid_29 rfl (wr_i (by unfold raidA; rw [if_neg (by omega)]) ⟨⟨q0, ⟨_, _, _, _, _, _, ⟨q1, q2, q3, q4, q5, q6⟩, hRd⟩, ⟨_, ⟨q9, q10, q11⟩, ⟨q7, q8⟩, hO⟩, ⟨_, _, _, q12, q13, q14⟩, ⟨_, q15⟩, hbm, ⟨_, _, _, B, _, _, q16, q17, q18⟩, ⟨⟨q19, q20, q21, q22⟩, hMm⟩, hSh⟩, (fun (k : Nat) (_ : 32 ≤ k) => rfl)⟩)
      · refine gj_il4 dX8_raid_19 ?_
        refine gj_cS1r dX8_raid_21 mX8_154 hX8_isHour (by omega) rfl (tX8_isHour  (by omega) (by omega)) ?_
        refine gj_ifB_ne dX8_raid_24 (fun h24 => ?_) (fun h24 => ?_)
        · refine gj_al0 dX8_raid_30 ?_
          refine gj_get dX8_raid_31 fX8_12 q0 rfl rfl ?_
          refine gj_il1 dX8_raid_34 ?_
          refine gj_il2 dX8_raid_35 ?_
          refine gj_cV2r dX8_raid_36 mX8_172 hX6_reaches q1 rfl (by omega) rfl (tX6_reaches  (by omega) ⟨q1, q2, q3, q4, q5, q6⟩ hM (by omega) (by omega)) ?_
          have hab := hwo a b (by omega) (by omega) (by omega)
          refine gj_ifB_eq dX8_raid_39 (fun h39 => ?_) (fun h39 => ?_)
          · refine gj_iconst dX8_raid_57 ?_
            exact gj_iret dX8_raid_58 rfl (wr_i (by unfold raidA; rw [if_pos (by omega), if_neg (by omega)]) ⟨⟨q0, ⟨_, _, _, _, _, _, ⟨q1, q2, q3, q4, q5, q6⟩, hRd⟩, ⟨_, ⟨q9, q10, q11⟩, ⟨q7, q8⟩, hO⟩, ⟨_, _, _, q12, q13, q14⟩, ⟨_, q15⟩, hbm, ⟨_, _, _, B, _, _, q16, q17, q18⟩, ⟨⟨q19, q20, q21, q22⟩, hMm⟩, hSh⟩, (fun (k : Nat) (_ : 32 ≤ k) => rfl)⟩)
          · have hok := hRd.str (a := a) (b := b) (by omega) (by omega) (by omega)
            have hG := hok.gr
            have hwy := hok.wye
            refine gj_al0 dX8_raid_42 ?_
            refine gj_get dX8_raid_43 fX8_37 q0 rfl rfl ?_
            refine gj_il1 dX8_raid_46 ?_
            refine gj_il2 dX8_raid_47 ?_
            refine gj_il3 dX8_raid_48 ?_
            refine gj_il4 dX8_raid_49 ?_
            refine gj_cV4w dX8_raid_51 mX8_181 hX3_firstStart q12 rfl (by omega) rfl (tX3_firstStart  (by omega) q9 hW ⟨q1, q2, q3, q4, q5, q6⟩ hE hM hG ⟨q12, q13, q14⟩ (by omega) (by omega) (by omega) (by omega) (by omega) (by omega)) (fun w51 P51 => ?_)
            obtain ⟨mc51, fr51⟩ := P51
            refine gj_goto dX8_raid_54 ?_
            exact gj_iret dX8_raid_58 rfl (wr_i (by unfold raidA; rw [if_pos (by omega), if_pos (by omega)]; unfold raidF; rw [hcn]; exact fstZ_congr (fun i _ _ => raidB_eq hag hcE hcG hwy (by omega) (by omega) (by omega) (by omega))) ⟨⟨((fr51 0 (by decide)).trans q0), ⟨_, _, _, _, _, _, ⟨((fr51 1 (by decide)).trans q1), ((fr51 2 (by decide)).trans q2), ((fr51 3 (by decide)).trans q3), ((fr51 4 (by decide)).trans q4), ((fr51 5 (by decide)).trans q5), ((fr51 6 (by decide)).trans q6)⟩, hRd⟩, ⟨_, ⟨((fr51 9 (by decide)).trans q9), ((fr51 10 (by decide)).trans q10), ((fr51 11 (by decide)).trans q11)⟩, ⟨((fr51 7 (by decide)).trans q7), ((fr51 8 (by decide)).trans q8)⟩, hO⟩, mc51, ⟨_, ((fr51 15 (by decide)).trans q15)⟩, hbm, ⟨_, _, _, B, _, _, ((fr51 16 (by decide)).trans q16), ((fr51 17 (by decide)).trans q17), ((fr51 18 (by decide)).trans q18)⟩, ⟨⟨((fr51 19 (by decide)).trans q19), ((fr51 20 (by decide)).trans q20), ((fr51 21 (by decide)).trans q21), ((fr51 22 (by decide)).trans q22)⟩, hMm⟩, (SheetsC.fr (fun k g1 g2 => fr51 k (by omega)) hSh)⟩, (fun k hk => (fr51 k (by omega)).trans ((fun (k : Nat) (_ : 32 ≤ k) => rfl) k hk))⟩)
        · refine gj_bipush dX8_raid_27 rfl ?_
          exact gj_iret dX8_raid_29 rfl (wr_i (by unfold raidA; rw [if_neg (by omega)]) ⟨⟨q0, ⟨_, _, _, _, _, _, ⟨q1, q2, q3, q4, q5, q6⟩, hRd⟩, ⟨_, ⟨q9, q10, q11⟩, ⟨q7, q8⟩, hO⟩, ⟨_, _, _, q12, q13, q14⟩, ⟨_, q15⟩, hbm, ⟨_, _, _, B, _, _, q16, q17, q18⟩, ⟨⟨q19, q20, q21, q22⟩, hMm⟩, hSh⟩, (fun (k : Nat) (_ : 32 ≤ k) => rfl)⟩)
set_option maxRecDepth 20000 in
set_option maxHeartbeats 4000000 in
theorem tX8_set {l : Launch} {x : Cx} {d : Nat} {w : AW} {tx : Int → Int} {by0 : Int} {ru fa fe : Int → Int} {fc lw br me : Int} {mh ml mw : Int → Int} {mn fi : Int} {fm ln : Int → Int} {it : Int → Int → Int} {k v : Int} (hd : 1 ≤ d) (hC : ClassC w tx by0 ru fa fe fc lw br me mh ml mw mn fi fm ln it) (hk : R32 k) (hv : R32 v) : Mt l x iX8_set d 0 0 50 w [vR 0, vI k, vI v] (fun v2 w2 => (((0 ≤ k ∧ k ≤ 1) ∧ (0 ≤ v ∧ v ≤ 99)) ∧ k = 0 ∧ v2 = some (vI br) ∧ ClassC w2 tx by0 ru fa fe fc lw v me mh ml mw mn fi fm ln it ∧ ∀ k : Nat, 32 ≤ k → w2 k = w k) ∨ (((0 ≤ k ∧ k ≤ 1) ∧ (0 ≤ v ∧ v ≤ 99)) ∧ k ≠ 0 ∧ v2 = some (vI me) ∧ ClassC w2 tx by0 ru fa fe fc lw br v mh ml mw mn fi fm ln it ∧ ∀ k : Nat, 32 ≤ k → w2 k = w k) ∨ (¬ ((0 ≤ k ∧ k ≤ 1) ∧ (0 ≤ v ∧ v ≤ 99)) ∧ v2 = some (vI (-2)) ∧ w2 = w)) := by
  have hC0 := hC
  obtain ⟨q0, ⟨on, ot, ho, wy, nu, fl, ⟨q1, q2, q3, q4, q5, q6⟩, hRd⟩, ⟨fd, ⟨q9, q10, q11⟩, ⟨q7, q8⟩, hO⟩, ⟨la, be, ne, q12, q13, q14⟩, ⟨sl, q15⟩, hbm, ⟨go, st, bn, B, ra, rb, q16, q17, q18⟩, ⟨⟨q19, q20, q21, q22⟩, hMm⟩, hSh⟩ := hC
  have hW : WarC w fa (warB lw fa ru fe fc) := ⟨fe, ru, fc, fd, lw, ⟨q9, q10, q11⟩, ⟨q7, q8⟩, hO, rfl⟩
  have hE := hRd.ed
  have hM := hRd.mat
  refine Mt.of (L0 := [some (vR 0), some (vI k), some (vI v), none]) rfl rfl rfl ?_
  refine gj_il1 dX8_set_0 ?_
  refine gj_iconst dX8_set_1 ?_
  refine gj_cS2r dX8_set_2 mX8_75 hX8_upTo (by omega) rfl (tX8_upTo  (by omega) (by omega) (by omega)) ?_
  refine gj_ifB_eq dX8_set_5 (fun h5 => ?_) (fun h5 => ?_)
  · refine gj_bipush dX8_set_17 rfl ?_
    exact gj_iret dX8_set_19 rfl (Or.inr (Or.inr ⟨by omega, rfl, rfl⟩))
  · refine gj_il2 dX8_set_8 ?_
    refine gj_bipush dX8_set_9 rfl ?_
    refine gj_cS2r dX8_set_11 mX8_75 hX8_upTo (by omega) rfl (tX8_upTo  (by omega) (by omega) (by omega)) ?_
    refine gj_ifB_ne dX8_set_14 (fun h14 => ?_) (fun h14 => ?_)
    · refine gj_il1 dX8_set_20 ?_
      refine gj_if_ne dX8_set_21 (by omega) (fun h21 => ?_) (fun h21 => ?_)
      · refine gj_al0 dX8_set_34 ?_
        refine gj_get dX8_set_35 fX8_46 q0 rfl rfl ?_
        refine gj_get dX8_set_38 fX8_188 q15 rfl rfl ?_
        refine gj_is3 dX8_set_41 rfl rfl ?_
        refine gj_il1 dX8_set_42 ?_
        refine gj_if_ne dX8_set_43 (by omega) (fun h43 => ?_) (fun h43 => ?_)
        · refine gj_al0 dX8_set_57 ?_
          refine gj_get dX8_set_58 fX8_46 q0 rfl rfl ?_
          refine gj_il2 dX8_set_61 ?_
          refine gj_pI2 dX8_set_62 fX8_188 q15 rfl ?_
          refine gj_il3 dX8_set_65 ?_
          exact gj_iret dX8_set_66 rfl (Or.inr (Or.inl ⟨⟨h5, h14⟩, h21, rfl, ⟨⟨(upw_o (by decide) q0), ⟨_, _, _, _, _, _, ⟨(upw_o (by decide) q1), (upw_o (by decide) q2), (upw_o (by decide) q3), (upw_o (by decide) q4), (upw_o (by decide) q5), (upw_o (by decide) q6)⟩, hRd⟩, ⟨_, ⟨(upw_o (by decide) q9), (upw_o (by decide) q10), (upw_o (by decide) q11)⟩, ⟨(upw_o (by decide) q7), (upw_o (by decide) q8)⟩, hO⟩, ⟨_, _, _, (upw_o (by decide) q12), (upw_o (by decide) q13), (upw_o (by decide) q14)⟩, ⟨_, upw_s⟩, ⟨hbm.1, h14⟩, ⟨_, _, _, B, _, _, (upw_o (by decide) q16), (upw_o (by decide) q17), (upw_o (by decide) q18)⟩, ⟨⟨(upw_o (by decide) q19), (upw_o (by decide) q20), (upw_o (by decide) q21), (upw_o (by decide) q22)⟩, hMm⟩, (SheetsC.up (by decide) hSh)⟩, (fun k hk => upw_o (by omega) ((fun (k : Nat) (_ : 32 ≤ k) => rfl) k hk))⟩⟩))
        · refine gj_al0 dX8_set_46 ?_
          refine gj_get dX8_set_47 fX8_46 q0 rfl rfl ?_
          refine gj_il2 dX8_set_50 ?_
          refine gj_pI1 dX8_set_51 fX8_185 q15 rfl ?_
          refine gj_goto dX8_set_54 ?_
          refine gj_il3 dX8_set_65 ?_
          exact gj_iret dX8_set_66 rfl ((absurd h43 h21))
      · refine gj_al0 dX8_set_24 ?_
        refine gj_get dX8_set_25 fX8_46 q0 rfl rfl ?_
        refine gj_get dX8_set_28 fX8_185 q15 rfl rfl ?_
        refine gj_goto dX8_set_31 ?_
        refine gj_is3 dX8_set_41 rfl rfl ?_
        refine gj_il1 dX8_set_42 ?_
        refine gj_if_ne dX8_set_43 (by omega) (fun h43 => ?_) (fun h43 => ?_)
        · refine gj_al0 dX8_set_57 ?_
          refine gj_get dX8_set_58 fX8_46 q0 rfl rfl ?_
          refine gj_il2 dX8_set_61 ?_
          refine gj_pI2 dX8_set_62 fX8_188 q15 rfl ?_
          refine gj_il3 dX8_set_65 ?_
          exact gj_iret dX8_set_66 rfl ((absurd h21 h43))
        · refine gj_al0 dX8_set_46 ?_
          refine gj_get dX8_set_47 fX8_46 q0 rfl rfl ?_
          refine gj_il2 dX8_set_50 ?_
          refine gj_pI1 dX8_set_51 fX8_185 q15 rfl ?_
          refine gj_goto dX8_set_54 ?_
          refine gj_il3 dX8_set_65 ?_
          exact gj_iret dX8_set_66 rfl (Or.inl ⟨⟨h5, h14⟩, h21, rfl, ⟨⟨(upw_o (by decide) q0), ⟨_, _, _, _, _, _, ⟨(upw_o (by decide) q1), (upw_o (by decide) q2), (upw_o (by decide) q3), (upw_o (by decide) q4), (upw_o (by decide) q5), (upw_o (by decide) q6)⟩, hRd⟩, ⟨_, ⟨(upw_o (by decide) q9), (upw_o (by decide) q10), (upw_o (by decide) q11)⟩, ⟨(upw_o (by decide) q7), (upw_o (by decide) q8)⟩, hO⟩, ⟨_, _, _, (upw_o (by decide) q12), (upw_o (by decide) q13), (upw_o (by decide) q14)⟩, ⟨_, upw_s⟩, ⟨h14, hbm.2⟩, ⟨_, _, _, B, _, _, (upw_o (by decide) q16), (upw_o (by decide) q17), (upw_o (by decide) q18)⟩, ⟨⟨(upw_o (by decide) q19), (upw_o (by decide) q20), (upw_o (by decide) q21), (upw_o (by decide) q22)⟩, hMm⟩, (SheetsC.up (by decide) hSh)⟩, (fun k hk => upw_o (by omega) ((fun (k : Nat) (_ : 32 ≤ k) => rfl) k hk))⟩⟩)
    · refine gj_bipush dX8_set_17 rfl ?_
      exact gj_iret dX8_set_19 rfl (Or.inr (Or.inr ⟨by omega, rfl, rfl⟩))
set_option maxRecDepth 20000 in
set_option maxHeartbeats 4000000 in
theorem tX8_siege {l : Launch} {x : Cx} {d : Nat} {w : AW} {tx : Int → Int} {by0 : Int} {ru fa fe : Int → Int} {fc lw br me : Int} {mh ml mw : Int → Int} {mn fi : Int} {fm ln : Int → Int} {it : Int → Int → Int} {l0 h s0 k : Int} (hd : 4 ≤ d) (hC : ClassC w tx by0 ru fa fe fc lw br me mh ml mw mn fi fm ln it) (hl0 : R32 l0) (hh : R32 h) (hs0 : R32 s0) (hk : R32 k) : Mt l x iX8_siege d 0 0 50 w [vR 0, vI l0, vI h, vI s0, vI k] (Wr (vI (sieA (warB lw fa ru fe fc) br me l0 h s0 k)) (fun w2 => ClassC w2 tx by0 ru fa fe fc lw br me mh ml mw mn fi fm ln it ∧ ∀ k : Nat, 32 ≤ k → w2 k = w k)) := by
  have hC0 := hC
  obtain ⟨q0, ⟨on, ot, ho, wy, nu, fl, ⟨q1, q2, q3, q4, q5, q6⟩, hRd⟩, ⟨fd, ⟨q9, q10, q11⟩, ⟨q7, q8⟩, hO⟩, ⟨la, be, ne, q12, q13, q14⟩, ⟨sl, q15⟩, hbm, ⟨go, st, bn, B, ra, rb, q16, q17, q18⟩, ⟨⟨q19, q20, q21, q22⟩, hMm⟩, hSh⟩ := hC
  have hW : WarC w fa (warB lw fa ru fe fc) := ⟨fe, ru, fc, fd, lw, ⟨q9, q10, q11⟩, ⟨q7, q8⟩, hO, rfl⟩
  have hE := hRd.ed
  have hM := hRd.mat
  refine Mt.of (L0 := [some (vR 0), some (vI l0), some (vI h), some (vI s0), some (vI k), none]) rfl rfl rfl ?_
  refine gj_il1 dX8_siege_0 ?_
  refine gj_il2 dX8_siege_1 ?_
  refine gj_il3 dX8_siege_2 ?_
  refine gj_cS3r dX8_siege_3 mX8_191 hX8_isSiege (by omega) rfl (tX8_isSiege  (by omega) (by omega) (by omega) (by omega)) ?_
  refine gj_ifB_eq dX8_siege_6 (fun h6 => ?_) (fun h6 => ?_)
  · refine gj_bipush dX8_siege_18 rfl ?_
    exact gj_iret dX8_siege_20 rfl (wr_i (by unfold sieA; rw [if_neg (by omega)]) ⟨⟨q0, ⟨_, _, _, _, _, _, ⟨q1, q2, q3, q4, q5, q6⟩, hRd⟩, ⟨_, ⟨q9, q10, q11⟩, ⟨q7, q8⟩, hO⟩, ⟨_, _, _, q12, q13, q14⟩, ⟨_, q15⟩, hbm, ⟨_, _, _, B, _, _, q16, q17, q18⟩, ⟨⟨q19, q20, q21, q22⟩, hMm⟩, hSh⟩, (fun (k : Nat) (_ : 32 ≤ k) => rfl)⟩)
  · refine gj_il4 dX8_siege_9 ?_
    refine gj_iconst dX8_siege_11 ?_
    refine gj_cS2r dX8_siege_12 mX8_75 hX8_upTo (by omega) rfl (tX8_upTo  (by omega) (by omega) (by omega)) ?_
    refine gj_ifB_ne dX8_siege_15 (fun h15 => ?_) (fun h15 => ?_)
    · refine gj_al0 dX8_siege_21 ?_
      refine gj_get dX8_siege_22 fX8_46 q0 rfl rfl ?_
      refine gj_il1 dX8_siege_25 ?_
      refine gj_il2 dX8_siege_26 ?_
      refine gj_il3 dX8_siege_27 ?_
      refine gj_al0 dX8_siege_28 ?_
      refine gj_get dX8_siege_29 fX8_46 q0 rfl rfl ?_
      refine gj_get dX8_siege_32 fX8_188 q15 rfl rfl ?_
      refine gj_cV4w dX8_siege_35 mX8_195 hX1_batter q15 rfl (by omega) rfl (tX1_batter  (by omega) q9 hW q15 hbm.1 (by omega) (by omega) (by omega) hbm.2) (fun w35 P35 => ?_)
      obtain rfl := P35
      refine gj_is5 dX8_siege_38 rfl rfl ?_
      refine gj_il4 dX8_siege_40 ?_
      refine gj_if_ne dX8_siege_42 (by omega) (fun h42 => ?_) (fun h42 => ?_)
      · refine gj_al0 dX8_siege_50 ?_
        refine gj_get dX8_siege_51 fX8_46 (upw_o (by decide) q0) rfl rfl ?_
        refine gj_get dX8_siege_54 fX8_198 upw_s rfl rfl ?_
        exact gj_iret dX8_siege_57 rfl (wr_i (by unfold sieA; rw [if_pos (by omega), if_neg h42]) ⟨⟨(upw_o (by decide) q0), ⟨_, _, _, _, _, _, ⟨(upw_o (by decide) q1), (upw_o (by decide) q2), (upw_o (by decide) q3), (upw_o (by decide) q4), (upw_o (by decide) q5), (upw_o (by decide) q6)⟩, hRd⟩, ⟨_, ⟨(upw_o (by decide) q9), (upw_o (by decide) q10), (upw_o (by decide) q11)⟩, ⟨(upw_o (by decide) q7), (upw_o (by decide) q8)⟩, hO⟩, ⟨_, _, _, (upw_o (by decide) q12), (upw_o (by decide) q13), (upw_o (by decide) q14)⟩, ⟨_, upw_s⟩, hbm, ⟨_, _, _, B, _, _, (upw_o (by decide) q16), (upw_o (by decide) q17), (upw_o (by decide) q18)⟩, ⟨⟨(upw_o (by decide) q19), (upw_o (by decide) q20), (upw_o (by decide) q21), (upw_o (by decide) q22)⟩, hMm⟩, (SheetsC.up (by decide) hSh)⟩, (fun k hk => upw_o (by omega) ((fun (k : Nat) (_ : 32 ≤ k) => rfl) k hk))⟩)
      · refine gj_il5 dX8_siege_45 ?_
        refine gj_goto dX8_siege_47 ?_
        exact gj_iret dX8_siege_57 rfl (wr_i (by unfold sieA; rw [if_pos (by omega), if_pos h42]) ⟨⟨(upw_o (by decide) q0), ⟨_, _, _, _, _, _, ⟨(upw_o (by decide) q1), (upw_o (by decide) q2), (upw_o (by decide) q3), (upw_o (by decide) q4), (upw_o (by decide) q5), (upw_o (by decide) q6)⟩, hRd⟩, ⟨_, ⟨(upw_o (by decide) q9), (upw_o (by decide) q10), (upw_o (by decide) q11)⟩, ⟨(upw_o (by decide) q7), (upw_o (by decide) q8)⟩, hO⟩, ⟨_, _, _, (upw_o (by decide) q12), (upw_o (by decide) q13), (upw_o (by decide) q14)⟩, ⟨_, upw_s⟩, hbm, ⟨_, _, _, B, _, _, (upw_o (by decide) q16), (upw_o (by decide) q17), (upw_o (by decide) q18)⟩, ⟨⟨(upw_o (by decide) q19), (upw_o (by decide) q20), (upw_o (by decide) q21), (upw_o (by decide) q22)⟩, hMm⟩, (SheetsC.up (by decide) hSh)⟩, (fun k hk => upw_o (by omega) ((fun (k : Nat) (_ : 32 ≤ k) => rfl) k hk))⟩)
    · refine gj_bipush dX8_siege_18 rfl ?_
      exact gj_iret dX8_siege_20 rfl (wr_i (by unfold sieA; rw [if_neg (by omega)]) ⟨⟨q0, ⟨_, _, _, _, _, _, ⟨q1, q2, q3, q4, q5, q6⟩, hRd⟩, ⟨_, ⟨q9, q10, q11⟩, ⟨q7, q8⟩, hO⟩, ⟨_, _, _, q12, q13, q14⟩, ⟨_, q15⟩, hbm, ⟨_, _, _, B, _, _, q16, q17, q18⟩, ⟨⟨q19, q20, q21, q22⟩, hMm⟩, hSh⟩, (fun (k : Nat) (_ : 32 ≤ k) => rfl)⟩)
set_option maxRecDepth 20000 in
set_option maxHeartbeats 4000000 in
theorem tX8_holds {l : Launch} {x : Cx} {d : Nat} {w : AW} {tx : Int → Int} {by0 : Int} {ru fa fe : Int → Int} {fc lw br me : Int} {mh ml mw : Int → Int} {mn fi : Int} {fm ln : Int → Int} {it : Int → Int → Int} {l0 h s0 : Int} (hd : 5 ≤ d) (hC : ClassC w tx by0 ru fa fe fc lw br me mh ml mw mn fi fm ln it) (hl0 : R32 l0) (hh : R32 h) (hs0 : R32 s0) : Mt l x iX8_holds d 0 0 50 w [vR 0, vI l0, vI h, vI s0] (Wr (vI (hldA (warB lw fa ru fe fc) br l0 h s0)) (fun w2 => ClassC w2 tx by0 ru fa fe fc lw br me mh ml mw mn fi fm ln it ∧ ∀ k : Nat, 32 ≤ k → w2 k = w k)) := by
  have hC0 := hC
  obtain ⟨q0, ⟨on, ot, ho, wy, nu, fl, ⟨q1, q2, q3, q4, q5, q6⟩, hRd⟩, ⟨fd, ⟨q9, q10, q11⟩, ⟨q7, q8⟩, hO⟩, ⟨la, be, ne, q12, q13, q14⟩, ⟨sl, q15⟩, hbm, ⟨go, st, bn, B, ra, rb, q16, q17, q18⟩, ⟨⟨q19, q20, q21, q22⟩, hMm⟩, hSh⟩ := hC
  have hW : WarC w fa (warB lw fa ru fe fc) := ⟨fe, ru, fc, fd, lw, ⟨q9, q10, q11⟩, ⟨q7, q8⟩, hO, rfl⟩
  have hE := hRd.ed
  have hM := hRd.mat
  refine Mt.of (L0 := [some (vR 0), some (vI l0), some (vI h), some (vI s0)]) rfl rfl rfl ?_
  refine gj_il1 dX8_holds_0 ?_
  refine gj_il2 dX8_holds_1 ?_
  refine gj_il3 dX8_holds_2 ?_
  refine gj_cS3r dX8_holds_3 mX8_191 hX8_isSiege (by omega) rfl (tX8_isSiege  (by omega) (by omega) (by omega) (by omega)) ?_
  refine gj_ifB_ne dX8_holds_6 (fun h6 => ?_) (fun h6 => ?_)
  · refine gj_al0 dX8_holds_12 ?_
    refine gj_get dX8_holds_13 fX8_46 q0 rfl rfl ?_
    refine gj_il1 dX8_holds_16 ?_
    refine gj_il2 dX8_holds_17 ?_
    refine gj_il3 dX8_holds_18 ?_
    refine gj_cV3w dX8_holds_19 mX8_201 hX1_leastMends q15 rfl (by omega) rfl (tX1_leastMends  (by omega) q9 hW q15 hbm.1 (by omega) (by omega) (by omega)) (fun w19 P19 => ?_)
    obtain ⟨z19, rfl⟩ := P19
    exact gj_iret dX8_holds_22 rfl (wr_i (by unfold hldA; rw [if_pos (by omega)]) ⟨⟨(upw_o (by decide) q0), ⟨_, _, _, _, _, _, ⟨(upw_o (by decide) q1), (upw_o (by decide) q2), (upw_o (by decide) q3), (upw_o (by decide) q4), (upw_o (by decide) q5), (upw_o (by decide) q6)⟩, hRd⟩, ⟨_, ⟨(upw_o (by decide) q9), (upw_o (by decide) q10), (upw_o (by decide) q11)⟩, ⟨(upw_o (by decide) q7), (upw_o (by decide) q8)⟩, hO⟩, ⟨_, _, _, (upw_o (by decide) q12), (upw_o (by decide) q13), (upw_o (by decide) q14)⟩, ⟨_, upw_s⟩, hbm, ⟨_, _, _, B, _, _, (upw_o (by decide) q16), (upw_o (by decide) q17), (upw_o (by decide) q18)⟩, ⟨⟨(upw_o (by decide) q19), (upw_o (by decide) q20), (upw_o (by decide) q21), (upw_o (by decide) q22)⟩, hMm⟩, (SheetsC.up (by decide) hSh)⟩, (fun k hk => upw_o (by omega) ((fun (k : Nat) (_ : 32 ≤ k) => rfl) k hk))⟩)
  · refine gj_bipush dX8_holds_9 rfl ?_
    exact gj_iret dX8_holds_11 rfl (wr_i (by unfold hldA; rw [if_neg (by omega)]) ⟨⟨q0, ⟨_, _, _, _, _, _, ⟨q1, q2, q3, q4, q5, q6⟩, hRd⟩, ⟨_, ⟨q9, q10, q11⟩, ⟨q7, q8⟩, hO⟩, ⟨_, _, _, q12, q13, q14⟩, ⟨_, q15⟩, hbm, ⟨_, _, _, B, _, _, q16, q17, q18⟩, ⟨⟨q19, q20, q21, q22⟩, hMm⟩, hSh⟩, (fun (k : Nat) (_ : 32 ≤ k) => rfl)⟩)
set_option maxRecDepth 20000 in
set_option maxHeartbeats 4000000 in
theorem tX8_home {l : Launch} {x : Cx} {d : Nat} {w : AW} {tx : Int → Int} {by0 : Int} {ru fa fe : Int → Int} {fc lw br me : Int} {mh ml mw : Int → Int} {mn fi : Int} {fm ln : Int → Int} {it : Int → Int → Int} {a b h i : Int} (hd : 15 ≤ d) (hC : ClassC w tx by0 ru fa fe fc lw br me mh ml mw mn fi fm ln it) (ha : R32 a) (hb : R32 b) (hh : R32 h) (hi : R32 i) : Mt l x iX8_home d 0 0 50 w [vR 0, vI a, vI b, vI h, vI i] (Wr (vI (homA (warB lw fa ru fe fc) fa tx by0 a b h i)) (fun w2 => ClassC w2 tx by0 ru fa fe fc lw br me mh ml mw mn fi fm ln it ∧ ∀ k : Nat, 32 ≤ k → w2 k = w k)) := by
  have hC0 := hC
  obtain ⟨q0, ⟨on, ot, ho, wy, nu, fl, ⟨q1, q2, q3, q4, q5, q6⟩, hRd⟩, ⟨fd, ⟨q9, q10, q11⟩, ⟨q7, q8⟩, hO⟩, ⟨la, be, ne, q12, q13, q14⟩, ⟨sl, q15⟩, hbm, ⟨go, st, bn, B, ra, rb, q16, q17, q18⟩, ⟨⟨q19, q20, q21, q22⟩, hMm⟩, hSh⟩ := hC
  have hW : WarC w fa (warB lw fa ru fe fc) := ⟨fe, ru, fc, fd, lw, ⟨q9, q10, q11⟩, ⟨q7, q8⟩, hO, rfl⟩
  have hE := hRd.ed
  have hM := hRd.mat
  have hag := hRd.agr
  rw [← hRd.2.2.1] at hag
  have hcan : (homF (warB lw fa ru fe fc) fa on ot ho nu a b h 16777216) = (homF (warB lw fa ru fe fc) fa (cOn tx) (cOt tx) (cHo tx) (numF tx by0) a b h 16777216) := by
    rw [← hRd.2.2.1]
    exact wlk_eq hE.1.1 hag 8 0 _ 0 _ _
  refine Mt.of (L0 := [some (vR 0), some (vI a), some (vI b), some (vI h), some (vI i)]) rfl rfl rfl ?_
  refine gj_il1 dX8_home_0 ?_
  refine gj_il2 dX8_home_1 ?_
  refine gj_cS2r dX8_home_2 mX8_169 hX8_areTwoLands (by omega) rfl (tX8_areTwoLands  (by omega) (by omega) (by omega)) ?_
  refine gj_ifB_eq dX8_home_5 (fun h5 => ?_) (fun h5 => ?_)
  · refine gj_bipush dX8_home_35 rfl ?_
    exact gj_iret dX8_home_37 rfl (wr_i (by unfold homA; rw [if_neg (by omega)]) ⟨⟨q0, ⟨_, _, _, _, _, _, ⟨q1, q2, q3, q4, q5, q6⟩, hRd⟩, ⟨_, ⟨q9, q10, q11⟩, ⟨q7, q8⟩, hO⟩, ⟨_, _, _, q12, q13, q14⟩, ⟨_, q15⟩, hbm, ⟨_, _, _, B, _, _, q16, q17, q18⟩, ⟨⟨q19, q20, q21, q22⟩, hMm⟩, hSh⟩, (fun (k : Nat) (_ : 32 ≤ k) => rfl)⟩)
  · refine gj_il3 dX8_home_8 ?_
    refine gj_cS1r dX8_home_9 mX8_154 hX8_isHour (by omega) rfl (tX8_isHour  (by omega) (by omega)) ?_
    refine gj_ifB_eq dX8_home_12 (fun h12 => ?_) (fun h12 => ?_)
    · refine gj_bipush dX8_home_35 rfl ?_
      exact gj_iret dX8_home_37 rfl (wr_i (by unfold homA; rw [if_neg (by omega)]) ⟨⟨q0, ⟨_, _, _, _, _, _, ⟨q1, q2, q3, q4, q5, q6⟩, hRd⟩, ⟨_, ⟨q9, q10, q11⟩, ⟨q7, q8⟩, hO⟩, ⟨_, _, _, q12, q13, q14⟩, ⟨_, q15⟩, hbm, ⟨_, _, _, B, _, _, q16, q17, q18⟩, ⟨⟨q19, q20, q21, q22⟩, hMm⟩, hSh⟩, (fun (k : Nat) (_ : 32 ≤ k) => rfl)⟩)
    · refine gj_il4 dX8_home_15 ?_
      refine gj_bipush dX8_home_17 rfl ?_
      refine gj_icmp_lt dX8_home_19 (by omega) (fun h19 => ?_) (fun h19 => ?_)
      · refine gj_bipush dX8_home_35 rfl ?_
        exact gj_iret dX8_home_37 rfl (wr_i (by unfold homA; rw [if_neg (by omega)]) ⟨⟨q0, ⟨_, _, _, _, _, _, ⟨q1, q2, q3, q4, q5, q6⟩, hRd⟩, ⟨_, ⟨q9, q10, q11⟩, ⟨q7, q8⟩, hO⟩, ⟨_, _, _, q12, q13, q14⟩, ⟨_, q15⟩, hbm, ⟨_, _, _, B, _, _, q16, q17, q18⟩, ⟨⟨q19, q20, q21, q22⟩, hMm⟩, hSh⟩, (fun (k : Nat) (_ : 32 ≤ k) => rfl)⟩)
      · refine gj_il4 dX8_home_22 ?_
        refine gj_iconst dX8_home_24 ?_
        refine gj_icmp_eq dX8_home_25 (by omega) (fun h25 => ?_) (fun h25 => ?_)
        · refine gj_bipush dX8_home_35 rfl ?_
          exact gj_iret dX8_home_37 rfl (wr_i (by unfold homA; rw [if_neg (by omega)]) ⟨⟨q0, ⟨_, _, _, _, _, _, ⟨q1, q2, q3, q4, q5, q6⟩, hRd⟩, ⟨_, ⟨q9, q10, q11⟩, ⟨q7, q8⟩, hO⟩, ⟨_, _, _, q12, q13, q14⟩, ⟨_, q15⟩, hbm, ⟨_, _, _, B, _, _, q16, q17, q18⟩, ⟨⟨q19, q20, q21, q22⟩, hMm⟩, hSh⟩, (fun (k : Nat) (_ : 32 ≤ k) => rfl)⟩)
        · refine gj_il4 dX8_home_28 ?_
          refine gj_bipush dX8_home_30 rfl ?_
          refine gj_icmp_lt dX8_home_32 (by omega) (fun h32 => ?_) (fun h32 => ?_)
          · refine gj_al0 dX8_home_38 ?_
            refine gj_get dX8_home_39 fX8_53 q0 rfl rfl ?_
            refine gj_il1 dX8_home_42 ?_
            refine gj_il2 dX8_home_43 ?_
            refine gj_il3 dX8_home_44 ?_
            refine gj_cV3v dX8_home_45 mX8_204 hX2_seek q16 rfl (by omega) rfl (tX2_seek  (by omega) q9 hW ⟨q1, q2, q3, q4, q5, q6⟩ hE ⟨q16, q17, q18⟩ (by omega) (by omega) (by omega)) (fun w45 P45 => ?_)
            obtain ⟨bn45, ra45, rb45, ⟨qa45, qb45, qc45⟩, bo45, jb45, fr45⟩ := P45
            refine gj_il4 dX8_home_48 ?_
            refine gj_bipush dX8_home_50 rfl ?_
            refine gj_icmp_ne dX8_home_52 (by omega) (fun h52 => ?_) (fun h52 => ?_)
            · refine gj_il4 dX8_home_63 ?_
              refine gj_bipush dX8_home_65 rfl ?_
              refine gj_icmp_ne dX8_home_67 (by omega) (fun h67 => ?_) (fun h67 => ?_)
              · refine gj_il4 dX8_home_78 ?_
                refine gj_bipush dX8_home_80 rfl ?_
                refine gj_icmp_ne dX8_home_82 (by omega) (fun h82 => ?_) (fun h82 => ?_)
                · refine gj_al0 dX8_home_95 ?_
                  refine gj_get dX8_home_96 fX8_53 ((fr45 0 (by decide)).trans q0) rfl rfl ?_
                  refine gj_il4 dX8_home_99 ?_
                  refine gj_cV1r dX8_home_101 mX8_218 hX2_landAt qa45 rfl (by omega) rfl (tX2_landAt  (by omega) ⟨qa45, qb45, qc45⟩ (by omega) (by rcases bo45.1 with e | e <;> omega)) ?_
                  exact gj_iret dX8_home_104 rfl (wr_i (by unfold homA; rw [if_pos (show (In7 a ∧ In7 b ∧ a ≠ b) ∧ (0 ≤ h ∧ h ≤ 671) ∧ (-4 ≤ i ∧ i ≤ 7 ∧ i ≠ -1) from by omega), ← hcan]; unfold homT; rw [if_neg h52, if_neg h67, if_neg h82]; by_cases z : 0 ≤ i ∧ i ≤ (homF (warB lw fa ru fe fc) fa on ot ho nu a b h 16777216).1; (rw [if_pos z, if_pos z]; exact jb45 i z.1 z.2); (rw [if_neg z, if_neg z])) ⟨⟨((fr45 0 (by decide)).trans q0), ⟨_, _, _, _, _, _, ⟨((fr45 1 (by decide)).trans q1), ((fr45 2 (by decide)).trans q2), ((fr45 3 (by decide)).trans q3), ((fr45 4 (by decide)).trans q4), ((fr45 5 (by decide)).trans q5), ((fr45 6 (by decide)).trans q6)⟩, hRd⟩, ⟨_, ⟨((fr45 9 (by decide)).trans q9), ((fr45 10 (by decide)).trans q10), ((fr45 11 (by decide)).trans q11)⟩, ⟨((fr45 7 (by decide)).trans q7), ((fr45 8 (by decide)).trans q8)⟩, hO⟩, ⟨_, _, _, ((fr45 12 (by decide)).trans q12), ((fr45 13 (by decide)).trans q13), ((fr45 14 (by decide)).trans q14)⟩, ⟨_, ((fr45 15 (by decide)).trans q15)⟩, hbm, ⟨_, _, _, (homF (warB lw fa ru fe fc) fa on ot ho nu a b h 16777216), _, _, qa45, qb45, qc45⟩, ⟨⟨((fr45 19 (by decide)).trans q19), ((fr45 20 (by decide)).trans q20), ((fr45 21 (by decide)).trans q21), ((fr45 22 (by decide)).trans q22)⟩, hMm⟩, (SheetsC.fr (fun k g1 g2 => fr45 k (by omega)) hSh)⟩, (fun k hk => (fr45 k (by omega)).trans ((fun (k : Nat) (_ : 32 ≤ k) => rfl) k hk))⟩)
                · refine gj_al0 dX8_home_85 ?_
                  refine gj_get dX8_home_86 fX8_53 ((fr45 0 (by decide)).trans q0) rfl rfl ?_
                  refine gj_get dX8_home_89 fX8_215 qa45 rfl rfl ?_
                  refine gj_goto dX8_home_92 ?_
                  exact gj_iret dX8_home_104 rfl (wr_i (by unfold homA; rw [if_pos (show (In7 a ∧ In7 b ∧ a ≠ b) ∧ (0 ≤ h ∧ h ≤ 671) ∧ (-4 ≤ i ∧ i ≤ 7 ∧ i ≠ -1) from by omega), ← hcan]; unfold homT; rw [if_neg h52, if_neg h67, if_pos h82]) ⟨⟨((fr45 0 (by decide)).trans q0), ⟨_, _, _, _, _, _, ⟨((fr45 1 (by decide)).trans q1), ((fr45 2 (by decide)).trans q2), ((fr45 3 (by decide)).trans q3), ((fr45 4 (by decide)).trans q4), ((fr45 5 (by decide)).trans q5), ((fr45 6 (by decide)).trans q6)⟩, hRd⟩, ⟨_, ⟨((fr45 9 (by decide)).trans q9), ((fr45 10 (by decide)).trans q10), ((fr45 11 (by decide)).trans q11)⟩, ⟨((fr45 7 (by decide)).trans q7), ((fr45 8 (by decide)).trans q8)⟩, hO⟩, ⟨_, _, _, ((fr45 12 (by decide)).trans q12), ((fr45 13 (by decide)).trans q13), ((fr45 14 (by decide)).trans q14)⟩, ⟨_, ((fr45 15 (by decide)).trans q15)⟩, hbm, ⟨_, _, _, (homF (warB lw fa ru fe fc) fa on ot ho nu a b h 16777216), _, _, qa45, qb45, qc45⟩, ⟨⟨((fr45 19 (by decide)).trans q19), ((fr45 20 (by decide)).trans q20), ((fr45 21 (by decide)).trans q21), ((fr45 22 (by decide)).trans q22)⟩, hMm⟩, (SheetsC.fr (fun k g1 g2 => fr45 k (by omega)) hSh)⟩, (fun k hk => (fr45 k (by omega)).trans ((fun (k : Nat) (_ : 32 ≤ k) => rfl) k hk))⟩)
              · refine gj_al0 dX8_home_70 ?_
                refine gj_get dX8_home_71 fX8_53 ((fr45 0 (by decide)).trans q0) rfl rfl ?_
                refine gj_cV0r dX8_home_74 mX8_212 hX2_below qa45 rfl (by omega) rfl (tX2_below  (by omega) ⟨qa45, qb45, qc45⟩) ?_
                exact gj_iret dX8_home_77 rfl (wr_i (by unfold homA; rw [if_pos (show (In7 a ∧ In7 b ∧ a ≠ b) ∧ (0 ≤ h ∧ h ≤ 671) ∧ (-4 ≤ i ∧ i ≤ 7 ∧ i ≠ -1) from by omega), ← hcan]; unfold homT; rw [if_neg h52, if_pos h67]) ⟨⟨((fr45 0 (by decide)).trans q0), ⟨_, _, _, _, _, _, ⟨((fr45 1 (by decide)).trans q1), ((fr45 2 (by decide)).trans q2), ((fr45 3 (by decide)).trans q3), ((fr45 4 (by decide)).trans q4), ((fr45 5 (by decide)).trans q5), ((fr45 6 (by decide)).trans q6)⟩, hRd⟩, ⟨_, ⟨((fr45 9 (by decide)).trans q9), ((fr45 10 (by decide)).trans q10), ((fr45 11 (by decide)).trans q11)⟩, ⟨((fr45 7 (by decide)).trans q7), ((fr45 8 (by decide)).trans q8)⟩, hO⟩, ⟨_, _, _, ((fr45 12 (by decide)).trans q12), ((fr45 13 (by decide)).trans q13), ((fr45 14 (by decide)).trans q14)⟩, ⟨_, ((fr45 15 (by decide)).trans q15)⟩, hbm, ⟨_, _, _, (homF (warB lw fa ru fe fc) fa on ot ho nu a b h 16777216), _, _, qa45, qb45, qc45⟩, ⟨⟨((fr45 19 (by decide)).trans q19), ((fr45 20 (by decide)).trans q20), ((fr45 21 (by decide)).trans q21), ((fr45 22 (by decide)).trans q22)⟩, hMm⟩, (SheetsC.fr (fun k g1 g2 => fr45 k (by omega)) hSh)⟩, (fun k hk => (fr45 k (by omega)).trans ((fun (k : Nat) (_ : 32 ≤ k) => rfl) k hk))⟩)
            · refine gj_al0 dX8_home_55 ?_
              refine gj_get dX8_home_56 fX8_53 ((fr45 0 (by decide)).trans q0) rfl rfl ?_
              refine gj_cV0r dX8_home_59 mX8_208 hX2_above qa45 rfl (by omega) rfl (tX2_above  (by omega) ⟨qa45, qb45, qc45⟩) ?_
              exact gj_iret dX8_home_62 rfl (wr_i (by unfold homA; rw [if_pos (show (In7 a ∧ In7 b ∧ a ≠ b) ∧ (0 ≤ h ∧ h ≤ 671) ∧ (-4 ≤ i ∧ i ≤ 7 ∧ i ≠ -1) from by omega), ← hcan]; unfold homT; rw [if_pos h52]) ⟨⟨((fr45 0 (by decide)).trans q0), ⟨_, _, _, _, _, _, ⟨((fr45 1 (by decide)).trans q1), ((fr45 2 (by decide)).trans q2), ((fr45 3 (by decide)).trans q3), ((fr45 4 (by decide)).trans q4), ((fr45 5 (by decide)).trans q5), ((fr45 6 (by decide)).trans q6)⟩, hRd⟩, ⟨_, ⟨((fr45 9 (by decide)).trans q9), ((fr45 10 (by decide)).trans q10), ((fr45 11 (by decide)).trans q11)⟩, ⟨((fr45 7 (by decide)).trans q7), ((fr45 8 (by decide)).trans q8)⟩, hO⟩, ⟨_, _, _, ((fr45 12 (by decide)).trans q12), ((fr45 13 (by decide)).trans q13), ((fr45 14 (by decide)).trans q14)⟩, ⟨_, ((fr45 15 (by decide)).trans q15)⟩, hbm, ⟨_, _, _, (homF (warB lw fa ru fe fc) fa on ot ho nu a b h 16777216), _, _, qa45, qb45, qc45⟩, ⟨⟨((fr45 19 (by decide)).trans q19), ((fr45 20 (by decide)).trans q20), ((fr45 21 (by decide)).trans q21), ((fr45 22 (by decide)).trans q22)⟩, hMm⟩, (SheetsC.fr (fun k g1 g2 => fr45 k (by omega)) hSh)⟩, (fun k hk => (fr45 k (by omega)).trans ((fun (k : Nat) (_ : 32 ≤ k) => rfl) k hk))⟩)
          · refine gj_bipush dX8_home_35 rfl ?_
            exact gj_iret dX8_home_37 rfl (wr_i (by unfold homA; rw [if_neg (by omega)]) ⟨⟨q0, ⟨_, _, _, _, _, _, ⟨q1, q2, q3, q4, q5, q6⟩, hRd⟩, ⟨_, ⟨q9, q10, q11⟩, ⟨q7, q8⟩, hO⟩, ⟨_, _, _, q12, q13, q14⟩, ⟨_, q15⟩, hbm, ⟨_, _, _, B, _, _, q16, q17, q18⟩, ⟨⟨q19, q20, q21, q22⟩, hMm⟩, hSh⟩, (fun (k : Nat) (_ : 32 ≤ k) => rfl)⟩)
set_option maxRecDepth 20000 in
set_option maxHeartbeats 4000000 in
theorem tX8_agree {l : Launch} {x : Cx} {d : Nat} {w : AW} {tx : Int → Int} {by0 : Int} {ru fa fe : Int → Int} {fc lw br me : Int} {mh ml mw : Int → Int} {mn fi : Int} {fm ln : Int → Int} {it : Int → Int → Int} {k : Int} (hd : 4 ≤ d) (hC : ClassC w tx by0 ru fa fe fc lw br me mh ml mw mn fi fm ln it) (hk : R32 k) : Mt l x iX8_agree d 0 0 50 w [vR 0, vI k] (Rd (vI (agrA ru k)) w) := by
  have hC0 := hC
  obtain ⟨q0, ⟨on, ot, ho, wy, nu, fl, ⟨q1, q2, q3, q4, q5, q6⟩, hRd⟩, ⟨fd, ⟨q9, q10, q11⟩, ⟨q7, q8⟩, hO⟩, ⟨la, be, ne, q12, q13, q14⟩, ⟨sl, q15⟩, hbm, ⟨go, st, bn, B, ra, rb, q16, q17, q18⟩, ⟨⟨q19, q20, q21, q22⟩, hMm⟩, hSh⟩ := hC
  have hW : WarC w fa (warB lw fa ru fe fc) := ⟨fe, ru, fc, fd, lw, ⟨q9, q10, q11⟩, ⟨q7, q8⟩, hO, rfl⟩
  have hE := hRd.ed
  have hM := hRd.mat
  have c9 := comF_in ru 3
  refine Mt.of (L0 := [some (vR 0), some (vI k), none]) rfl rfl rfl ?_
  refine gj_il1 dX8_agree_0 ?_
  refine gj_iconst dX8_agree_1 ?_
  refine gj_cS2r dX8_agree_2 mX8_75 hX8_upTo (by omega) rfl (tX8_upTo  (by omega) (by omega) (by omega)) ?_
  refine gj_ifB_ne dX8_agree_5 (fun h5 => ?_) (fun h5 => ?_)
  · refine gj_al0 dX8_agree_11 ?_
    refine gj_get dX8_agree_12 fX8_19 q0 rfl rfl ?_
    refine gj_cV0r dX8_agree_15 mX8_221 hX0_commonest q7 rfl (by omega) rfl (tX0_commonest  (by omega) ⟨q7, q8⟩ hO.2.1) ?_
    refine gj_is2 dX8_agree_18 rfl rfl ?_
    refine gj_il1 dX8_agree_19 ?_
    refine gj_if_ne dX8_agree_20 (by omega) (fun h20 => ?_) (fun h20 => ?_)
    · refine gj_al0 dX8_agree_36 ?_
      refine gj_get dX8_agree_37 fX8_19 q0 rfl rfl ?_
      refine gj_il2 dX8_agree_40 ?_
      refine gj_il1 dX8_agree_41 ?_
      refine gj_iconst dX8_agree_42 ?_
      refine gj_isub dX8_agree_43 ?_
      refine gj_cV2r dX8_agree_44 mX8_227 hX0_at q7 rfl (by omega) rfl (tX0_at  (by omega) ⟨q7, q8⟩ (by omega)) ?_
      exact gj_iret dX8_agree_47 rfl (rd_i (by unfold agrA; rw [if_pos (by omega), if_neg h20]))
    · refine gj_iconst dX8_agree_23 ?_
      refine gj_al0 dX8_agree_24 ?_
      refine gj_get dX8_agree_25 fX8_19 q0 rfl rfl ?_
      refine gj_il2 dX8_agree_28 ?_
      refine gj_cV1r dX8_agree_29 mX8_224 hX0_likeOnes q7 rfl (by omega) rfl (tX0_likeOnes  (by omega) ⟨q7, q8⟩ hO.2.1 (by omega)) ?_
      refine gj_isub dX8_agree_32 ?_
      refine gj_goto dX8_agree_33 ?_
      exact gj_iret dX8_agree_47 rfl (rd_i (by unfold agrA; rw [if_pos (by omega), if_pos h20]))
  · refine gj_bipush dX8_agree_8 rfl ?_
    exact gj_iret dX8_agree_10 rfl (rd_i (by unfold agrA; rw [if_neg (by omega)]))
set_option maxRecDepth 20000 in
set_option maxHeartbeats 4000000 in
theorem tX8_middle {l : Launch} {x : Cx} {d : Nat} {w : AW} {tx : Int → Int} {by0 : Int} {ru fa fe : Int → Int} {fc lw br me : Int} {mh ml mw : Int → Int} {mn fi : Int} {fm ln : Int → Int} {it : Int → Int → Int} {k : Int} (hd : 3 ≤ d) (hC : ClassC w tx by0 ru fa fe fc lw br me mh ml mw mn fi fm ln it) (hk : R32 k) : Mt l x iX8_middle d 0 0 50 w [vR 0, vI k] (Rd (vI (midA ru k)) w) := by
  have hC0 := hC
  obtain ⟨q0, ⟨on, ot, ho, wy, nu, fl, ⟨q1, q2, q3, q4, q5, q6⟩, hRd⟩, ⟨fd, ⟨q9, q10, q11⟩, ⟨q7, q8⟩, hO⟩, ⟨la, be, ne, q12, q13, q14⟩, ⟨sl, q15⟩, hbm, ⟨go, st, bn, B, ra, rb, q16, q17, q18⟩, ⟨⟨q19, q20, q21, q22⟩, hMm⟩, hSh⟩ := hC
  have hW : WarC w fa (warB lw fa ru fe fc) := ⟨fe, ru, fc, fd, lw, ⟨q9, q10, q11⟩, ⟨q7, q8⟩, hO, rfl⟩
  have hE := hRd.ed
  have hM := hRd.mat
  have c8 : 0 ≤ midF ru 0 ∧ midF ru 0 ≤ 23 := argl_in (chgF ru 0) 23
  have c9 : 0 ≤ midF ru 1 ∧ midF ru 1 ≤ 23 := argl_in (chgF ru 1) 23
  refine Mt.of (L0 := [some (vR 0), some (vI k), none, none]) rfl rfl rfl ?_
  refine gj_il1 dX8_middle_0 ?_
  refine gj_iconst dX8_middle_1 ?_
  refine gj_cS2r dX8_middle_2 mX8_75 hX8_upTo (by omega) rfl (tX8_upTo  (by omega) (by omega) (by omega)) ?_
  refine gj_ifB_ne dX8_middle_5 (fun h5 => ?_) (fun h5 => ?_)
  · refine gj_al0 dX8_middle_11 ?_
    refine gj_get dX8_middle_12 fX8_19 q0 rfl rfl ?_
    refine gj_iconst dX8_middle_15 ?_
    refine gj_cV1r dX8_middle_16 mX8_230 hX0_middleOf q7 rfl (by omega) rfl (tX0_middleOf  (by omega) ⟨q7, q8⟩ hO.2.1 (by omega)) ?_
    refine gj_is2 dX8_middle_19 rfl rfl ?_
    refine gj_al0 dX8_middle_20 ?_
    refine gj_get dX8_middle_21 fX8_19 q0 rfl rfl ?_
    refine gj_iconst dX8_middle_24 ?_
    refine gj_cV1r dX8_middle_25 mX8_230 hX0_middleOf q7 rfl (by omega) rfl (tX0_middleOf  (by omega) ⟨q7, q8⟩ hO.2.1 (by omega)) ?_
    refine gj_is3 dX8_middle_28 rfl rfl ?_
    refine gj_il1 dX8_middle_29 ?_
    refine gj_if_ne dX8_middle_30 (by omega) (fun h30 => ?_) (fun h30 => ?_)
    · refine gj_il1 dX8_middle_53 ?_
      refine gj_iconst dX8_middle_54 ?_
      refine gj_icmp_ne dX8_middle_55 (by omega) (fun h55 => ?_) (fun h55 => ?_)
      · refine gj_il3 dX8_middle_62 ?_
        exact gj_iret dX8_middle_63 rfl (rd_i (by unfold midA; rw [if_pos (by omega), if_neg h30, if_neg h55]))
      · refine gj_il2 dX8_middle_58 ?_
        refine gj_goto dX8_middle_59 ?_
        exact gj_iret dX8_middle_63 rfl (rd_i (by unfold midA; rw [if_pos (by omega), if_neg h30, if_pos h55]))
    · refine gj_al0 dX8_middle_33 ?_
      refine gj_get dX8_middle_34 fX8_19 q0 rfl rfl ?_
      refine gj_iconst dX8_middle_37 ?_
      refine gj_il2 dX8_middle_38 ?_
      refine gj_cV2r dX8_middle_39 mX8_233 hX0_change q7 rfl (by omega) rfl (tX0_change  (by omega) ⟨q7, q8⟩ hO.2.1 (by omega) (by omega)) ?_
      refine gj_al0 dX8_middle_42 ?_
      refine gj_get dX8_middle_43 fX8_19 q0 rfl rfl ?_
      refine gj_iconst dX8_middle_46 ?_
      refine gj_il3 dX8_middle_47 ?_
      refine gj_cV2r dX8_middle_48 mX8_233 hX0_change q7 rfl (by omega) rfl (tX0_change  (by omega) ⟨q7, q8⟩ hO.2.1 (by omega) (by omega)) ?_
      refine gj_iadd dX8_middle_51 ?_
      exact gj_iret dX8_middle_52 rfl (rd_i (by unfold midA; rw [if_pos (by omega), if_pos h30]))
  · refine gj_bipush dX8_middle_8 rfl ?_
    exact gj_iret dX8_middle_10 rfl (rd_i (by unfold midA; rw [if_neg (by omega)]))
set_option maxRecDepth 20000 in
set_option maxHeartbeats 4000000 in
theorem tX8_seen {l : Launch} {x : Cx} {d : Nat} {w : AW} {tx : Int → Int} {by0 : Int} {ru fa fe : Int → Int} {fc lw br me : Int} {mh ml mw : Int → Int} {mn fi : Int} {fm ln : Int → Int} {it : Int → Int → Int} {h l0 z : Int} (hd : 2 ≤ d) (hC : ClassC w tx by0 ru fa fe fc lw br me mh ml mw mn fi fm ln it) (hh : R32 h) (hl0 : R32 l0) (hz : R32 z) : Mt l x iX8_seen d 0 0 50 w [vR 0, vI h, vI l0, vI z] (fun v2 w2 => (((0 ≤ h ∧ h ≤ 23) ∧ (0 ≤ l0 ∧ l0 ≤ 7) ∧ (0 ≤ z ∧ z ≤ 1)) ∧ mn < 6 ∧ v2 = some (vI (mn + 1)) ∧ ClassC w2 tx by0 ru fa fe fc lw br me (upf mh mn h) (upf ml mn l0) (upf mw mn z) (mn + 1) fi fm ln it ∧ ∀ k : Nat, 32 ≤ k → w2 k = w k) ∨ (((0 ≤ h ∧ h ≤ 23) ∧ (0 ≤ l0 ∧ l0 ≤ 7) ∧ (0 ≤ z ∧ z ≤ 1)) ∧ ¬ mn < 6 ∧ v2 = some (vI (-4)) ∧ w2 = w) ∨ (¬ ((0 ≤ h ∧ h ≤ 23) ∧ (0 ≤ l0 ∧ l0 ≤ 7) ∧ (0 ≤ z ∧ z ≤ 1)) ∧ v2 = some (vI (-2)) ∧ w2 = w)) := by
  have hC0 := hC
  obtain ⟨q0, ⟨on, ot, ho, wy, nu, fl, ⟨q1, q2, q3, q4, q5, q6⟩, hRd⟩, ⟨fd, ⟨q9, q10, q11⟩, ⟨q7, q8⟩, hO⟩, ⟨la, be, ne, q12, q13, q14⟩, ⟨sl, q15⟩, hbm, ⟨go, st, bn, B, ra, rb, q16, q17, q18⟩, ⟨⟨q19, q20, q21, q22⟩, hMm⟩, hSh⟩ := hC
  have hW : WarC w fa (warB lw fa ru fe fc) := ⟨fe, ru, fc, fd, lw, ⟨q9, q10, q11⟩, ⟨q7, q8⟩, hO, rfl⟩
  have hE := hRd.ed
  have hM := hRd.mat
  refine Mt.of (L0 := [some (vR 0), some (vI h), some (vI l0), some (vI z)]) rfl rfl rfl ?_
  refine gj_il1 dX8_seen_0 ?_
  refine gj_bipush dX8_seen_1 rfl ?_
  refine gj_cS2r dX8_seen_3 mX8_75 hX8_upTo (by omega) rfl (tX8_upTo  (by omega) (by omega) (by omega)) ?_
  refine gj_ifB_eq dX8_seen_6 (fun h6 => ?_) (fun h6 => ?_)
  · refine gj_bipush dX8_seen_24 rfl ?_
    exact gj_iret dX8_seen_26 rfl (Or.inr (Or.inr ⟨by omega, rfl, rfl⟩))
  · refine gj_il2 dX8_seen_9 ?_
    refine gj_cS1r dX8_seen_10 mX8_104 hX8_isLand (by omega) rfl (tX8_isLand  (by omega) (by omega)) ?_
    refine gj_ifB_eq dX8_seen_13 (fun h13 => ?_) (fun h13 => ?_)
    · refine gj_bipush dX8_seen_24 rfl ?_
      exact gj_iret dX8_seen_26 rfl (Or.inr (Or.inr ⟨by omega, rfl, rfl⟩))
    · refine gj_il3 dX8_seen_16 ?_
      refine gj_iconst dX8_seen_17 ?_
      refine gj_cS2r dX8_seen_18 mX8_75 hX8_upTo (by omega) rfl (tX8_upTo  (by omega) (by omega) (by omega)) ?_
      refine gj_ifB_ne dX8_seen_21 (fun h21 => ?_) (fun h21 => ?_)
      · refine gj_al0 dX8_seen_27 ?_
        refine gj_get dX8_seen_28 fX8_60 q0 rfl rfl ?_
        refine gj_il1 dX8_seen_31 ?_
        refine gj_il2 dX8_seen_32 ?_
        refine gj_il3 dX8_seen_33 ?_
        refine gj_iconst dX8_seen_34 ?_
        refine gj_icmp_ne dX8_seen_35 (by omega) (fun h35 => ?_) (fun h35 => ?_)
        · refine gj_iconst dX8_seen_42 ?_
          refine gj_cV3x dX8_seen_43 mX8_236 hX4_keep q19 rfl (by omega) rfl (tX4_keep  (by omega) ⟨q19, q20, q21, q22⟩ hMm.1 (by omega)) (fun v43 w43 P43 => ?_)
          rcases P43 with ⟨hc43, rfl, rfl⟩ | ⟨hc43, rfl, rfl⟩
          · simp only [Option.toList, List.cons_append, List.nil_append]
            refine gj_if_eq dX8_seen_46 (by omega) (fun h => absurd h (by omega)) (fun _ => ?_)
            refine gj_al0 dX8_seen_49 ?_
            refine gj_get dX8_seen_50 fX8_60 (upw_o (by decide) (upw_o (by decide) (upw_o (by decide) (upw_o (by decide) q0)))) rfl rfl ?_
            refine gj_get dX8_seen_53 fX8_240 upw_s rfl rfl ?_
            refine gj_goto dX8_seen_56 ?_
            exact gj_iret dX8_seen_61 rfl (Or.inl ⟨⟨by omega, by omega, by omega⟩, hc43, rfl, ⟨⟨(upw_o (by decide) (upw_o (by decide) (upw_o (by decide) (upw_o (by decide) q0)))), ⟨_, _, _, _, _, _, ⟨(upw_o (by decide) (upw_o (by decide) (upw_o (by decide) (upw_o (by decide) q1)))), (upw_o (by decide) (upw_o (by decide) (upw_o (by decide) (upw_o (by decide) q2)))), (upw_o (by decide) (upw_o (by decide) (upw_o (by decide) (upw_o (by decide) q3)))), (upw_o (by decide) (upw_o (by decide) (upw_o (by decide) (upw_o (by decide) q4)))), (upw_o (by decide) (upw_o (by decide) (upw_o (by decide) (upw_o (by decide) q5)))), (upw_o (by decide) (upw_o (by decide) (upw_o (by decide) (upw_o (by decide) q6))))⟩, hRd⟩, ⟨_, ⟨(upw_o (by decide) (upw_o (by decide) (upw_o (by decide) (upw_o (by decide) q9)))), (upw_o (by decide) (upw_o (by decide) (upw_o (by decide) (upw_o (by decide) q10)))), (upw_o (by decide) (upw_o (by decide) (upw_o (by decide) (upw_o (by decide) q11))))⟩, ⟨(upw_o (by decide) (upw_o (by decide) (upw_o (by decide) (upw_o (by decide) q7)))), (upw_o (by decide) (upw_o (by decide) (upw_o (by decide) (upw_o (by decide) q8))))⟩, hO⟩, ⟨_, _, _, (upw_o (by decide) (upw_o (by decide) (upw_o (by decide) (upw_o (by decide) q12)))), (upw_o (by decide) (upw_o (by decide) (upw_o (by decide) (upw_o (by decide) q13)))), (upw_o (by decide) (upw_o (by decide) (upw_o (by decide) (upw_o (by decide) q14))))⟩, ⟨_, (upw_o (by decide) (upw_o (by decide) (upw_o (by decide) (upw_o (by decide) q15))))⟩, hbm, ⟨_, _, _, B, _, _, (upw_o (by decide) (upw_o (by decide) (upw_o (by decide) (upw_o (by decide) q16)))), (upw_o (by decide) (upw_o (by decide) (upw_o (by decide) (upw_o (by decide) q17)))), (upw_o (by decide) (upw_o (by decide) (upw_o (by decide) (upw_o (by decide) q18))))⟩, ⟨⟨upw_s, (upw_o (by decide) (upw_o (by decide) (upw_o (by decide) upw_s))), (upw_o (by decide) (upw_o (by decide) upw_s)), (by rw [show z = 0 by omega]; exact (upw_o (by decide) upw_s))⟩, ⟨by have := hMm.1; omega, fun k g0 g1 => by by_cases e : k = mn; (rw [e, upf_s, upf_s, upf_s]; omega); (rw [upf_o _ _ e, upf_o _ _ e, upf_o _ _ e]; exact hMm.2 k g0 (by omega))⟩⟩, (SheetsC.up (by decide) (SheetsC.up (by decide) (SheetsC.up (by decide) (SheetsC.up (by decide) hSh))))⟩, (fun k hk => upw_o (by omega) ((fun k hk => upw_o (by omega) ((fun k hk => upw_o (by omega) ((fun k hk => upw_o (by omega) ((fun (k : Nat) (_ : 32 ≤ k) => rfl) k hk)) k hk)) k hk)) k hk))⟩⟩)
          · simp only [Option.toList, List.cons_append, List.nil_append]
            refine gj_if_eq dX8_seen_46 (by omega) (fun _ => ?_) (fun h => absurd h (by omega))
            refine gj_bipush dX8_seen_59 rfl ?_
            exact gj_iret dX8_seen_61 rfl (Or.inr (Or.inl ⟨⟨by omega, by omega, by omega⟩, hc43, rfl, rfl⟩))
        · refine gj_iconst dX8_seen_38 ?_
          refine gj_goto dX8_seen_39 ?_
          refine gj_cV3x dX8_seen_43 mX8_236 hX4_keep q19 rfl (by omega) rfl (tX4_keep  (by omega) ⟨q19, q20, q21, q22⟩ hMm.1 (by omega)) (fun v43 w43 P43 => ?_)
          rcases P43 with ⟨hc43, rfl, rfl⟩ | ⟨hc43, rfl, rfl⟩
          · simp only [Option.toList, List.cons_append, List.nil_append]
            refine gj_if_eq dX8_seen_46 (by omega) (fun h => absurd h (by omega)) (fun _ => ?_)
            refine gj_al0 dX8_seen_49 ?_
            refine gj_get dX8_seen_50 fX8_60 (upw_o (by decide) (upw_o (by decide) (upw_o (by decide) (upw_o (by decide) q0)))) rfl rfl ?_
            refine gj_get dX8_seen_53 fX8_240 upw_s rfl rfl ?_
            refine gj_goto dX8_seen_56 ?_
            exact gj_iret dX8_seen_61 rfl (Or.inl ⟨⟨by omega, by omega, by omega⟩, hc43, rfl, ⟨⟨(upw_o (by decide) (upw_o (by decide) (upw_o (by decide) (upw_o (by decide) q0)))), ⟨_, _, _, _, _, _, ⟨(upw_o (by decide) (upw_o (by decide) (upw_o (by decide) (upw_o (by decide) q1)))), (upw_o (by decide) (upw_o (by decide) (upw_o (by decide) (upw_o (by decide) q2)))), (upw_o (by decide) (upw_o (by decide) (upw_o (by decide) (upw_o (by decide) q3)))), (upw_o (by decide) (upw_o (by decide) (upw_o (by decide) (upw_o (by decide) q4)))), (upw_o (by decide) (upw_o (by decide) (upw_o (by decide) (upw_o (by decide) q5)))), (upw_o (by decide) (upw_o (by decide) (upw_o (by decide) (upw_o (by decide) q6))))⟩, hRd⟩, ⟨_, ⟨(upw_o (by decide) (upw_o (by decide) (upw_o (by decide) (upw_o (by decide) q9)))), (upw_o (by decide) (upw_o (by decide) (upw_o (by decide) (upw_o (by decide) q10)))), (upw_o (by decide) (upw_o (by decide) (upw_o (by decide) (upw_o (by decide) q11))))⟩, ⟨(upw_o (by decide) (upw_o (by decide) (upw_o (by decide) (upw_o (by decide) q7)))), (upw_o (by decide) (upw_o (by decide) (upw_o (by decide) (upw_o (by decide) q8))))⟩, hO⟩, ⟨_, _, _, (upw_o (by decide) (upw_o (by decide) (upw_o (by decide) (upw_o (by decide) q12)))), (upw_o (by decide) (upw_o (by decide) (upw_o (by decide) (upw_o (by decide) q13)))), (upw_o (by decide) (upw_o (by decide) (upw_o (by decide) (upw_o (by decide) q14))))⟩, ⟨_, (upw_o (by decide) (upw_o (by decide) (upw_o (by decide) (upw_o (by decide) q15))))⟩, hbm, ⟨_, _, _, B, _, _, (upw_o (by decide) (upw_o (by decide) (upw_o (by decide) (upw_o (by decide) q16)))), (upw_o (by decide) (upw_o (by decide) (upw_o (by decide) (upw_o (by decide) q17)))), (upw_o (by decide) (upw_o (by decide) (upw_o (by decide) (upw_o (by decide) q18))))⟩, ⟨⟨upw_s, (upw_o (by decide) (upw_o (by decide) (upw_o (by decide) upw_s))), (upw_o (by decide) (upw_o (by decide) upw_s)), (by rw [show z = 1 by omega]; exact (upw_o (by decide) upw_s))⟩, ⟨by have := hMm.1; omega, fun k g0 g1 => by by_cases e : k = mn; (rw [e, upf_s, upf_s, upf_s]; omega); (rw [upf_o _ _ e, upf_o _ _ e, upf_o _ _ e]; exact hMm.2 k g0 (by omega))⟩⟩, (SheetsC.up (by decide) (SheetsC.up (by decide) (SheetsC.up (by decide) (SheetsC.up (by decide) hSh))))⟩, (fun k hk => upw_o (by omega) ((fun k hk => upw_o (by omega) ((fun k hk => upw_o (by omega) ((fun k hk => upw_o (by omega) ((fun (k : Nat) (_ : 32 ≤ k) => rfl) k hk)) k hk)) k hk)) k hk))⟩⟩)
          · simp only [Option.toList, List.cons_append, List.nil_append]
            refine gj_if_eq dX8_seen_46 (by omega) (fun _ => ?_) (fun h => absurd h (by omega))
            refine gj_bipush dX8_seen_59 rfl ?_
            exact gj_iret dX8_seen_61 rfl (Or.inr (Or.inl ⟨⟨by omega, by omega, by omega⟩, hc43, rfl, rfl⟩))
      · refine gj_bipush dX8_seen_24 rfl ?_
        exact gj_iret dX8_seen_26 rfl (Or.inr (Or.inr ⟨by omega, rfl, rfl⟩))
set_option maxRecDepth 20000 in
set_option maxHeartbeats 4000000 in
theorem tX8_forget {l : Launch} {x : Cx} {d : Nat} {w : AW} {tx : Int → Int} {by0 : Int} {ru fa fe : Int → Int} {fc lw br me : Int} {mh ml mw : Int → Int} {mn fi : Int} {fm ln : Int → Int} {it : Int → Int → Int}  (hd : 0 ≤ d) (hC : ClassC w tx by0 ru fa fe fc lw br me mh ml mw mn fi fm ln it) : Mt l x iX8_forget d 0 0 50 w [vR 0] (Wr (vI (mn)) (fun w2 => ClassC w2 tx by0 ru fa fe fc lw br me mh ml mw 0 fi fm ln it ∧ ∀ k : Nat, 32 ≤ k → w2 k = w k)) := by
  have hC0 := hC
  obtain ⟨q0, ⟨on, ot, ho, wy, nu, fl, ⟨q1, q2, q3, q4, q5, q6⟩, hRd⟩, ⟨fd, ⟨q9, q10, q11⟩, ⟨q7, q8⟩, hO⟩, ⟨la, be, ne, q12, q13, q14⟩, ⟨sl, q15⟩, hbm, ⟨go, st, bn, B, ra, rb, q16, q17, q18⟩, ⟨⟨q19, q20, q21, q22⟩, hMm⟩, hSh⟩ := hC
  have hW : WarC w fa (warB lw fa ru fe fc) := ⟨fe, ru, fc, fd, lw, ⟨q9, q10, q11⟩, ⟨q7, q8⟩, hO, rfl⟩
  have hE := hRd.ed
  have hM := hRd.mat
  refine Mt.of (L0 := [some (vR 0), none]) rfl rfl rfl ?_
  refine gj_al0 dX8_forget_0 ?_
  refine gj_get dX8_forget_1 fX8_60 q0 rfl rfl ?_
  refine gj_get dX8_forget_4 fX8_240 q19 rfl rfl ?_
  refine gj_is1 dX8_forget_7 rfl rfl ?_
  refine gj_al0 dX8_forget_8 ?_
  refine gj_get dX8_forget_9 fX8_60 q0 rfl rfl ?_
  refine gj_iconst dX8_forget_12 ?_
  refine gj_pI4 dX8_forget_13 fX8_240 q19 rfl ?_
  refine gj_il1 dX8_forget_16 ?_
  exact gj_iret dX8_forget_17 rfl (wr_i rfl ⟨⟨(upw_o (by decide) q0), ⟨_, _, _, _, _, _, ⟨(upw_o (by decide) q1), (upw_o (by decide) q2), (upw_o (by decide) q3), (upw_o (by decide) q4), (upw_o (by decide) q5), (upw_o (by decide) q6)⟩, hRd⟩, ⟨_, ⟨(upw_o (by decide) q9), (upw_o (by decide) q10), (upw_o (by decide) q11)⟩, ⟨(upw_o (by decide) q7), (upw_o (by decide) q8)⟩, hO⟩, ⟨_, _, _, (upw_o (by decide) q12), (upw_o (by decide) q13), (upw_o (by decide) q14)⟩, ⟨_, (upw_o (by decide) q15)⟩, hbm, ⟨_, _, _, B, _, _, (upw_o (by decide) q16), (upw_o (by decide) q17), (upw_o (by decide) q18)⟩, ⟨⟨upw_s, (upw_o (by decide) q20), (upw_o (by decide) q21), (upw_o (by decide) q22)⟩, ⟨by omega, fun k g0 g1 => absurd g1 (by omega)⟩⟩, (SheetsC.up (by decide) hSh)⟩, (fun k hk => upw_o (by omega) ((fun (k : Nat) (_ : 32 ≤ k) => rfl) k hk))⟩)
set_option maxRecDepth 20000 in
set_option maxHeartbeats 4000000 in
theorem tX8_which {l : Launch} {x : Cx} {d : Nat} {w : AW} {tx : Int → Int} {by0 : Int} {ru fa fe : Int → Int} {fc lw br me : Int} {mh ml mw : Int → Int} {mn fi : Int} {fm ln : Int → Int} {it : Int → Int → Int}  (hd : 4 ≤ d) (hC : ClassC w tx by0 ru fa fe fc lw br me mh ml mw mn fi fm ln it) : Mt l x iX8_which d 0 0 50 w [vR 0] (Rd (vI (wchF (warB lw fa ru fe fc) mh ml mw mn)) w) := by
  have hC0 := hC
  obtain ⟨q0, ⟨on, ot, ho, wy, nu, fl, ⟨q1, q2, q3, q4, q5, q6⟩, hRd⟩, ⟨fd, ⟨q9, q10, q11⟩, ⟨q7, q8⟩, hO⟩, ⟨la, be, ne, q12, q13, q14⟩, ⟨sl, q15⟩, hbm, ⟨go, st, bn, B, ra, rb, q16, q17, q18⟩, ⟨⟨q19, q20, q21, q22⟩, hMm⟩, hSh⟩ := hC
  have hW : WarC w fa (warB lw fa ru fe fc) := ⟨fe, ru, fc, fd, lw, ⟨q9, q10, q11⟩, ⟨q7, q8⟩, hO, rfl⟩
  have hE := hRd.ed
  have hM := hRd.mat
  refine Mt.of (L0 := [some (vR 0), none, none]) rfl rfl rfl ?_
  refine gj_iconst dX8_which_0 ?_
  refine gj_is1 dX8_which_1 rfl rfl ?_
  refine gj_iconst dX8_which_2 ?_
  refine gj_is2 dX8_which_3 rfl rfl ?_
  have loop4 : ∀ (k : Nat), ∀ (a i : Int), (0 ≤ i ∧ i ≤ 28) → (a = wchN (fun day => fitZ (warB lw fa ru fe fc) mh ml mw day mn) i.toNat) → (28 - i).toNat < k → Gj l x iX8_which d 0 0 50 (Rd (vI (wchF (warB lw fa ru fe fc) mh ml mw mn)) w) 0 0 50 w 4 [some (vR 0), some (vI a), some (vI i)] [] := by
    intro k
    induction k with
    | zero => intro _ _ _ _ hm; exact absurd hm (Nat.not_lt_zero _)
    | succ k ih4 =>
      intro a i  hi ha hm4
      refine gj_il2 dX8_which_4 ?_
      refine gj_bipush dX8_which_5 rfl ?_
      refine gj_icmp_ge dX8_which_7 (by omega) (fun h7 => ?_) (fun h7 => ?_)
      · refine gj_il1 dX8_which_33 ?_
        exact gj_iret dX8_which_34 rfl (rd_i (by unfold wchF; rw [ha, show i.toNat = 28 by omega]))
      · refine gj_al0 dX8_which_10 ?_
        refine gj_get dX8_which_11 fX8_60 q0 rfl rfl ?_
        refine gj_il2 dX8_which_14 ?_
        refine gj_cV1r dX8_which_15 mX8_241 hX4_fits q19 rfl (by omega) rfl (tX4_fits  (by omega) q9 hW ⟨q19, q20, q21, q22⟩ hMm (by omega)) ?_
        refine gj_ifB_eq dX8_which_18 (fun h18 => ?_) (fun h18 => ?_)
        · refine gj_ii2 dX8_which_27 rfl rfl ?_
          refine gj_goto dX8_which_30 ?_
          exact ih4 _ _ (by omega) (by rw [wch_s _ hi.1, if_neg h18, ha]) (by omega)
        · refine gj_il1 dX8_which_21 ?_
          refine gj_iconst dX8_which_22 ?_
          refine gj_il2 dX8_which_23 ?_
          refine gj_ishl dX8_which_24 ?_
          refine gj_ior dX8_which_25 ?_
          refine gj_is1 dX8_which_26 rfl rfl ?_
          refine gj_ii2 dX8_which_27 rfl rfl ?_
          refine gj_goto dX8_which_30 ?_
          exact ih4 _ _ (by omega) (by rw [wch_s _ hi.1, if_pos h18, ha]) (by omega)
  exact loop4 _ _ _ (by omega) rfl (Nat.lt_succ_self _)
set_option maxRecDepth 20000 in
set_option maxHeartbeats 4000000 in
theorem tX8_season {l : Launch} {x : Cx} {d : Nat} {w : AW} {tx : Int → Int} {by0 : Int} {ru fa fe : Int → Int} {fc lw br me : Int} {mh ml mw : Int → Int} {mn fi : Int} {fm ln : Int → Int} {it : Int → Int → Int} {sd l0 : Int} (hd : 4 ≤ d) (hC : ClassC w tx by0 ru fa fe fc lw br me mh ml mw mn fi fm ln it) (hsd : R32 sd) (hl0 : R32 l0) : Mt l x iX8_season d 0 0 50 w [vR 0, vI sd, vI l0] (Rd (vI (seasA (warB lw fa ru fe fc) sd l0)) w) := by
  have hC0 := hC
  obtain ⟨q0, ⟨on, ot, ho, wy, nu, fl, ⟨q1, q2, q3, q4, q5, q6⟩, hRd⟩, ⟨fd, ⟨q9, q10, q11⟩, ⟨q7, q8⟩, hO⟩, ⟨la, be, ne, q12, q13, q14⟩, ⟨sl, q15⟩, hbm, ⟨go, st, bn, B, ra, rb, q16, q17, q18⟩, ⟨⟨q19, q20, q21, q22⟩, hMm⟩, hSh⟩ := hC
  have hW : WarC w fa (warB lw fa ru fe fc) := ⟨fe, ru, fc, fd, lw, ⟨q9, q10, q11⟩, ⟨q7, q8⟩, hO, rfl⟩
  have hE := hRd.ed
  have hM := hRd.mat
  refine Mt.of (L0 := [some (vR 0), some (vI sd), some (vI l0), none, none, none, none]) rfl rfl rfl ?_
  refine gj_il2 dX8_season_0 ?_
  refine gj_cS1r dX8_season_1 mX8_104 hX8_isLand (by omega) rfl (tX8_isLand  (by omega) (by omega)) ?_
  refine gj_ifB_ne dX8_season_4 (fun h4 => ?_) (fun h4 => ?_)
  · refine gj_iconst dX8_season_10 ?_
    refine gj_is3 dX8_season_11 rfl rfl ?_
    refine gj_il1 dX8_season_12 ?_
    refine gj_is4 dX8_season_13 rfl rfl ?_
    refine gj_iconst dX8_season_15 ?_
    refine gj_is5 dX8_season_16 rfl rfl ?_
    have loop18 : ∀ (k : Nat), ∀ (a lt i : Int), (0 ≤ i ∧ i ≤ 4) → (a = sumZ (fun k => leftF (warB lw fa ru fe fc) k l0 - dayF (warB lw fa ru fe fc) (k * 7 + bUshr (lotF sd (k.toNat + 1)) 16 % 7) l0) i) → (lt = lotF sd i.toNat) → (4 - i).toNat < k → Gj l x iX8_season d 0 0 50 (Rd (vI (seasA (warB lw fa ru fe fc) sd l0)) w) 0 0 50 w 18 [some (vR 0), some (vI sd), some (vI l0), some (vI a), some (vI lt), some (vI i), none] [] := by
      intro k
      induction k with
      | zero => intro _ _ _ _ _ _ hm; exact absurd hm (Nat.not_lt_zero _)
      | succ k ih18 =>
        intro a lt i  hi ha hlt hm18
        refine gj_il5 dX8_season_18 ?_
        refine gj_iconst dX8_season_20 ?_
        refine gj_icmp_ge dX8_season_21 (by omega) (fun h21 => ?_) (fun h21 => ?_)
        · refine gj_il3 dX8_season_81 ?_
          exact gj_iret dX8_season_82 rfl (rd_i (by unfold seasA seasF; rw [if_pos (by omega), ha, show i = 4 by omega]))
        · refine gj_ldc dX8_season_24 kX8_244 ?_
          refine gj_il4 dX8_season_26 ?_
          refine gj_imul dX8_season_28 ?_
          refine gj_sipush dX8_season_29 rfl ?_
          refine gj_iadd dX8_season_32 ?_
          refine gj_is4 dX8_season_33 rfl rfl ?_
          refine gj_il5 dX8_season_35 ?_
          refine gj_bipush dX8_season_37 rfl ?_
          refine gj_imul dX8_season_39 ?_
          refine gj_il4 dX8_season_40 ?_
          refine gj_bipush dX8_season_42 rfl ?_
          refine gj_iushr dX8_season_44 ?_
          refine gj_bipush dX8_season_45 rfl ?_
          have u9 := bUshr16 (1103515245 * lt + 12345)
          refine gj_irem dX8_season_47 (by omega) (by omega) ?_
          refine gj_iadd dX8_season_48 ?_
          refine gj_is6 dX8_season_49 rfl rfl ?_
          refine gj_il3 dX8_season_51 ?_
          refine gj_al0 dX8_season_52 ?_
          refine gj_get dX8_season_53 fX8_28 q0 rfl rfl ?_
          refine gj_il5 dX8_season_56 ?_
          refine gj_il2 dX8_season_58 ?_
          refine gj_cV2r dX8_season_59 mX8_163 hX5_warInWeek q9 rfl (by omega) rfl (tX5_warInWeek  (by omega) q9 hW (by omega) (by omega)) ?_
          refine gj_al0 dX8_season_62 ?_
          refine gj_get dX8_season_63 fX8_28 q0 rfl rfl ?_
          refine gj_il6 dX8_season_66 ?_
          refine gj_il2 dX8_season_68 ?_
          refine gj_cV2r dX8_season_69 mX8_245 hX5_warInDay q9 rfl (by omega) rfl (tDay  (by omega) hW (by omega) (by omega)) ?_
          refine gj_isub dX8_season_72 ?_
          refine gj_iadd dX8_season_73 ?_
          refine gj_is3 dX8_season_74 rfl rfl ?_
          refine gj_ii5 dX8_season_75 rfl rfl ?_
          refine gj_goto dX8_season_78 ?_
          refine gj_dr6 ?_
          exact ih18 _ _ _ (by omega) (by rw [sumZ_s _ hi.1, ha, show lotF sd (i.toNat + 1) = 1103515245 * lt + 12345 from by rw [hlt]; rfl]) (by rw [show (i + 1).toNat = i.toNat + 1 by omega, hlt]; rfl) (by omega)
    exact loop18 _ _ _ _ (by omega) rfl rfl (Nat.lt_succ_self _)
  · refine gj_bipush dX8_season_7 rfl ?_
    exact gj_iret dX8_season_9 rfl (rd_i (by unfold seasA; rw [if_neg (by omega)]))
set_option maxRecDepth 20000 in
set_option maxHeartbeats 4000000 in
theorem tX8_count {l : Launch} {x : Cx} {d : Nat} {w : AW} {tx : Int → Int} {by0 : Int} {ru fa fe : Int → Int} {fc lw br me : Int} {mh ml mw : Int → Int} {mn fi : Int} {fm ln : Int → Int} {it : Int → Int → Int} {k : Int} (hd : 2 ≤ d) (hC : ClassC w tx by0 ru fa fe fc lw br me mh ml mw mn fi fm ln it) (hk : R32 k) : Mt l x iX8_count d 0 0 50 w [vR 0, vI k] (Rd (vI (cntA tx by0 fa fc mn br me fi k)) w) := by
  have hC0 := hC
  obtain ⟨q0, ⟨on, ot, ho, wy, nu, fl, ⟨q1, q2, q3, q4, q5, q6⟩, hRd⟩, ⟨fd, ⟨q9, q10, q11⟩, ⟨q7, q8⟩, hO⟩, ⟨la, be, ne, q12, q13, q14⟩, ⟨sl, q15⟩, hbm, ⟨go, st, bn, B, ra, rb, q16, q17, q18⟩, ⟨⟨q19, q20, q21, q22⟩, hMm⟩, hSh⟩ := hC
  have hW : WarC w fa (warB lw fa ru fe fc) := ⟨fe, ru, fc, fd, lw, ⟨q9, q10, q11⟩, ⟨q7, q8⟩, hO, rfl⟩
  have hE := hRd.ed
  have hM := hRd.mat
  refine Mt.of (L0 := [some (vR 0), some (vI k)]) rfl rfl rfl ?_
  refine gj_il1 dX8_count_0 ?_
  refine gj_tsw9 (t0 := 52) (t1 := 60) (t2 := 68) (t3 := 76) (t4 := 84) (t5 := 92) (t6 := 100) (t7 := 108) (t8 := 116) (td := 121) dX8_count_1 (by omega) (by decide) (by decide) (by decide) (by decide) (by decide) (by decide) (by decide) (by decide) (by decide) (by decide) (fun h1 => ?_) (fun h1 => ?_) (fun h1 => ?_) (fun h1 => ?_) (fun h1 => ?_) (fun h1 => ?_) (fun h1 => ?_) (fun h1 => ?_) (fun h1 => ?_) (fun h1 => ?_)
  · refine gj_al0 dX8_count_52 ?_
    refine gj_get dX8_count_53 fX8_12 q0 rfl rfl ?_
    refine gj_get dX8_count_56 fX8_93 q1 rfl rfl ?_
    exact gj_iret dX8_count_59 rfl (rd_i (by unfold cntA; rw [if_pos h1]; exact hRd.2.2.1))
  · refine gj_al0 dX8_count_60 ?_
    refine gj_get dX8_count_61 fX8_12 q0 rfl rfl ?_
    refine gj_get dX8_count_64 fX8_83 q1 rfl rfl ?_
    exact gj_iret dX8_count_67 rfl (rd_i (by unfold cntA; rw [if_neg (by omega), if_pos (by omega)]))
  · refine gj_al0 dX8_count_68 ?_
    refine gj_get dX8_count_69 fX8_28 q0 rfl rfl ?_
    refine gj_get dX8_count_72 fX8_144 q9 rfl rfl ?_
    exact gj_iret dX8_count_75 rfl (rd_i (by unfold cntA; rw [if_neg (by omega), if_neg (by omega), if_pos (by omega)]))
  · refine gj_al0 dX8_count_76 ?_
    refine gj_get dX8_count_77 fX8_60 q0 rfl rfl ?_
    refine gj_get dX8_count_80 fX8_240 q19 rfl rfl ?_
    exact gj_iret dX8_count_83 rfl (rd_i (by unfold cntA; rw [if_neg (by omega), if_neg (by omega), if_neg (by omega), if_pos (by omega)]))
  · refine gj_al0 dX8_count_84 ?_
    refine gj_get dX8_count_85 fX8_28 q0 rfl rfl ?_
    refine gj_cV0r dX8_count_88 mX8_273 hX5_swornLands q9 rfl (by omega) rfl (tX5_swornLands  (by omega) ⟨q9, q10, q11⟩) ?_
    exact gj_iret dX8_count_91 rfl (rd_i (by unfold cntA; rw [if_neg (by omega), if_neg (by omega), if_neg (by omega), if_neg (by omega), if_pos h1]; exact sumZ_congr (fun i _ _ => by rw [show i * 3 + 1 = 3 * i + 1 by omega])))
  · refine gj_al0 dX8_count_92 ?_
    refine gj_get dX8_count_93 fX8_12 q0 rfl rfl ?_
    refine gj_cV0r dX8_count_96 mX8_276 hX6_allHours q1 rfl (by omega) rfl (tX6_allHours  (by omega) ⟨q1, q2, q3, q4, q5, q6⟩ hE.1) ?_
    exact gj_iret dX8_count_99 rfl (rd_i (by unfold cntA; rw [if_neg (by omega), if_neg (by omega), if_neg (by omega), if_neg (by omega), if_neg (by omega), if_pos h1, ← hRd.2.2.1]; exact sumZ_congr (fun i g0 g1 => (hRd.2.2.2.1 i g0 g1).2.2)))
  · refine gj_al0 dX8_count_100 ?_
    refine gj_get dX8_count_101 fX8_46 q0 rfl rfl ?_
    refine gj_get dX8_count_104 fX8_185 q15 rfl rfl ?_
    exact gj_iret dX8_count_107 rfl (rd_i (by unfold cntA; rw [if_neg (by omega), if_neg (by omega), if_neg (by omega), if_neg (by omega), if_neg (by omega), if_neg (by omega), if_pos (by omega)]))
  · refine gj_al0 dX8_count_108 ?_
    refine gj_get dX8_count_109 fX8_46 q0 rfl rfl ?_
    refine gj_get dX8_count_112 fX8_188 q15 rfl rfl ?_
    exact gj_iret dX8_count_115 rfl (rd_i (by unfold cntA; rw [if_neg (by omega), if_neg (by omega), if_neg (by omega), if_neg (by omega), if_neg (by omega), if_neg (by omega), if_neg (by omega), if_pos (by omega)]))
  · refine gj_al0 dX8_count_116 ?_
    refine gj_get dX8_count_117 fX8_71 q0 rfl rfl ?_
    exact gj_iret dX8_count_120 rfl (rd_i (by unfold cntA; rw [if_neg (by omega), if_neg (by omega), if_neg (by omega), if_neg (by omega), if_neg (by omega), if_neg (by omega), if_neg (by omega), if_neg (by omega), if_pos (by omega)]))
  · refine gj_bipush dX8_count_121 rfl ?_
    exact gj_iret dX8_count_123 rfl (rd_i (by unfold cntA; rw [if_neg (by omega), if_neg (by omega), if_neg (by omega), if_neg (by omega), if_neg (by omega), if_neg (by omega), if_neg (by omega), if_neg (by omega), if_neg (by omega)]))
