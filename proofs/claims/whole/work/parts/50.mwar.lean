/-! contracts: the model: small tests, war -/
abbrev oM (fi by0 a0 nr fc lw le bs bl bp mn mo : Int) : AC := cO 9 [vR 33, vR 34, vR 35, vR 36, vI fi, vR 37, vI by0, vI a0, vI nr, vR 38, vR 39, vR 40, vI fc, vR 41, vI lw, vR 42, vR 43, vI le, vR 44, vR 45, vR 46, vR 47, vI bs, vI bl, vI bp, vR 48, vI mn, vR 49, vI mo]
abbrev MoAt (w : AW) (fa ru fe : Int → Int) (fc lw : Int) : Prop := (∃ fi by0 a0 nr le bs bl bp mn mo : Int, w 32 = oM fi by0 a0 nr fc lw le bs bl bp mn mo) ∧ w 39 = cI 24 fa ∧ w 40 = cI 8 ru ∧ w 41 = cI 8 fe
abbrev MoOK (fa ru fe : Int → Int) (fc lw : Int) : Prop := FaOK fa ∧ RuOK ru ∧ FeOK fe fc ∧ (0 ≤ lw ∧ lw ≤ 15)
theorem fsZ_s (fe : Int → Int) (day : Int) {i : Int} (h : 0 ≤ i) : fsB fe day (i + 1).toNat = (fsB fe day i.toNat || decide (fe i = day)) := by
  rw [show (i + 1).toNat = i.toNat + 1 by omega, fsB, show ((i.toNat : Nat) : Int) = i by omega]
set_option maxRecDepth 20000 in
set_option maxHeartbeats 4000000 in
theorem tX9_in {l : Launch} {x : Cx} {d : Nat} {w : AW} {a b c : Int} (hd : 0 ≤ d) (ha : R32 a) (hb : R32 b) (hc : R32 c) : Mt l x iX9_in d 0 0 50 w [vL a, vL b, vL c] (Rd (vI (b2i (b ≤ a ∧ a ≤ c))) w) := by
  refine Mt.of (L0 := [some (vL a), none, some (vL b), none, some (vL c), none]) rfl rfl rfl ?_
  refine gj_ll0 dX9_in_0 ?_
  refine gj_ll2 dX9_in_1 ?_
  refine gj_lc_lt dX9_in_2 dX9_in_3 (by omega) (by omega) (fun h2 => ?_) (fun h2 => ?_)
  · refine gj_iconst dX9_in_17 ?_
    exact gj_zret (Or.inl rfl) dX9_in_18 rfl (rd_i (b2i_f (by omega)).symm)
  · refine gj_ll0 dX9_in_6 ?_
    refine gj_ll4 dX9_in_7 ?_
    refine gj_lc_gt dX9_in_9 dX9_in_10 (by omega) (by omega) (fun h9 => ?_) (fun h9 => ?_)
    · refine gj_iconst dX9_in_17 ?_
      exact gj_zret (Or.inl rfl) dX9_in_18 rfl (rd_i (b2i_f (by omega)).symm)
    · refine gj_iconst dX9_in_13 ?_
      refine gj_goto dX9_in_14 ?_
      exact gj_zret (Or.inr rfl) dX9_in_18 rfl (rd_i (b2i_t (by omega)).symm)
set_option maxRecDepth 20000 in
set_option maxHeartbeats 4000000 in
theorem tX9_isTwo {l : Launch} {x : Cx} {d : Nat} {w : AW} {a : Int} (hd : 1 ≤ d) (ha : R32 a) : Mt l x iX9_isTwo d 0 0 50 w [vI a] (Rd (vI (b2i (0 ≤ a ∧ a ≤ 1))) w) := by
  refine Mt.of (L0 := [some (vI a)]) rfl rfl rfl ?_
  refine gj_il0 dX9_isTwo_0 ?_
  refine gj_i2l dX9_isTwo_1 (by omega) ?_
  refine gj_lconst0 dX9_isTwo_2 ?_
  refine gj_lconst1 dX9_isTwo_3 ?_
  refine gj_cS3r dX9_isTwo_4 mX9_65 hX9_in (by omega) rfl (tX9_in  (by omega) (by omega) (by omega) (by omega)) ?_
  exact gj_zret (b2i_R _) dX9_isTwo_7 rfl (rd_i rfl)
set_option maxRecDepth 20000 in
set_option maxHeartbeats 4000000 in
theorem tX9_isLand {l : Launch} {x : Cx} {d : Nat} {w : AW} {a : Int} (hd : 1 ≤ d) (ha : R32 a) : Mt l x iX9_isLand d 0 0 50 w [vI a] (Rd (vI (b2i (0 ≤ a ∧ a ≤ 7))) w) := by
  refine Mt.of (L0 := [some (vI a)]) rfl rfl rfl ?_
  refine gj_il0 dX9_isLand_0 ?_
  refine gj_i2l dX9_isLand_1 (by omega) ?_
  refine gj_lconst0 dX9_isLand_2 ?_
  refine gj_ldc2 dX9_isLand_3 kX9_123 ?_
  refine gj_cS3r dX9_isLand_6 mX9_65 hX9_in (by omega) rfl (tX9_in  (by omega) (by omega) (by omega) (by omega)) ?_
  exact gj_zret (b2i_R _) dX9_isLand_9 rfl (rd_i rfl)
set_option maxRecDepth 20000 in
set_option maxHeartbeats 4000000 in
theorem tX9_isParish {l : Launch} {x : Cx} {d : Nat} {w : AW} {a : Int} (hd : 1 ≤ d) (ha : R32 a) : Mt l x iX9_isParish d 0 0 50 w [vI a] (Rd (vI (b2i (0 ≤ a ∧ a ≤ 3))) w) := by
  refine Mt.of (L0 := [some (vI a)]) rfl rfl rfl ?_
  refine gj_il0 dX9_isParish_0 ?_
  refine gj_i2l dX9_isParish_1 (by omega) ?_
  refine gj_lconst0 dX9_isParish_2 ?_
  refine gj_ldc2 dX9_isParish_3 kX9_72 ?_
  refine gj_cS3r dX9_isParish_6 mX9_65 hX9_in (by omega) rfl (tX9_in  (by omega) (by omega) (by omega) (by omega)) ?_
  exact gj_zret (b2i_R _) dX9_isParish_9 rfl (rd_i rfl)
set_option maxRecDepth 20000 in
set_option maxHeartbeats 4000000 in
theorem tX9_isHour {l : Launch} {x : Cx} {d : Nat} {w : AW} {a : Int} (hd : 1 ≤ d) (ha : R32 a) : Mt l x iX9_isHour d 0 0 50 w [vI a] (Rd (vI (b2i (0 ≤ a ∧ a ≤ 671))) w) := by
  refine Mt.of (L0 := [some (vI a)]) rfl rfl rfl ?_
  refine gj_il0 dX9_isHour_0 ?_
  refine gj_i2l dX9_isHour_1 (by omega) ?_
  refine gj_lconst0 dX9_isHour_2 ?_
  refine gj_ldc2 dX9_isHour_3 kX9_125 ?_
  refine gj_cS3r dX9_isHour_6 mX9_65 hX9_in (by omega) rfl (tX9_in  (by omega) (by omega) (by omega) (by omega)) ?_
  exact gj_zret (b2i_R _) dX9_isHour_9 rfl (rd_i rfl)
set_option maxRecDepth 20000 in
set_option maxHeartbeats 4000000 in
theorem tX9_isSheet {l : Launch} {x : Cx} {d : Nat} {w : AW} {a : Int} (hd : 1 ≤ d) (ha : R32 a) : Mt l x iX9_isSheet d 0 0 50 w [vI a] (Rd (vI (b2i (0 ≤ a ∧ a ≤ 3))) w) := by
  refine Mt.of (L0 := [some (vI a)]) rfl rfl rfl ?_
  refine gj_il0 dX9_isSheet_0 ?_
  refine gj_i2l dX9_isSheet_1 (by omega) ?_
  refine gj_lconst0 dX9_isSheet_2 ?_
  refine gj_ldc2 dX9_isSheet_3 kX9_72 ?_
  refine gj_cS3r dX9_isSheet_6 mX9_65 hX9_in (by omega) rfl (tX9_in  (by omega) (by omega) (by omega) (by omega)) ?_
  exact gj_zret (b2i_R _) dX9_isSheet_9 rfl (rd_i rfl)
set_option maxRecDepth 20000 in
set_option maxHeartbeats 4000000 in
theorem tX9_isIn {l : Launch} {x : Cx} {d : Nat} {w : AW} {v k : Int} (hd : 0 ≤ d) (hk : 0 ≤ k ∧ k < 32) : Mt l x iX9_isIn d 0 0 50 w [vI v, vI k] (Rd (vI (b2i (tb v k = true))) w) := by
  have e9 := bAnd_R (bShr v k) 1
  have e8 := bShr_bit (v := v) hk
  refine Mt.of (L0 := [some (vI v), some (vI k)]) rfl rfl rfl ?_
  refine gj_il0 dX9_isIn_0 ?_
  refine gj_il1 dX9_isIn_1 ?_
  refine gj_ishr dX9_isIn_2 ?_
  refine gj_iconst dX9_isIn_3 ?_
  refine gj_iand dX9_isIn_4 ?_
  refine gj_iconst dX9_isIn_5 ?_
  refine gj_icmp_ne dX9_isIn_6 (by omega) (fun h6 => ?_) (fun h6 => ?_)
  · refine gj_iconst dX9_isIn_13 ?_
    exact gj_zret (Or.inl rfl) dX9_isIn_14 rfl (rd_i (b2i_f (by intro z; rw [if_pos z] at e8; omega)).symm)
  · refine gj_iconst dX9_isIn_9 ?_
    refine gj_goto dX9_isIn_10 ?_
    exact gj_zret (Or.inr rfl) dX9_isIn_14 rfl (rd_i (b2i_t (by rw [h6] at e8; revert e8; split <;> simp_all)).symm)
set_option maxRecDepth 20000 in
set_option maxHeartbeats 4000000 in
theorem tX9_lesser {l : Launch} {x : Cx} {d : Nat} {w : AW} {a b : Int} (hd : 0 ≤ d) (ha : R32 a) (hb : R32 b) : Mt l x iX9_lesser d 0 0 50 w [vI a, vI b] (Rd (vI (min a b)) w) := by
  refine Mt.of (L0 := [some (vI a), some (vI b)]) rfl rfl rfl ?_
  refine gj_il0 dX9_lesser_0 ?_
  refine gj_il1 dX9_lesser_1 ?_
  refine gj_icmp_ge dX9_lesser_2 (by omega) (fun h2 => ?_) (fun h2 => ?_)
  · refine gj_il1 dX9_lesser_9 ?_
    exact gj_iret dX9_lesser_10 rfl (rd_i (by omega))
  · refine gj_il0 dX9_lesser_5 ?_
    refine gj_goto dX9_lesser_6 ?_
    exact gj_iret dX9_lesser_10 rfl (rd_i (by omega))
set_option maxRecDepth 20000 in
set_option maxHeartbeats 4000000 in
theorem tX9_amount {l : Launch} {x : Cx} {d : Nat} {w : AW} {a : Int} (hd : 0 ≤ d) (ha : R32 a) : Mt l x iX9_amount d 0 0 50 w [vI a] (Rd (vI (max a (-a))) w) := by
  refine Mt.of (L0 := [some (vI a)]) rfl rfl rfl ?_
  refine gj_il0 dX9_amount_0 ?_
  refine gj_if_ge dX9_amount_1 (by omega) (fun h1 => ?_) (fun h1 => ?_)
  · refine gj_il0 dX9_amount_9 ?_
    exact gj_iret dX9_amount_10 rfl (rd_i (by omega))
  · refine gj_il0 dX9_amount_4 ?_
    refine gj_ineg dX9_amount_5 ?_
    refine gj_goto dX9_amount_6 ?_
    exact gj_iret dX9_amount_10 rfl (rd_i (by omega))
set_option maxRecDepth 20000 in
set_option maxHeartbeats 4000000 in
theorem tX9_areTwo {l : Launch} {x : Cx} {d : Nat} {w : AW} {a b : Int} (hd : 2 ≤ d) (ha : R32 a) (hb : R32 b) : Mt l x iX9_areTwo d 0 0 50 w [vI a, vI b] (Rd (vI (b2i ((0 ≤ a ∧ a ≤ 7) ∧ (0 ≤ b ∧ b ≤ 7) ∧ a ≠ b))) w) := by
  refine Mt.of (L0 := [some (vI a), some (vI b)]) rfl rfl rfl ?_
  refine gj_il0 dX9_areTwo_0 ?_
  refine gj_cS1r dX9_areTwo_1 mX9_127 hX9_isLand (by omega) rfl (tX9_isLand  (by omega) (by omega)) ?_
  refine gj_ifB_eq dX9_areTwo_4 (fun h4 => ?_) (fun h4 => ?_)
  · refine gj_iconst dX9_areTwo_23 ?_
    exact gj_zret (Or.inl rfl) dX9_areTwo_24 rfl (rd_i (b2i_f (by omega)).symm)
  · refine gj_il1 dX9_areTwo_7 ?_
    refine gj_cS1r dX9_areTwo_8 mX9_127 hX9_isLand (by omega) rfl (tX9_isLand  (by omega) (by omega)) ?_
    refine gj_ifB_eq dX9_areTwo_11 (fun h11 => ?_) (fun h11 => ?_)
    · refine gj_iconst dX9_areTwo_23 ?_
      exact gj_zret (Or.inl rfl) dX9_areTwo_24 rfl (rd_i (b2i_f (by omega)).symm)
    · refine gj_il0 dX9_areTwo_14 ?_
      refine gj_il1 dX9_areTwo_15 ?_
      refine gj_icmp_eq dX9_areTwo_16 (by omega) (fun h16 => ?_) (fun h16 => ?_)
      · refine gj_iconst dX9_areTwo_23 ?_
        exact gj_zret (Or.inl rfl) dX9_areTwo_24 rfl (rd_i (b2i_f (by omega)).symm)
      · refine gj_iconst dX9_areTwo_19 ?_
        refine gj_goto dX9_areTwo_20 ?_
        exact gj_zret (Or.inr rfl) dX9_areTwo_24 rfl (rd_i (b2i_t (by omega)).symm)
set_option maxRecDepth 20000 in
set_option maxHeartbeats 4000000 in
theorem tX9_isWarBy {l : Launch} {x : Cx} {d : Nat} {w : AW} {fa ru fe : Int → Int} {fc lw : Int} {p h : Int} (hd : 1 ≤ d) (hM : MoAt w fa ru fe fc lw) (hR : RuOK ru) (hp : 0 ≤ p ∧ p ≤ 3) (hh : R32 h) : Mt l x iX9_isWarBy d 0 0 50 w [vR 32, vI p, vI h] (Rd (vI (b2i (ru (2 * p) ≤ h ∧ h ≤ 47 + ru (2 * p + 1)))) w) := by
  obtain ⟨⟨fi, by0, a0, nr, le, bs, bl, bp, mn, mo, q32⟩, q39, q40, q41⟩ := hM
  have r0 := hR (2 * p) (by omega) (by omega)
  have r1 := hR (2 * p + 1) (by omega) (by omega)
  refine Mt.of (L0 := [some (vR 32), some (vI p), some (vI h)]) rfl rfl rfl ?_
  refine gj_il2 dX9_isWarBy_0 ?_
  refine gj_i2l dX9_isWarBy_1 (by omega) ?_
  refine gj_al0 dX9_isWarBy_2 ?_
  refine gj_get dX9_isWarBy_3 fX9_31 q32 rfl rfl ?_
  refine gj_iconst dX9_isWarBy_6 ?_
  refine gj_il1 dX9_isWarBy_7 ?_
  refine gj_imul dX9_isWarBy_8 ?_
  refine gj_iald dX9_isWarBy_9 q40 rfl rfl (by omega) ?_
  refine gj_i2l dX9_isWarBy_10 (by omega) ?_
  refine gj_bipush dX9_isWarBy_11 rfl ?_
  refine gj_al0 dX9_isWarBy_13 ?_
  refine gj_get dX9_isWarBy_14 fX9_31 q32 rfl rfl ?_
  refine gj_iconst dX9_isWarBy_17 ?_
  refine gj_il1 dX9_isWarBy_18 ?_
  refine gj_imul dX9_isWarBy_19 ?_
  refine gj_iconst dX9_isWarBy_20 ?_
  refine gj_iadd dX9_isWarBy_21 ?_
  refine gj_iald dX9_isWarBy_22 q40 rfl rfl (by omega) ?_
  refine gj_iadd dX9_isWarBy_23 ?_
  refine gj_i2l dX9_isWarBy_24 (by omega) ?_
  refine gj_cS3r dX9_isWarBy_25 mX9_65 hX9_in (by omega) rfl (tX9_in  (by omega) (by omega) (by omega) (by omega)) ?_
  exact gj_zret (b2i_R _) dX9_isWarBy_28 rfl (rd_i rfl)
set_option maxRecDepth 20000 in
set_option maxHeartbeats 4000000 in
theorem tX9_isFeast {l : Launch} {x : Cx} {d : Nat} {w : AW} {fa ru fe : Int → Int} {fc lw : Int} {day : Int} (hd : 0 ≤ d) (hM : MoAt w fa ru fe fc lw) (hF : FeOK fe fc) (hday : R32 day) : Mt l x iX9_isFeast d 0 0 50 w [vR 32, vI day] (Rd (vI (b2i (fsB fe day fc.toNat = true))) w) := by
  obtain ⟨⟨fi, by0, a0, nr, le, bs, bl, bp, mn, mo, q32⟩, q39, q40, q41⟩ := hM
  refine Mt.of (L0 := [some (vR 32), some (vI day), none, none]) rfl rfl rfl ?_
  refine gj_iconst dX9_isFeast_0 ?_
  refine gj_is2 dX9_isFeast_1 rfl rfl ?_
  refine gj_iconst dX9_isFeast_2 ?_
  refine gj_is3 dX9_isFeast_3 rfl rfl ?_
  have loop4 : ∀ (k : Nat), ∀ (a i : Int), (0 ≤ i ∧ i ≤ fc) → (a = b2i (fsB fe day i.toNat = true)) → (fc - i).toNat < k → Gj l x iX9_isFeast d 0 0 50 (Rd (vI (b2i (fsB fe day fc.toNat = true))) w) 0 0 50 w 4 [some (vR 32), some (vI day), some (vI a), some (vI i)] [] := by
    intro k
    induction k with
    | zero => intro _ _ _ _ hm; exact absurd hm (Nat.not_lt_zero _)
    | succ k ih4 =>
      intro a i  hi ha hm4
      have hb := b2i_R (fsB fe day i.toNat = true)
      refine gj_il3 dX9_isFeast_4 ?_
      refine gj_al0 dX9_isFeast_5 ?_
      refine gj_get dX9_isFeast_6 fX9_148 q32 rfl rfl ?_
      refine gj_icmp_ge dX9_isFeast_9 (by have := hF.1; omega) (fun h9 => ?_) (fun h9 => ?_)
      · subst ha
        refine gj_il2 dX9_isFeast_38 ?_
        exact gj_zret (b2i_R _) dX9_isFeast_39 rfl (rd_i (by rw [show i = fc by omega]))
      · refine gj_il2 dX9_isFeast_12 ?_
        refine gj_if_ne dX9_isFeast_13 (by omega) (fun h13 => ?_) (fun h13 => ?_)
        · refine gj_iconst dX9_isFeast_26 ?_
          refine gj_goto dX9_isFeast_27 ?_
          refine gj_is2 dX9_isFeast_31 rfl rfl ?_
          refine gj_ii3 dX9_isFeast_32 rfl rfl ?_
          refine gj_goto dX9_isFeast_35 ?_
          exact ih4 _ _ (by omega) (by rw [b2i_t]; rw [fsZ_s _ _ hi.1, show fsB fe day i.toNat = true from by by_cases z : fsB fe day i.toNat = true; exact z; (rw [b2i_f z] at ha; omega)]; rfl) (by omega)
        · have f9 := hF.2 i hi.1 (by omega)
          have f8 := hF.1
          refine gj_al0 dX9_isFeast_16 ?_
          refine gj_get dX9_isFeast_17 fX9_34 q32 rfl rfl ?_
          refine gj_il3 dX9_isFeast_20 ?_
          refine gj_iald dX9_isFeast_21 q41 rfl rfl (by omega) ?_
          refine gj_il1 dX9_isFeast_22 ?_
          refine gj_icmp_ne dX9_isFeast_23 (by omega) (fun h23 => ?_) (fun h23 => ?_)
          · refine gj_iconst dX9_isFeast_30 ?_
            refine gj_is2 dX9_isFeast_31 rfl rfl ?_
            refine gj_ii3 dX9_isFeast_32 rfl rfl ?_
            refine gj_goto dX9_isFeast_35 ?_
            exact ih4 _ _ (by omega) (by rw [b2i_f]; rw [fsZ_s _ _ hi.1, decide_eq_false h23]; intro z; rw [Bool.or_false] at z; rw [b2i_t z] at ha; omega) (by omega)
          · refine gj_iconst dX9_isFeast_26 ?_
            refine gj_goto dX9_isFeast_27 ?_
            refine gj_is2 dX9_isFeast_31 rfl rfl ?_
            refine gj_ii3 dX9_isFeast_32 rfl rfl ?_
            refine gj_goto dX9_isFeast_35 ?_
            exact ih4 _ _ (by omega) (by rw [b2i_t]; rw [fsZ_s _ _ hi.1, decide_eq_true (by omega)]; simp) (by omega)
  exact loop4 _ _ _ (by have := hF.1; omega) rfl (Nat.lt_succ_self _)
set_option maxRecDepth 20000 in
set_option maxHeartbeats 4000000 in
theorem tX9_isWar {l : Launch} {x : Cx} {d : Nat} {w : AW} {fa ru fe : Int → Int} {fc lw : Int} {h l0 : Int} (hd : 2 ≤ d) (hM : MoAt w fa ru fe fc lw) (hO : MoOK fa ru fe fc lw) (hh : 0 ≤ h ∧ h ≤ 100000) (hl : 0 ≤ l0 ∧ l0 ≤ 7) : Mt l x iX9_isWar d 0 0 50 w [vR 32, vI h, vI l0] (Rd (vI (b2i ((warB lw fa ru fe fc) h l0 = true))) w) := by
  obtain ⟨⟨fi, by0, a0, nr, le, bs, bl, bp, mn, mo, q32⟩, q39, q40, q41⟩ := hM
  have f9 := hO.1 l0 hl.1 hl.2
  refine Mt.of (L0 := [some (vR 32), some (vI h), some (vI l0), none]) rfl rfl rfl ?_
  refine gj_il1 dX9_isWar_0 ?_
  refine gj_sipush dX9_isWar_1 rfl ?_
  refine gj_icmp_gt dX9_isWar_4 (by omega) (fun h4 => ?_) (fun h4 => ?_)
  · refine gj_iconst dX9_isWar_39 ?_
    refine gj_is3 dX9_isWar_40 rfl rfl ?_
    refine gj_il3 dX9_isWar_41 ?_
    refine gj_if_eq dX9_isWar_42 (by omega) (fun _ => ?_) (fun h => absurd h (by omega))
    refine gj_iconst dX9_isWar_80 ?_
    exact gj_zret (Or.inl rfl) dX9_isWar_81 rfl (rd_i (b2i_f (by rw [warB_iff]; rintro ⟨g1, g2, g3, g4, g5, g6⟩; first | omega | (rw [g2] at h19; exact absurd h19 (by decide)) | (rw [g6] at h73; exact absurd h73 (by decide)))).symm)
  · refine gj_al0 dX9_isWar_7 ?_
    refine gj_get dX9_isWar_8 fX9_153 q32 rfl rfl ?_
    refine gj_il1 dX9_isWar_11 ?_
    refine gj_sipush dX9_isWar_12 rfl ?_
    refine gj_idiv dX9_isWar_15 (by omega) (by omega) ?_
    refine gj_cS2r dX9_isWar_16 mX9_156 hX9_isIn (by omega) rfl (tX9_isIn  (by omega) (by omega)) ?_
    refine gj_ifB_ne dX9_isWar_19 (fun h19 => ?_) (fun h19 => ?_)
    · refine gj_iconst dX9_isWar_39 ?_
      refine gj_is3 dX9_isWar_40 rfl rfl ?_
      refine gj_il3 dX9_isWar_41 ?_
      refine gj_if_eq dX9_isWar_42 (by omega) (fun _ => ?_) (fun h => absurd h (by omega))
      refine gj_iconst dX9_isWar_80 ?_
      exact gj_zret (Or.inl rfl) dX9_isWar_81 rfl (rd_i (b2i_f (by rw [warB_iff]; rintro ⟨g1, g2, g3, g4, g5, g6⟩; first | omega | (rw [g2] at h19; exact absurd h19 (by decide)) | (rw [g6] at h73; exact absurd h73 (by decide)))).symm)
    · refine gj_al0 dX9_isWar_22 ?_
      refine gj_get dX9_isWar_23 fX9_28 q32 rfl rfl ?_
      refine gj_iconst dX9_isWar_26 ?_
      refine gj_il2 dX9_isWar_27 ?_
      refine gj_imul dX9_isWar_28 ?_
      refine gj_iconst dX9_isWar_29 ?_
      refine gj_iadd dX9_isWar_30 ?_
      refine gj_iald dX9_isWar_31 q39 rfl rfl (by omega) ?_
      refine gj_if_ne dX9_isWar_32 (by omega) (fun h32 => ?_) (fun h32 => ?_)
      · refine gj_iconst dX9_isWar_39 ?_
        refine gj_is3 dX9_isWar_40 rfl rfl ?_
        refine gj_il3 dX9_isWar_41 ?_
        refine gj_if_eq dX9_isWar_42 (by omega) (fun _ => ?_) (fun h => absurd h (by omega))
        refine gj_iconst dX9_isWar_80 ?_
        exact gj_zret (Or.inl rfl) dX9_isWar_81 rfl (rd_i (b2i_f (by rw [warB_iff]; rintro ⟨g1, g2, g3, g4, g5, g6⟩; first | omega | (rw [g2] at h19; exact absurd h19 (by decide)) | (rw [g6] at h73; exact absurd h73 (by decide)))).symm)
      · refine gj_iconst dX9_isWar_35 ?_
        refine gj_goto dX9_isWar_36 ?_
        refine gj_is3 dX9_isWar_40 rfl rfl ?_
        refine gj_il3 dX9_isWar_41 ?_
        refine gj_if_eq dX9_isWar_42 (by omega) (fun h => absurd h (by omega)) (fun _ => ?_)
        refine gj_al0 dX9_isWar_45 ?_
        refine gj_al0 dX9_isWar_46 ?_
        refine gj_get dX9_isWar_47 fX9_28 q32 rfl rfl ?_
        refine gj_iconst dX9_isWar_50 ?_
        refine gj_il2 dX9_isWar_51 ?_
        refine gj_imul dX9_isWar_52 ?_
        refine gj_iald dX9_isWar_53 q39 rfl rfl (by omega) ?_
        refine gj_il1 dX9_isWar_54 ?_
        refine gj_sipush dX9_isWar_55 rfl ?_
        refine gj_irem dX9_isWar_58 (by omega) (by omega) ?_
        refine gj_cV2r dX9_isWar_59 mX9_160 hX9_isWarBy q32 rfl (by omega) rfl (tX9_isWarBy  (by omega) ⟨⟨_, _, _, _, _, _, _, _, _, _, q32⟩, q39, q40, q41⟩ hO.2.1 (by omega) (by omega)) ?_
        refine gj_ifB_eq dX9_isWar_62 (fun h62 => ?_) (fun h62 => ?_)
        · refine gj_iconst dX9_isWar_80 ?_
          exact gj_zret (Or.inl rfl) dX9_isWar_81 rfl (rd_i (b2i_f (by rw [warB_iff]; rintro ⟨g1, g2, g3, g4, g5, g6⟩; first | omega | (rw [g2] at h19; exact absurd h19 (by decide)) | (rw [g6] at h73; exact absurd h73 (by decide)))).symm)
        · refine gj_al0 dX9_isWar_65 ?_
          refine gj_il1 dX9_isWar_66 ?_
          refine gj_bipush dX9_isWar_67 rfl ?_
          refine gj_idiv dX9_isWar_69 (by omega) (by omega) ?_
          refine gj_cV1r dX9_isWar_70 mX9_163 hX9_isFeast q32 rfl (by omega) rfl (tX9_isFeast  (by omega) ⟨⟨_, _, _, _, _, _, _, _, _, _, q32⟩, q39, q40, q41⟩ hO.2.2.1 (by omega)) ?_
          refine gj_ifB_ne dX9_isWar_73 (fun h73 => ?_) (fun h73 => ?_)
          · refine gj_iconst dX9_isWar_80 ?_
            exact gj_zret (Or.inl rfl) dX9_isWar_81 rfl (rd_i (b2i_f (by rw [warB_iff]; rintro ⟨g1, g2, g3, g4, g5, g6⟩; first | omega | (rw [g2] at h19; exact absurd h19 (by decide)) | (rw [g6] at h73; exact absurd h73 (by decide)))).symm)
          · refine gj_iconst dX9_isWar_76 ?_
            refine gj_goto dX9_isWar_77 ?_
            exact gj_zret (Or.inr rfl) dX9_isWar_81 rfl (rd_i (b2i_t (by rw [warB_iff]; refine ⟨by omega, by simpa using h19, by omega, by omega, by omega, by simpa using h73⟩)).symm)
set_option maxRecDepth 20000 in
set_option maxHeartbeats 4000000 in
theorem tX9_war {l : Launch} {x : Cx} {d : Nat} {w : AW} {fa ru fe : Int → Int} {fc lw : Int} {h l0 : Int} (hd : 3 ≤ d) (hM : MoAt w fa ru fe fc lw) (hO : MoOK fa ru fe fc lw) (hh : R32 h) (hl0 : R32 l0) : Mt l x iX9_war d 0 0 50 w [vR 32, vI h, vI l0] (Rd (vI (warA (warB lw fa ru fe fc) h l0)) w) := by
  obtain ⟨⟨fi, by0, a0, nr, le, bs, bl, bp, mn, mo, q32⟩, q39, q40, q41⟩ := hM
  refine Mt.of (L0 := [some (vR 32), some (vI h), some (vI l0)]) rfl rfl rfl ?_
  refine gj_il1 dX9_war_0 ?_
  refine gj_cS1r dX9_war_1 mX9_166 hX9_isHour (by omega) rfl (tX9_isHour  (by omega) (by omega)) ?_
  refine gj_ifB_eq dX9_war_4 (fun h4 => ?_) (fun h4 => ?_)
  · refine gj_bipush dX9_war_14 rfl ?_
    refine gj_goto dX9_war_16 ?_
    exact gj_iret dX9_war_33 rfl (rd_i (by unfold warA; first | (rw [if_pos (by omega), b2i_t h25]) | (rw [if_pos (by omega), b2i_f h25]) | (rw [if_neg (by omega)])))
  · refine gj_il2 dX9_war_7 ?_
    refine gj_cS1r dX9_war_8 mX9_127 hX9_isLand (by omega) rfl (tX9_isLand  (by omega) (by omega)) ?_
    refine gj_ifB_ne dX9_war_11 (fun h11 => ?_) (fun h11 => ?_)
    · refine gj_al0 dX9_war_19 ?_
      refine gj_il1 dX9_war_20 ?_
      refine gj_il2 dX9_war_21 ?_
      refine gj_cV2r dX9_war_22 mX9_169 hX9_isWar q32 rfl (by omega) rfl (tX9_isWar  (by omega) ⟨⟨_, _, _, _, _, _, _, _, _, _, q32⟩, q39, q40, q41⟩ hO (by omega) (by omega)) ?_
      refine gj_ifB_eq dX9_war_25 (fun h25 => ?_) (fun h25 => ?_)
      · refine gj_iconst dX9_war_32 ?_
        exact gj_iret dX9_war_33 rfl (rd_i (by unfold warA; first | (rw [if_pos (by omega), b2i_t h25]) | (rw [if_pos (by omega), b2i_f h25]) | (rw [if_neg (by omega)])))
      · refine gj_iconst dX9_war_28 ?_
        refine gj_goto dX9_war_29 ?_
        exact gj_iret dX9_war_33 rfl (rd_i (by unfold warA; first | (rw [if_pos (by omega), b2i_t h25]) | (rw [if_pos (by omega), b2i_f h25]) | (rw [if_neg (by omega)])))
    · refine gj_bipush dX9_war_14 rfl ?_
      refine gj_goto dX9_war_16 ?_
      exact gj_iret dX9_war_33 rfl (rd_i (by unfold warA; first | (rw [if_pos (by omega), b2i_t h25]) | (rw [if_pos (by omega), b2i_f h25]) | (rw [if_neg (by omega)])))
set_option maxRecDepth 20000 in
set_option maxHeartbeats 4000000 in
theorem tX9_strikesNow {l : Launch} {x : Cx} {d : Nat} {w : AW} {fa ru fe : Int → Int} {fc lw : Int} {h l0 a b : Int} (hd : 3 ≤ d) (hM : MoAt w fa ru fe fc lw) (hO : MoOK fa ru fe fc lw) (hh : 0 ≤ h ∧ h ≤ 671) (hl0 : 0 ≤ l0 ∧ l0 ≤ 7) (ha : R32 a) (hb : R32 b) : Mt l x iX9_strikesNow d 0 0 50 w [vR 32, vI h, vI l0, vI a, vI b] (Rd (vI (b2i ((a = 0 ∨ (a = 2 ∧ h / 24 % 7 = 1)) ∧ b ≠ 3 ∧ (warB lw fa ru fe fc) h l0 = true))) w) := by
  obtain ⟨⟨fi, by0, a0, nr, le, bs, bl, bp, mn, mo, q32⟩, q39, q40, q41⟩ := hM
  refine Mt.of (L0 := [some (vR 32), some (vI h), some (vI l0), some (vI a), some (vI b), none]) rfl rfl rfl ?_
  refine gj_il3 dX9_strikesNow_0 ?_
  refine gj_if_eq dX9_strikesNow_1 (by omega) (fun h1 => ?_) (fun h1 => ?_)
  · refine gj_iconst dX9_strikesNow_20 ?_
    refine gj_goto dX9_strikesNow_21 ?_
    refine gj_is5 dX9_strikesNow_25 rfl rfl ?_
    refine gj_il5 dX9_strikesNow_27 ?_
    refine gj_if_eq dX9_strikesNow_29 (by omega) (fun h => absurd h (by omega)) (fun _ => ?_)
    refine gj_il4 dX9_strikesNow_32 ?_
    refine gj_iconst dX9_strikesNow_34 ?_
    refine gj_icmp_eq dX9_strikesNow_35 (by omega) (fun h35 => ?_) (fun h35 => ?_)
    · refine gj_iconst dX9_strikesNow_51 ?_
      exact gj_zret (Or.inl rfl) dX9_strikesNow_52 rfl (rd_i (b2i_f (by rintro ⟨g1, g2, g3⟩; first | omega | exact h44 g3)).symm)
    · refine gj_al0 dX9_strikesNow_38 ?_
      refine gj_il1 dX9_strikesNow_39 ?_
      refine gj_il2 dX9_strikesNow_40 ?_
      refine gj_cV2r dX9_strikesNow_41 mX9_169 hX9_isWar q32 rfl (by omega) rfl (tX9_isWar  (by omega) ⟨⟨_, _, _, _, _, _, _, _, _, _, q32⟩, q39, q40, q41⟩ hO (by omega) (by omega)) ?_
      refine gj_ifB_eq dX9_strikesNow_44 (fun h44 => ?_) (fun h44 => ?_)
      · refine gj_iconst dX9_strikesNow_51 ?_
        exact gj_zret (Or.inl rfl) dX9_strikesNow_52 rfl (rd_i (b2i_f (by rintro ⟨g1, g2, g3⟩; first | omega | exact h44 g3)).symm)
      · refine gj_iconst dX9_strikesNow_47 ?_
        refine gj_goto dX9_strikesNow_48 ?_
        exact gj_zret (Or.inr rfl) dX9_strikesNow_52 rfl (rd_i (b2i_t (by exact ⟨by omega, by omega, h44⟩)).symm)
  · refine gj_il3 dX9_strikesNow_4 ?_
    refine gj_iconst dX9_strikesNow_5 ?_
    refine gj_icmp_ne dX9_strikesNow_6 (by omega) (fun h6 => ?_) (fun h6 => ?_)
    · refine gj_iconst dX9_strikesNow_24 ?_
      refine gj_is5 dX9_strikesNow_25 rfl rfl ?_
      refine gj_il5 dX9_strikesNow_27 ?_
      refine gj_if_eq dX9_strikesNow_29 (by omega) (fun _ => ?_) (fun h => absurd h (by omega))
      refine gj_iconst dX9_strikesNow_51 ?_
      exact gj_zret (Or.inl rfl) dX9_strikesNow_52 rfl (rd_i (b2i_f (by rintro ⟨g1, g2, g3⟩; first | omega | exact h44 g3)).symm)
    · refine gj_il1 dX9_strikesNow_9 ?_
      refine gj_bipush dX9_strikesNow_10 rfl ?_
      refine gj_idiv dX9_strikesNow_12 (by omega) (by omega) ?_
      refine gj_bipush dX9_strikesNow_13 rfl ?_
      refine gj_irem dX9_strikesNow_15 (by omega) (by omega) ?_
      refine gj_iconst dX9_strikesNow_16 ?_
      refine gj_icmp_ne dX9_strikesNow_17 (by omega) (fun h17 => ?_) (fun h17 => ?_)
      · refine gj_iconst dX9_strikesNow_24 ?_
        refine gj_is5 dX9_strikesNow_25 rfl rfl ?_
        refine gj_il5 dX9_strikesNow_27 ?_
        refine gj_if_eq dX9_strikesNow_29 (by omega) (fun _ => ?_) (fun h => absurd h (by omega))
        refine gj_iconst dX9_strikesNow_51 ?_
        exact gj_zret (Or.inl rfl) dX9_strikesNow_52 rfl (rd_i (b2i_f (by rintro ⟨g1, g2, g3⟩; first | omega | exact h44 g3)).symm)
      · refine gj_iconst dX9_strikesNow_20 ?_
        refine gj_goto dX9_strikesNow_21 ?_
        refine gj_is5 dX9_strikesNow_25 rfl rfl ?_
        refine gj_il5 dX9_strikesNow_27 ?_
        refine gj_if_eq dX9_strikesNow_29 (by omega) (fun h => absurd h (by omega)) (fun _ => ?_)
        refine gj_il4 dX9_strikesNow_32 ?_
        refine gj_iconst dX9_strikesNow_34 ?_
        refine gj_icmp_eq dX9_strikesNow_35 (by omega) (fun h35 => ?_) (fun h35 => ?_)
        · refine gj_iconst dX9_strikesNow_51 ?_
          exact gj_zret (Or.inl rfl) dX9_strikesNow_52 rfl (rd_i (b2i_f (by rintro ⟨g1, g2, g3⟩; first | omega | exact h44 g3)).symm)
        · refine gj_al0 dX9_strikesNow_38 ?_
          refine gj_il1 dX9_strikesNow_39 ?_
          refine gj_il2 dX9_strikesNow_40 ?_
          refine gj_cV2r dX9_strikesNow_41 mX9_169 hX9_isWar q32 rfl (by omega) rfl (tX9_isWar  (by omega) ⟨⟨_, _, _, _, _, _, _, _, _, _, q32⟩, q39, q40, q41⟩ hO (by omega) (by omega)) ?_
          refine gj_ifB_eq dX9_strikesNow_44 (fun h44 => ?_) (fun h44 => ?_)
          · refine gj_iconst dX9_strikesNow_51 ?_
            exact gj_zret (Or.inl rfl) dX9_strikesNow_52 rfl (rd_i (b2i_f (by rintro ⟨g1, g2, g3⟩; first | omega | exact h44 g3)).symm)
          · refine gj_iconst dX9_strikesNow_47 ?_
            refine gj_goto dX9_strikesNow_48 ?_
            exact gj_zret (Or.inr rfl) dX9_strikesNow_52 rfl (rd_i (b2i_t (by exact ⟨by omega, by omega, h44⟩)).symm)
set_option maxRecDepth 20000 in
set_option maxHeartbeats 4000000 in
theorem tX9_strikes {l : Launch} {x : Cx} {d : Nat} {w : AW} {fa ru fe : Int → Int} {fc lw : Int} {h l0 a b : Int} (hd : 4 ≤ d) (hM : MoAt w fa ru fe fc lw) (hO : MoOK fa ru fe fc lw) (hh : R32 h) (hl0 : R32 l0) (ha : R32 a) (hb : R32 b) : Mt l x iX9_strikes d 0 0 50 w [vR 32, vI h, vI l0, vI a, vI b] (Rd (vI (strA (warB lw fa ru fe fc) h l0 a b)) w) := by
  obtain ⟨⟨fi, by0, a0, nr, le, bs, bl, bp, mn, mo, q32⟩, q39, q40, q41⟩ := hM
  refine Mt.of (L0 := [some (vR 32), some (vI h), some (vI l0), some (vI a), some (vI b), none]) rfl rfl rfl ?_
  refine gj_il1 dX9_strikes_0 ?_
  refine gj_cS1r dX9_strikes_1 mX9_166 hX9_isHour (by omega) rfl (tX9_isHour  (by omega) (by omega)) ?_
  refine gj_ifB_eq dX9_strikes_4 (fun h4 => ?_) (fun h4 => ?_)
  · refine gj_iconst dX9_strikes_43 ?_
    refine gj_is5 dX9_strikes_44 rfl rfl ?_
    refine gj_il5 dX9_strikes_46 ?_
    refine gj_if_ne dX9_strikes_48 (by omega) (fun h => absurd h (by omega)) (fun _ => ?_)
    refine gj_bipush dX9_strikes_51 rfl ?_
    refine gj_goto dX9_strikes_53 ?_
    exact gj_iret dX9_strikes_73 rfl (rd_i (by unfold strA; first | (rw [if_pos (by omega), b2i_t h65]) | (rw [if_pos (by omega), b2i_f h65]) | (rw [if_neg (by omega)])))
  · refine gj_il2 dX9_strikes_7 ?_
    refine gj_cS1r dX9_strikes_8 mX9_127 hX9_isLand (by omega) rfl (tX9_isLand  (by omega) (by omega)) ?_
    refine gj_ifB_eq dX9_strikes_11 (fun h11 => ?_) (fun h11 => ?_)
    · refine gj_iconst dX9_strikes_43 ?_
      refine gj_is5 dX9_strikes_44 rfl rfl ?_
      refine gj_il5 dX9_strikes_46 ?_
      refine gj_if_ne dX9_strikes_48 (by omega) (fun h => absurd h (by omega)) (fun _ => ?_)
      refine gj_bipush dX9_strikes_51 rfl ?_
      refine gj_goto dX9_strikes_53 ?_
      exact gj_iret dX9_strikes_73 rfl (rd_i (by unfold strA; first | (rw [if_pos (by omega), b2i_t h65]) | (rw [if_pos (by omega), b2i_f h65]) | (rw [if_neg (by omega)])))
    · refine gj_il3 dX9_strikes_14 ?_
      refine gj_i2l dX9_strikes_15 (by omega) ?_
      refine gj_lconst0 dX9_strikes_16 ?_
      refine gj_ldc2 dX9_strikes_17 kX9_72 ?_
      refine gj_cS3r dX9_strikes_20 mX9_65 hX9_in (by omega) rfl (tX9_in  (by omega) (by omega) (by omega) (by omega)) ?_
      refine gj_ifB_eq dX9_strikes_23 (fun h23 => ?_) (fun h23 => ?_)
      · refine gj_iconst dX9_strikes_43 ?_
        refine gj_is5 dX9_strikes_44 rfl rfl ?_
        refine gj_il5 dX9_strikes_46 ?_
        refine gj_if_ne dX9_strikes_48 (by omega) (fun h => absurd h (by omega)) (fun _ => ?_)
        refine gj_bipush dX9_strikes_51 rfl ?_
        refine gj_goto dX9_strikes_53 ?_
        exact gj_iret dX9_strikes_73 rfl (rd_i (by unfold strA; first | (rw [if_pos (by omega), b2i_t h65]) | (rw [if_pos (by omega), b2i_f h65]) | (rw [if_neg (by omega)])))
      · refine gj_il4 dX9_strikes_26 ?_
        refine gj_i2l dX9_strikes_28 (by omega) ?_
        refine gj_lconst0 dX9_strikes_29 ?_
        refine gj_ldc2 dX9_strikes_30 kX9_72 ?_
        refine gj_cS3r dX9_strikes_33 mX9_65 hX9_in (by omega) rfl (tX9_in  (by omega) (by omega) (by omega) (by omega)) ?_
        refine gj_ifB_eq dX9_strikes_36 (fun h36 => ?_) (fun h36 => ?_)
        · refine gj_iconst dX9_strikes_43 ?_
          refine gj_is5 dX9_strikes_44 rfl rfl ?_
          refine gj_il5 dX9_strikes_46 ?_
          refine gj_if_ne dX9_strikes_48 (by omega) (fun h => absurd h (by omega)) (fun _ => ?_)
          refine gj_bipush dX9_strikes_51 rfl ?_
          refine gj_goto dX9_strikes_53 ?_
          exact gj_iret dX9_strikes_73 rfl (rd_i (by unfold strA; first | (rw [if_pos (by omega), b2i_t h65]) | (rw [if_pos (by omega), b2i_f h65]) | (rw [if_neg (by omega)])))
        · refine gj_iconst dX9_strikes_39 ?_
          refine gj_goto dX9_strikes_40 ?_
          refine gj_is5 dX9_strikes_44 rfl rfl ?_
          refine gj_il5 dX9_strikes_46 ?_
          refine gj_if_ne dX9_strikes_48 (by omega) (fun _ => ?_) (fun h => absurd h (by omega))
          refine gj_al0 dX9_strikes_56 ?_
          refine gj_il1 dX9_strikes_57 ?_
          refine gj_il2 dX9_strikes_58 ?_
          refine gj_il3 dX9_strikes_59 ?_
          refine gj_il4 dX9_strikes_60 ?_
          refine gj_cV4r dX9_strikes_62 mX9_172 hX9_strikesNow q32 rfl (by omega) rfl (tX9_strikesNow  (by omega) ⟨⟨_, _, _, _, _, _, _, _, _, _, q32⟩, q39, q40, q41⟩ hO (by omega) (by omega) (by omega) (by omega)) ?_
          refine gj_ifB_eq dX9_strikes_65 (fun h65 => ?_) (fun h65 => ?_)
          · refine gj_iconst dX9_strikes_72 ?_
            exact gj_iret dX9_strikes_73 rfl (rd_i (by unfold strA; first | (rw [if_pos (by omega), b2i_t h65]) | (rw [if_pos (by omega), b2i_f h65]) | (rw [if_neg (by omega)])))
          · refine gj_iconst dX9_strikes_68 ?_
            refine gj_goto dX9_strikes_69 ?_
            exact gj_iret dX9_strikes_73 rfl (rd_i (by unfold strA; first | (rw [if_pos (by omega), b2i_t h65]) | (rw [if_pos (by omega), b2i_f h65]) | (rw [if_neg (by omega)])))
set_option maxRecDepth 20000 in
set_option maxHeartbeats 4000000 in
theorem tX9_nextOf {l : Launch} {x : Cx} {d : Nat} {w : AW} {fa ru fe : Int → Int} {fc lw : Int} {h l0 z : Int} (hd : 3 ≤ d) (hM : MoAt w fa ru fe fc lw) (hO : MoOK fa ru fe fc lw) (hh : 0 ≤ h ∧ h ≤ 671) (hl0 : 0 ≤ l0 ∧ l0 ≤ 7) (hz : R32 z) : Mt l x iX9_nextOf d 0 0 50 w [vR 32, vI h, vI l0, vI z] (Rd (vI (fstZ (nxtB (warB lw fa ru fe fc) l0 z) h 672)) w) := by
  obtain ⟨⟨fi, by0, a0, nr, le, bs, bl, bp, mn, mo, q32⟩, q39, q40, q41⟩ := hM
  refine Mt.of (L0 := [some (vR 32), some (vI h), some (vI l0), some (vI z), none]) rfl rfl rfl ?_
  refine gj_il1 dX9_nextOf_0 ?_
  refine gj_is4 dX9_nextOf_1 rfl rfl ?_
  have loop3 : ∀ (k : Nat), ∀ (i : Int), (0 ≤ i ∧ i ≤ 672) → (fstZ (nxtB (warB lw fa ru fe fc) l0 z) i 672 = fstZ (nxtB (warB lw fa ru fe fc) l0 z) h 672) → (672 - i).toNat < k → Gj l x iX9_nextOf d 0 0 50 (Rd (vI (fstZ (nxtB (warB lw fa ru fe fc) l0 z) h 672)) w) 0 0 50 w 3 [some (vR 32), some (vI h), some (vI l0), some (vI z), some (vI i)] [] := by
    intro k
    induction k with
    | zero => intro _ _ _ hm; exact absurd hm (Nat.not_lt_zero _)
    | succ k ih3 =>
      intro i  hi ha hm3
      refine gj_il4 dX9_nextOf_3 ?_
      refine gj_sipush dX9_nextOf_5 rfl ?_
      refine gj_icmp_ge dX9_nextOf_8 (by omega) (fun h8 => ?_) (fun h8 => ?_)
      · refine gj_iconst dX9_nextOf_40 ?_
        exact gj_iret dX9_nextOf_41 rfl (rd_i (by rw [← ha, fstZ_end (by omega)]))
      · refine gj_al0 dX9_nextOf_11 ?_
        refine gj_il4 dX9_nextOf_12 ?_
        refine gj_il2 dX9_nextOf_14 ?_
        refine gj_cV2r dX9_nextOf_15 mX9_169 hX9_isWar q32 rfl (by omega) rfl (tX9_isWar  (by omega) ⟨⟨_, _, _, _, _, _, _, _, _, _, q32⟩, q39, q40, q41⟩ hO (by omega) (by omega)) ?_
        refine gj_il3 dX9_nextOf_18 ?_
        refine gj_iconst dX9_nextOf_19 ?_
        refine gj_icmp_ne dX9_nextOf_20 (by omega) (fun h20 => ?_) (fun h20 => ?_)
        · refine gj_iconst dX9_nextOf_27 ?_
          have bb := b2i_R ((warB lw fa ru fe fc) i l0 = true)
          refine gj_icmp_ne dX9_nextOf_28 (by omega) (fun h28 => ?_) (fun h28 => ?_)
          · refine gj_ii4 dX9_nextOf_34 rfl rfl ?_
            refine gj_goto dX9_nextOf_37 ?_
            exact ih3 _ (by omega) (by rw [← ha, ← fstZ_no (by omega) (by unfold nxtB; rw [decide_eq_true_eq, b2i_f (P := z = 1) h20]; exact h28)]) (by omega)
          · refine gj_il4 dX9_nextOf_31 ?_
            exact gj_iret dX9_nextOf_33 rfl (rd_i (by rw [← ha, fstZ_yes (by omega) (by unfold nxtB; rw [decide_eq_true_eq, b2i_f (P := z = 1) h20]; omega)]))
        · refine gj_iconst dX9_nextOf_23 ?_
          refine gj_goto dX9_nextOf_24 ?_
          have bb := b2i_R ((warB lw fa ru fe fc) i l0 = true)
          refine gj_icmp_ne dX9_nextOf_28 (by omega) (fun h28 => ?_) (fun h28 => ?_)
          · refine gj_ii4 dX9_nextOf_34 rfl rfl ?_
            refine gj_goto dX9_nextOf_37 ?_
            exact ih3 _ (by omega) (by rw [← ha, ← fstZ_no (by omega) (by unfold nxtB; rw [decide_eq_true_eq, b2i_t (P := z = 1) (by omega)]; exact h28)]) (by omega)
          · refine gj_il4 dX9_nextOf_31 ?_
            exact gj_iret dX9_nextOf_33 rfl (rd_i (by rw [← ha, fstZ_yes (by omega) (by unfold nxtB; rw [decide_eq_true_eq, b2i_t (P := z = 1) (by omega)]; omega)]))
  exact loop3 _ _ (by omega) rfl (Nat.lt_succ_self _)
set_option maxRecDepth 20000 in
set_option maxHeartbeats 4000000 in
theorem tX9_next {l : Launch} {x : Cx} {d : Nat} {w : AW} {fa ru fe : Int → Int} {fc lw : Int} {h l0 z : Int} (hd : 4 ≤ d) (hM : MoAt w fa ru fe fc lw) (hO : MoOK fa ru fe fc lw) (hh : R32 h) (hl0 : R32 l0) (hz : R32 z) : Mt l x iX9_next d 0 0 50 w [vR 32, vI h, vI l0, vI z] (Rd (vI (nextA (warB lw fa ru fe fc) h l0 z)) w) := by
  obtain ⟨⟨fi, by0, a0, nr, le, bs, bl, bp, mn, mo, q32⟩, q39, q40, q41⟩ := hM
  refine Mt.of (L0 := [some (vR 32), some (vI h), some (vI l0), some (vI z)]) rfl rfl rfl ?_
  refine gj_il1 dX9_next_0 ?_
  refine gj_cS1r dX9_next_1 mX9_166 hX9_isHour (by omega) rfl (tX9_isHour  (by omega) (by omega)) ?_
  refine gj_ifB_eq dX9_next_4 (fun h4 => ?_) (fun h4 => ?_)
  · refine gj_bipush dX9_next_31 rfl ?_
    exact gj_iret dX9_next_33 rfl (rd_i (by unfold nextA; first | (rw [if_pos (by omega)]) | (rw [if_neg (by omega)])))
  · refine gj_il2 dX9_next_7 ?_
    refine gj_cS1r dX9_next_8 mX9_127 hX9_isLand (by omega) rfl (tX9_isLand  (by omega) (by omega)) ?_
    refine gj_ifB_eq dX9_next_11 (fun h11 => ?_) (fun h11 => ?_)
    · refine gj_bipush dX9_next_31 rfl ?_
      exact gj_iret dX9_next_33 rfl (rd_i (by unfold nextA; first | (rw [if_pos (by omega)]) | (rw [if_neg (by omega)])))
    · refine gj_il3 dX9_next_14 ?_
      refine gj_cS1r dX9_next_15 mX9_135 hX9_isTwo (by omega) rfl (tX9_isTwo  (by omega) (by omega)) ?_
      refine gj_ifB_eq dX9_next_18 (fun h18 => ?_) (fun h18 => ?_)
      · refine gj_bipush dX9_next_31 rfl ?_
        exact gj_iret dX9_next_33 rfl (rd_i (by unfold nextA; first | (rw [if_pos (by omega)]) | (rw [if_neg (by omega)])))
      · refine gj_al0 dX9_next_21 ?_
        refine gj_il1 dX9_next_22 ?_
        refine gj_il2 dX9_next_23 ?_
        refine gj_il3 dX9_next_24 ?_
        refine gj_cV3r dX9_next_25 mX9_176 hX9_nextOf q32 rfl (by omega) rfl (tX9_nextOf  (by omega) ⟨⟨_, _, _, _, _, _, _, _, _, _, q32⟩, q39, q40, q41⟩ hO (by omega) (by omega) (by omega)) ?_
        refine gj_goto dX9_next_28 ?_
        exact gj_iret dX9_next_33 rfl (rd_i (by unfold nextA; first | (rw [if_pos (by omega)]) | (rw [if_neg (by omega)])))
set_option maxRecDepth 20000 in
set_option maxHeartbeats 4000000 in
theorem tX9_leftIn {l : Launch} {x : Cx} {d : Nat} {w : AW} {fa ru fe : Int → Int} {fc lw : Int} {wk l0 : Int} (hd : 3 ≤ d) (hM : MoAt w fa ru fe fc lw) (hO : MoOK fa ru fe fc lw) (hk : 0 ≤ wk ∧ wk ≤ 3) (hl0 : 0 ≤ l0 ∧ l0 ≤ 7) : Mt l x iX9_leftIn d 0 0 50 w [vR 32, vI wk, vI l0] (Rd (vI (leftF (warB lw fa ru fe fc) wk l0)) w) := by
  obtain ⟨⟨fi, by0, a0, nr, le, bs, bl, bp, mn, mo, q32⟩, q39, q40, q41⟩ := hM
  refine Mt.of (L0 := [some (vR 32), some (vI wk), some (vI l0), none, none]) rfl rfl rfl ?_
  refine gj_iconst dX9_leftIn_0 ?_
  refine gj_is3 dX9_leftIn_1 rfl rfl ?_
  refine gj_sipush dX9_leftIn_2 rfl ?_
  refine gj_il1 dX9_leftIn_5 ?_
  refine gj_imul dX9_leftIn_6 ?_
  refine gj_is4 dX9_leftIn_7 rfl rfl ?_
  have loop9 : ∀ (k : Nat), ∀ (a i : Int), (168 * wk ≤ i ∧ i ≤ 168 * wk + 168) → (a = sumZ (fun q => b2i ((warB lw fa ru fe fc) (168 * wk + q) l0 = true)) (i - 168 * wk)) → (168 * wk + 168 - i).toNat < k → Gj l x iX9_leftIn d 0 0 50 (Rd (vI (leftF (warB lw fa ru fe fc) wk l0)) w) 0 0 50 w 9 [some (vR 32), some (vI wk), some (vI l0), some (vI a), some (vI i)] [] := by
    intro k
    induction k with
    | zero => intro _ _ _ _ hm; exact absurd hm (Nat.not_lt_zero _)
    | succ k ih9 =>
      intro a i  hi ha hm9
      have ss := sumZ_s (fun q => b2i ((warB lw fa ru fe fc) (168 * wk + q) l0 = true)) (i := i - 168 * wk) (by omega)
      rw [show i - 168 * wk + 1 = i + 1 - 168 * wk by omega, ← ha] at ss
      simp only [show 168 * wk + (i - 168 * wk) = i by omega] at ss
      refine gj_il4 dX9_leftIn_9 ?_
      refine gj_sipush dX9_leftIn_11 rfl ?_
      refine gj_il1 dX9_leftIn_14 ?_
      refine gj_imul dX9_leftIn_15 ?_
      refine gj_sipush dX9_leftIn_16 rfl ?_
      refine gj_iadd dX9_leftIn_19 ?_
      refine gj_icmp_ge dX9_leftIn_20 (by omega) (fun h20 => ?_) (fun h20 => ?_)
      · refine gj_il3 dX9_leftIn_47 ?_
        exact gj_iret dX9_leftIn_48 rfl (rd_i (by unfold leftF; rw [ha, show i - 168 * wk = 168 by omega]))
      · refine gj_il3 dX9_leftIn_23 ?_
        refine gj_al0 dX9_leftIn_24 ?_
        refine gj_il4 dX9_leftIn_25 ?_
        refine gj_il2 dX9_leftIn_27 ?_
        refine gj_cV2r dX9_leftIn_28 mX9_169 hX9_isWar q32 rfl (by omega) rfl (tX9_isWar  (by omega) ⟨⟨_, _, _, _, _, _, _, _, _, _, q32⟩, q39, q40, q41⟩ hO (by omega) (by omega)) ?_
        refine gj_ifB_eq dX9_leftIn_31 (fun h31 => ?_) (fun h31 => ?_)
        · refine gj_iconst dX9_leftIn_38 ?_
          refine gj_iadd dX9_leftIn_39 ?_
          refine gj_is3 dX9_leftIn_40 rfl rfl ?_
          refine gj_ii4 dX9_leftIn_41 rfl rfl ?_
          refine gj_goto dX9_leftIn_44 ?_
          exact ih9 _ _ (by omega) (by rw [ss, b2i_f h31]) (by omega)
        · refine gj_iconst dX9_leftIn_34 ?_
          refine gj_goto dX9_leftIn_35 ?_
          refine gj_iadd dX9_leftIn_39 ?_
          refine gj_is3 dX9_leftIn_40 rfl rfl ?_
          refine gj_ii4 dX9_leftIn_41 rfl rfl ?_
          refine gj_goto dX9_leftIn_44 ?_
          exact ih9 _ _ (by omega) (by rw [ss, b2i_t h31]) (by omega)
  exact loop9 _ _ _ (by omega) (by rw [show 168 * wk - 168 * wk = 0 by omega]; rfl) (Nat.lt_succ_self _)
set_option maxRecDepth 20000 in
set_option maxHeartbeats 4000000 in
theorem tX9_left {l : Launch} {x : Cx} {d : Nat} {w : AW} {fa ru fe : Int → Int} {fc lw : Int} {k l0 : Int} (hd : 4 ≤ d) (hM : MoAt w fa ru fe fc lw) (hO : MoOK fa ru fe fc lw) (hk : R32 k) (hl0 : R32 l0) : Mt l x iX9_left d 0 0 50 w [vR 32, vI k, vI l0] (Rd (vI (leftA (warB lw fa ru fe fc) k l0)) w) := by
  obtain ⟨⟨fi, by0, a0, nr, le, bs, bl, bp, mn, mo, q32⟩, q39, q40, q41⟩ := hM
  refine Mt.of (L0 := [some (vR 32), some (vI k), some (vI l0)]) rfl rfl rfl ?_
  refine gj_il1 dX9_left_0 ?_
  refine gj_i2l dX9_left_1 (by omega) ?_
  refine gj_lconst0 dX9_left_2 ?_
  refine gj_ldc2 dX9_left_3 kX9_72 ?_
  refine gj_cS3r dX9_left_6 mX9_65 hX9_in (by omega) rfl (tX9_in  (by omega) (by omega) (by omega) (by omega)) ?_
  refine gj_ifB_eq dX9_left_9 (fun h9 => ?_) (fun h9 => ?_)
  · refine gj_bipush dX9_left_28 rfl ?_
    exact gj_iret dX9_left_30 rfl (rd_i (by unfold leftA; first | (rw [if_pos (by omega)]) | (rw [if_neg (by omega)])))
  · refine gj_il2 dX9_left_12 ?_
    refine gj_cS1r dX9_left_13 mX9_127 hX9_isLand (by omega) rfl (tX9_isLand  (by omega) (by omega)) ?_
    refine gj_ifB_eq dX9_left_16 (fun h16 => ?_) (fun h16 => ?_)
    · refine gj_bipush dX9_left_28 rfl ?_
      exact gj_iret dX9_left_30 rfl (rd_i (by unfold leftA; first | (rw [if_pos (by omega)]) | (rw [if_neg (by omega)])))
    · refine gj_al0 dX9_left_19 ?_
      refine gj_il1 dX9_left_20 ?_
      refine gj_il2 dX9_left_21 ?_
      refine gj_cV2r dX9_left_22 mX9_179 hX9_leftIn q32 rfl (by omega) rfl (tX9_leftIn  (by omega) ⟨⟨_, _, _, _, _, _, _, _, _, _, q32⟩, q39, q40, q41⟩ hO (by omega) (by omega)) ?_
      refine gj_goto dX9_left_25 ?_
      exact gj_iret dX9_left_30 rfl (rd_i (by unfold leftA; first | (rw [if_pos (by omega)]) | (rw [if_neg (by omega)])))
set_option maxRecDepth 20000 in
set_option maxHeartbeats 4000000 in
theorem tX9_bestOf {l : Launch} {x : Cx} {d : Nat} {w : AW} {fa ru fe : Int → Int} {fc lw : Int} {l0 : Int} (hd : 4 ≤ d) (hM : MoAt w fa ru fe fc lw) (hO : MoOK fa ru fe fc lw) (hl0 : 0 ≤ l0 ∧ l0 ≤ 7) : Mt l x iX9_bestOf d 0 0 50 w [vR 32, vI l0] (Rd (vI (argm (fun k => leftF (warB lw fa ru fe fc) k l0) 3)) w) := by
  obtain ⟨⟨fi, by0, a0, nr, le, bs, bl, bp, mn, mo, q32⟩, q39, q40, q41⟩ := hM
  refine Mt.of (L0 := [some (vR 32), some (vI l0), none, none]) rfl rfl rfl ?_
  refine gj_iconst dX9_bestOf_0 ?_
  refine gj_is2 dX9_bestOf_1 rfl rfl ?_
  refine gj_iconst dX9_bestOf_2 ?_
  refine gj_is3 dX9_bestOf_3 rfl rfl ?_
  have loop4 : ∀ (k : Nat), ∀ (a i : Int), (1 ≤ i ∧ i ≤ 4) → (a = argm (fun k => leftF (warB lw fa ru fe fc) k l0) (i - 1).toNat) → (4 - i).toNat < k → Gj l x iX9_bestOf d 0 0 50 (Rd (vI (argm (fun k => leftF (warB lw fa ru fe fc) k l0) 3)) w) 0 0 50 w 4 [some (vR 32), some (vI l0), some (vI a), some (vI i)] [] := by
    intro k
    induction k with
    | zero => intro _ _ _ _ hm; exact absurd hm (Nat.not_lt_zero _)
    | succ k ih4 =>
      intro a i  hi ha hm4
      have hc := argm_in (fun k => leftF (warB lw fa ru fe fc) k l0) (i - 1).toNat
      have hcs := argm_s (fun k => leftF (warB lw fa ru fe fc) k l0) hi.1
      rw [← ha] at hc hcs
      refine gj_il3 dX9_bestOf_4 ?_
      refine gj_iconst dX9_bestOf_5 ?_
      refine gj_icmp_ge dX9_bestOf_6 (by omega) (fun h6 => ?_) (fun h6 => ?_)
      · refine gj_il2 dX9_bestOf_36 ?_
        exact gj_iret dX9_bestOf_37 rfl (rd_i (by rw [ha, show (i - 1).toNat = 3 by omega]))
      · refine gj_al0 dX9_bestOf_9 ?_
        refine gj_il3 dX9_bestOf_10 ?_
        refine gj_il1 dX9_bestOf_11 ?_
        refine gj_cV2r dX9_bestOf_12 mX9_179 hX9_leftIn q32 rfl (by omega) rfl (tX9_leftIn  (by omega) ⟨⟨_, _, _, _, _, _, _, _, _, _, q32⟩, q39, q40, q41⟩ hO (by omega) (by omega)) ?_
        refine gj_al0 dX9_bestOf_15 ?_
        refine gj_il2 dX9_bestOf_16 ?_
        refine gj_il1 dX9_bestOf_17 ?_
        refine gj_cV2r dX9_bestOf_18 mX9_179 hX9_leftIn q32 rfl (by omega) rfl (tX9_leftIn  (by omega) ⟨⟨_, _, _, _, _, _, _, _, _, _, q32⟩, q39, q40, q41⟩ hO (by omega) (by omega)) ?_
        have k1 := leftF_R (warB lw fa ru fe fc) i l0
        have k2 := leftF_R (warB lw fa ru fe fc) a l0
        refine gj_icmp_le dX9_bestOf_21 (by omega) (fun h21 => ?_) (fun h21 => ?_)
        · refine gj_il2 dX9_bestOf_28 ?_
          refine gj_is2 dX9_bestOf_29 rfl rfl ?_
          refine gj_ii3 dX9_bestOf_30 rfl rfl ?_
          refine gj_goto dX9_bestOf_33 ?_
          exact ih4 _ _ (by omega) (by rw [show i + 1 - 1 = i by omega, hcs, if_neg (by omega)]) (by omega)
        · refine gj_il3 dX9_bestOf_24 ?_
          refine gj_goto dX9_bestOf_25 ?_
          refine gj_is2 dX9_bestOf_29 rfl rfl ?_
          refine gj_ii3 dX9_bestOf_30 rfl rfl ?_
          refine gj_goto dX9_bestOf_33 ?_
          exact ih4 _ _ (by omega) (by rw [show i + 1 - 1 = i by omega, hcs, if_pos (by omega)]) (by omega)
  exact loop4 _ _ _ (by omega) rfl (Nat.lt_succ_self _)
set_option maxRecDepth 20000 in
set_option maxHeartbeats 4000000 in
theorem tX9_best {l : Launch} {x : Cx} {d : Nat} {w : AW} {fa ru fe : Int → Int} {fc lw : Int} {l0 : Int} (hd : 5 ≤ d) (hM : MoAt w fa ru fe fc lw) (hO : MoOK fa ru fe fc lw) (hl0 : R32 l0) : Mt l x iX9_best d 0 0 50 w [vR 32, vI l0] (Rd (vI (bestA (warB lw fa ru fe fc) l0)) w) := by
  obtain ⟨⟨fi, by0, a0, nr, le, bs, bl, bp, mn, mo, q32⟩, q39, q40, q41⟩ := hM
  refine Mt.of (L0 := [some (vR 32), some (vI l0)]) rfl rfl rfl ?_
  refine gj_il1 dX9_best_0 ?_
  refine gj_cS1r dX9_best_1 mX9_127 hX9_isLand (by omega) rfl (tX9_isLand  (by omega) (by omega)) ?_
  refine gj_ifB_eq dX9_best_4 (fun h4 => ?_) (fun h4 => ?_)
  · refine gj_bipush dX9_best_15 rfl ?_
    exact gj_iret dX9_best_17 rfl (rd_i (by unfold bestA; first | (rw [if_pos (by omega)]) | (rw [if_neg (by omega)])))
  · refine gj_al0 dX9_best_7 ?_
    refine gj_il1 dX9_best_8 ?_
    refine gj_cV1r dX9_best_9 mX9_182 hX9_bestOf q32 rfl (by omega) rfl (tX9_bestOf  (by omega) ⟨⟨_, _, _, _, _, _, _, _, _, _, q32⟩, q39, q40, q41⟩ hO (by omega)) ?_
    refine gj_goto dX9_best_12 ?_
    exact gj_iret dX9_best_17 rfl (rd_i (by unfold bestA; first | (rw [if_pos (by omega)]) | (rw [if_neg (by omega)])))
