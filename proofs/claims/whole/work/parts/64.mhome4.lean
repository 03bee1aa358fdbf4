/-! contracts: the model's home -/
set_option maxRecDepth 20000 in
set_option maxHeartbeats 4000000 in
theorem tX9_common {l : Launch} {x : Cx} {d : Nat} {w : AW} {a b : Int} (hd : 0 ≤ d) (ha : 0 ≤ a ∧ a ≤ 2147483647) (hb : 0 ≤ b ∧ b ≤ 2147483647) : Mt l x iX9_common d 0 0 50 w [vI a, vI b] (Rd (vI ((Nat.gcd a.toNat b.toNat : Nat) : Int)) w) := by
  refine Mt.of (L0 := [some (vI a), some (vI b), none, none, none]) rfl rfl rfl ?_
  refine gj_il0 dX9_common_0 ?_
  refine gj_is2 dX9_common_1 rfl rfl ?_
  refine gj_il1 dX9_common_2 ?_
  refine gj_is3 dX9_common_3 rfl rfl ?_
  have loop4 : ∀ (k : Nat), ∀ (y z : Int), ((0 ≤ y ∧ y ≤ 2147483647) ∧ (0 ≤ z ∧ z ≤ 2147483647)) → (Nat.gcd y.toNat z.toNat = Nat.gcd a.toNat b.toNat) → z.toNat < k → Gj l x iX9_common d 0 0 50 (Rd (vI ((Nat.gcd a.toNat b.toNat : Nat) : Int)) w) 0 0 50 w 4 [some (vI a), some (vI b), some (vI y), some (vI z), none] [] := by
    intro k
    induction k with
    | zero => intro _ _ _ _ hm; exact absurd hm (Nat.not_lt_zero _)
    | succ k ih4 =>
      intro y z  hi hg hm4
      refine gj_il3 dX9_common_4 ?_
      refine gj_if_eq dX9_common_5 (by omega) (fun h5 => ?_) (fun h5 => ?_)
      · refine gj_il2 dX9_common_21 ?_
        exact gj_iret dX9_common_22 rfl (rd_i (by rw [← hg, h5]; show y = ((Nat.gcd y.toNat 0 : Nat) : Int); rw [Nat.gcd_zero_right]; omega))
      · refine gj_il2 dX9_common_8 ?_
        refine gj_il3 dX9_common_9 ?_
        refine gj_irem dX9_common_10 (by omega) (by omega) ?_
        have m1 := Int.emod_nonneg y (show z ≠ 0 by omega)
        have m2 := Int.emod_lt_of_pos y (show 0 < z by omega)
        refine gj_is4 dX9_common_11 rfl rfl ?_
        refine gj_il3 dX9_common_13 ?_
        refine gj_is2 dX9_common_14 rfl rfl ?_
        refine gj_il4 dX9_common_15 ?_
        refine gj_is3 dX9_common_17 rfl rfl ?_
        refine gj_goto dX9_common_18 ?_
        refine gj_dr4 ?_
        exact ih4 _ _ (by omega) (by rw [← hg, Int.toNat_emod hi.1.1 hi.2.1, Nat.gcd_comm z.toNat, ← Nat.gcd_rec, Nat.gcd_comm]) (by omega)
  exact loop4 _ _ _ (by omega) rfl (Nat.lt_succ_self _)
set_option maxRecDepth 20000 in
set_option maxHeartbeats 4000000 in
theorem tX9_tellsHome {l : Launch} {x : Cx} {d : Nat} {w : AW} {fi by0 a0 nr fc lw le bs bl bp mn mo : Int} {bt : Int → Int} {H : BT} {t i : Int} (hd : 1 ≤ d) (q32 : w 32 = (oM fi by0 a0 nr fc lw le bs bl bp mn mo)) (q48 : w 48 = cI 9 bt) (hM : BM (scB H) bs bl bp bt) (hB : BOK t 16777216 H) (hi : -4 ≤ i ∧ i ≤ 7 ∧ i ≠ -1) : Mt l x iX9_tellsHome d 0 0 50 w [vR 32, vI i] (Rd (vI (homT H i)) w) := by
  obtain ⟨c9, hc9⟩ : ∃ z : Int, z = ((16 * 2 ^ (cmbF H.2.2.1).toNat : Nat) : Int) := ⟨_, rfl⟩
  have p9 := hom_pos H.2.2.1
  have ab9 := hom_ab hB.2.1
  have be9 := hom_be (c := H.2.2.1)
  have g9 := congrArg (fun q : Nat => (q : Int)) (cmb_gcd hB.2.1)
  rw [← hc9] at p9 ab9 be9
  have g8 : ((Nat.gcd (16 * H.2.2.1).toNat 268435456 : Nat) : Int) = c9 := by rw [hc9]; exact g9
  have ch9 := hB.2.1
  have hs9 := hB.2.2
  have z28 : (268435456 : Int).toNat = 268435456 := rfl
  have bs9 : 0 ≤ bs ∧ bs ≤ 7 := by
    rcases hM with z | ⟨z1, z2, -⟩
    · omega
    · have z1 : 1 ≤ H.1 := z1
      have z2 : bs = H.1 := z2
      rcases hB.1 with y | y <;> omega
  refine Mt.of (L0 := [some (vR 32), some (vI i), none, none]) rfl rfl rfl ?_
  refine gj_al0 dX9_tellsHome_0 ?_
  refine gj_get dX9_tellsHome_1 fX9_233 q32 rfl rfl ?_
  refine gj_if_ne dX9_tellsHome_4 (by omega) (fun h4 => ?_) (fun h4 => ?_)
  · obtain ⟨b1, b2, b3, b4, b5⟩ : 1 ≤ H.1 ∧ bs = H.1 ∧ bl = 16 * H.2.2.1 ∧ bp = H.2.1 ∧ ∀ j : Int, 0 ≤ j → j ≤ H.1 → bt j = H.2.2.2 j := hM.resolve_left (fun z => h4 z.2)
    have hgc : ((Nat.gcd bl.toNat (268435456 : Int).toNat : Nat) : Int) = c9 := by rw [b3, z28]; exact g8
    refine gj_al0 dX9_tellsHome_11 ?_
    refine gj_get dX9_tellsHome_12 fX9_236 q32 rfl rfl ?_
    refine gj_is2 dX9_tellsHome_15 rfl rfl ?_
    refine gj_il2 dX9_tellsHome_16 ?_
    refine gj_ldc dX9_tellsHome_17 kX9_245 ?_
    refine gj_cS2r dX9_tellsHome_19 mX9_255 hX9_common (by omega) rfl (tX9_common  (by omega) (by omega) (by omega)) ?_
    rw [hgc]
    refine gj_is3 dX9_tellsHome_22 rfl rfl ?_
    refine gj_il1 dX9_tellsHome_23 ?_
    refine gj_bipush dX9_tellsHome_24 rfl ?_
    refine gj_icmp_ne dX9_tellsHome_26 (by omega) (fun h26 => ?_) (fun h26 => ?_)
    · refine gj_il1 dX9_tellsHome_35 ?_
      refine gj_bipush dX9_tellsHome_36 rfl ?_
      refine gj_icmp_ne dX9_tellsHome_38 (by omega) (fun h38 => ?_) (fun h38 => ?_)
      · refine gj_al0 dX9_tellsHome_48 ?_
        refine gj_get dX9_tellsHome_49 fX9_233 q32 rfl rfl ?_
        refine gj_if_ne dX9_tellsHome_52 (by omega) (fun h52 => ?_) (fun h52 => ?_)
        · refine gj_il1 dX9_tellsHome_59 ?_
          refine gj_bipush dX9_tellsHome_60 rfl ?_
          refine gj_icmp_ne dX9_tellsHome_62 (by omega) (fun h62 => ?_) (fun h62 => ?_)
          · refine gj_il1 dX9_tellsHome_72 ?_
            refine gj_al0 dX9_tellsHome_73 ?_
            refine gj_get dX9_tellsHome_74 fX9_233 q32 rfl rfl ?_
            refine gj_icmp_gt dX9_tellsHome_77 (by omega) (fun h77 => ?_) (fun h77 => ?_)
            · refine gj_iconst dX9_tellsHome_89 ?_
              exact gj_iret dX9_tellsHome_90 rfl (rd_i (by unfold homT; rw [if_neg (by omega), if_neg (by omega), if_neg (by omega), if_neg (by omega)]))
            · refine gj_al0 dX9_tellsHome_80 ?_
              refine gj_get dX9_tellsHome_81 fX9_55 q32 rfl rfl ?_
              refine gj_il1 dX9_tellsHome_84 ?_
              refine gj_iald dX9_tellsHome_85 q48 rfl rfl (by omega) ?_
              refine gj_goto dX9_tellsHome_86 ?_
              exact gj_iret dX9_tellsHome_90 rfl (rd_i (by unfold homT; rw [if_neg (by omega), if_neg (by omega), if_neg (by omega), if_pos (by omega)]; exact b5 i (by omega) (by omega)))
          · refine gj_al0 dX9_tellsHome_65 ?_
            refine gj_get dX9_tellsHome_66 fX9_239 q32 rfl rfl ?_
            refine gj_goto dX9_tellsHome_69 ?_
            exact gj_iret dX9_tellsHome_90 rfl (rd_i (by unfold homT; rw [if_neg (by omega), if_neg (by omega), if_pos (by omega)]; exact b4))
        · omega
      · refine gj_ldc dX9_tellsHome_41 kX9_245 ?_
        refine gj_il3 dX9_tellsHome_43 ?_
        refine gj_idiv dX9_tellsHome_44 (by omega) (by omega) ?_
        refine gj_goto dX9_tellsHome_45 ?_
        exact gj_iret dX9_tellsHome_90 rfl (rd_i (by unfold homT; rw [if_neg (by omega), if_pos (by omega)]; exact be9))
    · refine gj_il2 dX9_tellsHome_29 ?_
      refine gj_il3 dX9_tellsHome_30 ?_
      refine gj_idiv dX9_tellsHome_31 (by omega) (by omega) ?_
      refine gj_goto dX9_tellsHome_32 ?_
      exact gj_iret dX9_tellsHome_90 rfl (rd_i (by unfold homT; rw [if_pos (by omega), b3]; exact ab9))
  · have b0 : scB H = B0 := by
      rcases hM with z | z
      · exact z.1
      · have z1 : 1 ≤ H.1 := z.1
        have z2 : bs = H.1 := z.2.1
        omega
    have b1 : H.1 = -1 := congrArg Prod.fst b0
    have b2 : H.2.1 = -1 := congrArg (fun q : BT => q.2.1) b0
    have b3 : 16 * H.2.2.1 = 0 := congrArg (fun q : BT => q.2.2.1) b0
    have hgc : ((Nat.gcd (0 : Int).toNat (268435456 : Int).toNat : Nat) : Int) = c9 := by rw [z28, ← b3]; exact g8
    refine gj_iconst dX9_tellsHome_7 ?_
    refine gj_goto dX9_tellsHome_8 ?_
    refine gj_is2 dX9_tellsHome_15 rfl rfl ?_
    refine gj_il2 dX9_tellsHome_16 ?_
    refine gj_ldc dX9_tellsHome_17 kX9_245 ?_
    refine gj_cS2r dX9_tellsHome_19 mX9_255 hX9_common (by omega) rfl (tX9_common  (by omega) (by omega) (by omega)) ?_
    rw [hgc]
    refine gj_is3 dX9_tellsHome_22 rfl rfl ?_
    refine gj_il1 dX9_tellsHome_23 ?_
    refine gj_bipush dX9_tellsHome_24 rfl ?_
    refine gj_icmp_ne dX9_tellsHome_26 (by omega) (fun h26 => ?_) (fun h26 => ?_)
    · refine gj_il1 dX9_tellsHome_35 ?_
      refine gj_bipush dX9_tellsHome_36 rfl ?_
      refine gj_icmp_ne dX9_tellsHome_38 (by omega) (fun h38 => ?_) (fun h38 => ?_)
      · refine gj_al0 dX9_tellsHome_48 ?_
        refine gj_get dX9_tellsHome_49 fX9_233 q32 rfl rfl ?_
        refine gj_if_ne dX9_tellsHome_52 (by omega) (fun h52 => ?_) (fun h52 => ?_)
        · omega
        · refine gj_iconst dX9_tellsHome_55 ?_
          refine gj_goto dX9_tellsHome_56 ?_
          exact gj_iret dX9_tellsHome_90 rfl (rd_i (by unfold homT; rw [if_neg (by omega), if_neg (by omega)]; by_cases z : i = -2; (rw [if_pos z]; omega); (rw [if_neg z, if_neg (by omega)])))
      · refine gj_ldc dX9_tellsHome_41 kX9_245 ?_
        refine gj_il3 dX9_tellsHome_43 ?_
        refine gj_idiv dX9_tellsHome_44 (by omega) (by omega) ?_
        refine gj_goto dX9_tellsHome_45 ?_
        exact gj_iret dX9_tellsHome_90 rfl (rd_i (by unfold homT; rw [if_neg (by omega), if_pos (by omega)]; exact be9))
    · refine gj_il2 dX9_tellsHome_29 ?_
      refine gj_il3 dX9_tellsHome_30 ?_
      refine gj_idiv dX9_tellsHome_31 (by omega) (by omega) ?_
      refine gj_goto dX9_tellsHome_32 ?_
      exact gj_iret dX9_tellsHome_90 rfl (rd_i (by unfold homT; rw [if_pos (by omega), ← b3]; exact ab9))
set_option maxRecDepth 20000 in
set_option maxHeartbeats 4000000 in
theorem tX9_home {l : Launch} {x : Cx} {d : Nat} {w : AW} {tx : Int → Int} {by0 : Int} {ru fa fe : Int → Int} {fc lw br me : Int} {mh ml mw : Int → Int} {mn fi : Int} {fm ln : Int → Int} {it : Int → Int → Int} {a b h i : Int} (hd : 4 ≤ d) (hC : ModelC w tx by0 ru fa fe fc lw br me mh ml mw mn fi fm ln it) (hK : ParOK tx by0 ru fa fe fc lw br me mh ml mw mn fi fm ln it) (ha : R32 a) (hb : R32 b) (hh : R32 h) (hi : R32 i) : Mt l x iX9_home d 0 0 50 w [vR 32, vI a, vI b, vI h, vI i] (Wr (vI (homA (warB lw fa ru fe fc) fa tx by0 a b h i)) (fun w2 => ModelC w2 tx by0 ru fa fe fc lw br me mh ml mw mn fi fm ln it ∧ ∀ k : Nat, k < 32 → w2 k = w k)) := by
  have hC0 := hC
  obtain ⟨a0, nr, le, bs, bl, bp, mo, sf, sz, im, mv, rd, se, fr, tr, sp, so, lu, bt, sg, q32, q33, q34, q35, q36, q37, q38, q39, q40, q41, q42, hse0, hse1, q43, q44, q45, q46, q47, q48, q49, hsg, hsh⟩ := hC
  obtain ⟨hT, hO, hbm, hMm, hSh⟩ := hK
  have t9 := hT.1
  have n9 := numF_R (tx := tx) hT.1
  have f9 := hO.2.2.1.1
  have m9 := hMm.1
  refine Mt.of (L0 := [some (vR 32), some (vI a), some (vI b), some (vI h), some (vI i)]) rfl rfl rfl ?_
  refine gj_al0 dX9_home_0 ?_
  refine gj_cV0w dX9_home_1 mX9_119 hX9_reads q32 rfl (by omega) rfl (tX9_reads  (by omega) q32 q37 q38 hT) (fun w1 P1 => ?_)
  obtain ⟨a1, r1, e32_1, e38_1, rt1, fr1⟩ := P1
  refine gj_popI dX9_home_4 ?_
  refine gj_il1 dX9_home_5 ?_
  refine gj_il2 dX9_home_6 ?_
  refine gj_cS2r dX9_home_7 mX9_198 hX9_areTwo (by omega) rfl (tX9_areTwo  (by omega) (by omega) (by omega)) ?_
  refine gj_ifB_eq dX9_home_10 (fun h10 => ?_) (fun h10 => ?_)
  · refine gj_bipush dX9_home_41 rfl ?_
    exact gj_iret dX9_home_43 rfl (wr_i (by unfold homA; rw [if_neg (by omega)]) ⟨⟨_, _, _, _, _, _, _, _, _, _, _, _, _, _, _, _, _, _, _, _, e32_1, ((fr1 33 (by decide)).trans q33), ((fr1 34 (by decide)).trans q34), ((fr1 35 (by decide)).trans q35), ((fr1 36 (by decide)).trans q36), ((fr1 37 (by decide)).trans q37), e38_1, ((fr1 39 (by decide)).trans q39), ((fr1 40 (by decide)).trans q40), ((fr1 41 (by decide)).trans q41), ((fr1 42 (by decide)).trans q42), hse0, hse1, ((fr1 43 (by decide)).trans q43), ((fr1 44 (by decide)).trans q44), ((fr1 45 (by decide)).trans q45), ((fr1 46 (by decide)).trans q46), ((fr1 47 (by decide)).trans q47), ((fr1 48 (by decide)).trans q48), ((fr1 49 (by decide)).trans q49), hsg, hsh⟩, (fun k hk => (fr1 k (by omega)).trans ((fun (k : Nat) (_ : k < 32) => rfl) k hk))⟩)
  · refine gj_il3 dX9_home_13 ?_
    refine gj_cS1r dX9_home_14 mX9_166 hX9_isHour (by omega) rfl (tX9_isHour  (by omega) (by omega)) ?_
    refine gj_ifB_eq dX9_home_17 (fun h17 => ?_) (fun h17 => ?_)
    · refine gj_bipush dX9_home_41 rfl ?_
      exact gj_iret dX9_home_43 rfl (wr_i (by unfold homA; rw [if_neg (by omega)]) ⟨⟨_, _, _, _, _, _, _, _, _, _, _, _, _, _, _, _, _, _, _, _, e32_1, ((fr1 33 (by decide)).trans q33), ((fr1 34 (by decide)).trans q34), ((fr1 35 (by decide)).trans q35), ((fr1 36 (by decide)).trans q36), ((fr1 37 (by decide)).trans q37), e38_1, ((fr1 39 (by decide)).trans q39), ((fr1 40 (by decide)).trans q40), ((fr1 41 (by decide)).trans q41), ((fr1 42 (by decide)).trans q42), hse0, hse1, ((fr1 43 (by decide)).trans q43), ((fr1 44 (by decide)).trans q44), ((fr1 45 (by decide)).trans q45), ((fr1 46 (by decide)).trans q46), ((fr1 47 (by decide)).trans q47), ((fr1 48 (by decide)).trans q48), ((fr1 49 (by decide)).trans q49), hsg, hsh⟩, (fun k hk => (fr1 k (by omega)).trans ((fun (k : Nat) (_ : k < 32) => rfl) k hk))⟩)
    · refine gj_il4 dX9_home_20 ?_
      refine gj_i2l dX9_home_22 (by omega) ?_
      refine gj_ldc2 dX9_home_23 kX9_258 ?_
      refine gj_ldc2 dX9_home_26 kX9_123 ?_
      refine gj_cS3r dX9_home_29 mX9_65 hX9_in (by omega) rfl (tX9_in  (by omega) (by omega) (by omega) (by omega)) ?_
      refine gj_ifB_eq dX9_home_32 (fun h32 => ?_) (fun h32 => ?_)
      · refine gj_bipush dX9_home_41 rfl ?_
        exact gj_iret dX9_home_43 rfl (wr_i (by unfold homA; rw [if_neg (by omega)]) ⟨⟨_, _, _, _, _, _, _, _, _, _, _, _, _, _, _, _, _, _, _, _, e32_1, ((fr1 33 (by decide)).trans q33), ((fr1 34 (by decide)).trans q34), ((fr1 35 (by decide)).trans q35), ((fr1 36 (by decide)).trans q36), ((fr1 37 (by decide)).trans q37), e38_1, ((fr1 39 (by decide)).trans q39), ((fr1 40 (by decide)).trans q40), ((fr1 41 (by decide)).trans q41), ((fr1 42 (by decide)).trans q42), hse0, hse1, ((fr1 43 (by decide)).trans q43), ((fr1 44 (by decide)).trans q44), ((fr1 45 (by decide)).trans q45), ((fr1 46 (by decide)).trans q46), ((fr1 47 (by decide)).trans q47), ((fr1 48 (by decide)).trans q48), ((fr1 49 (by decide)).trans q49), hsg, hsh⟩, (fun k hk => (fr1 k (by omega)).trans ((fun (k : Nat) (_ : k < 32) => rfl) k hk))⟩)
      · refine gj_il4 dX9_home_35 ?_
        refine gj_iconst dX9_home_37 ?_
        refine gj_icmp_ne dX9_home_38 (by omega) (fun h38 => ?_) (fun h38 => ?_)
        · refine gj_al0 dX9_home_44 ?_
          refine gj_il1 dX9_home_45 ?_
          refine gj_il2 dX9_home_46 ?_
          refine gj_il3 dX9_home_47 ?_
          refine gj_cV3v dX9_home_48 mX9_260 hX9_findHome e32_1 rfl (by omega) rfl (tX9_findHome  (by omega) e32_1 e38_1 ((fr1 39 (by decide)).trans q39) ((fr1 40 (by decide)).trans q40) ((fr1 41 (by decide)).trans q41) ((fr1 44 (by decide)).trans q44) ((fr1 45 (by decide)).trans q45) ((fr1 46 (by decide)).trans q46) ((fr1 47 (by decide)).trans q47) ((fr1 48 (by decide)).trans q48) hT rt1 hO (by omega) (by omega) (by omega) (by omega)) (fun w48 P48 => ?_)
          obtain ⟨bs48, bl48, bp48, tr48, sp48, so48, lu48, bt48, e32_48, e44_48, e45_48, e46_48, e47_48, e48_48, fr48, bm48⟩ := P48
          rw [homF_sc (rdt_ed hT rt1) (by omega) (by omega)] at bm48
          have hcan : homF (warB lw fa ru fe fc) fa (mOn r1) (mOt r1) (mHo r1) (numF tx by0) a b h 16777216 = homF (warB lw fa ru fe fc) fa (cOn tx) (cOt tx) (cHo tx) (numF tx by0) a b h 16777216 := wlk_eq n9.1 (rdt_agr rt1) 8 0 _ 0 _ _
          rw [hcan] at bm48
          have hbo := homF_ok (W := (warB lw fa ru fe fc)) (h := h) (top := 16777216) hO.1 (can_ok hT).ed (show In7 a by omega) (show In7 b by omega) (by omega)
          refine gj_al0 dX9_home_51 ?_
          refine gj_il4 dX9_home_52 ?_
          refine gj_cV1r dX9_home_54 mX9_264 hX9_tellsHome e32_48 rfl (by omega) rfl (tX9_tellsHome  (by omega) e32_48 e48_48 bm48 hbo (by omega)) ?_
          exact gj_iret dX9_home_57 rfl (wr_i (by unfold homA; rw [if_pos (show (In7 a ∧ In7 b ∧ a ≠ b) ∧ (0 ≤ h ∧ h ≤ 671) ∧ (-4 ≤ i ∧ i ≤ 7 ∧ i ≠ -1) by omega)]) ⟨⟨_, _, _, _, _, _, _, _, _, _, _, _, _, _, _, _, _, _, _, _, e32_48, ((fr48 33 (by decide)).trans ((fr1 33 (by decide)).trans q33)), ((fr48 34 (by decide)).trans ((fr1 34 (by decide)).trans q34)), ((fr48 35 (by decide)).trans ((fr1 35 (by decide)).trans q35)), ((fr48 36 (by decide)).trans ((fr1 36 (by decide)).trans q36)), ((fr48 37 (by decide)).trans ((fr1 37 (by decide)).trans q37)), ((fr48 38 (by decide)).trans e38_1), ((fr48 39 (by decide)).trans ((fr1 39 (by decide)).trans q39)), ((fr48 40 (by decide)).trans ((fr1 40 (by decide)).trans q40)), ((fr48 41 (by decide)).trans ((fr1 41 (by decide)).trans q41)), ((fr48 42 (by decide)).trans ((fr1 42 (by decide)).trans q42)), hse0, hse1, ((fr48 43 (by decide)).trans ((fr1 43 (by decide)).trans q43)), e44_48, e45_48, e46_48, e47_48, e48_48, ((fr48 49 (by decide)).trans ((fr1 49 (by decide)).trans q49)), hsg, hsh⟩, (fun k hk => (fr48 k (by omega)).trans ((fun k hk => (fr1 k (by omega)).trans ((fun (k : Nat) (_ : k < 32) => rfl) k hk)) k hk))⟩)
        · refine gj_bipush dX9_home_41 rfl ?_
          exact gj_iret dX9_home_43 rfl (wr_i (by unfold homA; rw [if_neg (by omega)]) ⟨⟨_, _, _, _, _, _, _, _, _, _, _, _, _, _, _, _, _, _, _, _, e32_1, ((fr1 33 (by decide)).trans q33), ((fr1 34 (by decide)).trans q34), ((fr1 35 (by decide)).trans q35), ((fr1 36 (by decide)).trans q36), ((fr1 37 (by decide)).trans q37), e38_1, ((fr1 39 (by decide)).trans q39), ((fr1 40 (by decide)).trans q40), ((fr1 41 (by decide)).trans q41), ((fr1 42 (by decide)).trans q42), hse0, hse1, ((fr1 43 (by decide)).trans q43), ((fr1 44 (by decide)).trans q44), ((fr1 45 (by decide)).trans q45), ((fr1 46 (by decide)).trans q46), ((fr1 47 (by decide)).trans q47), ((fr1 48 (by decide)).trans q48), ((fr1 49 (by decide)).trans q49), hsg, hsh⟩, (fun k hk => (fr1 k (by omega)).trans ((fun (k : Nat) (_ : k < 32) => rfl) k hk))⟩)
