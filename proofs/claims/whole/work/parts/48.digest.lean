/-! contracts: the digest of the class -/
set_option maxRecDepth 20000 in
set_option maxHeartbeats 4000000 in
theorem tX8_digestOfRoads {l : Launch} {x : Cx} {d : Nat} {w : AW} {tx : Int → Int} {by0 : Int} {ru fa fe : Int → Int} {fc lw br me : Int} {mh ml mw : Int → Int} {mn fi : Int} {fm ln : Int → Int} {it : Int → Int → Int} {h : Int} (hd : 2 ≤ d) (hC : ClassC w tx by0 ru fa fe fc lw br me mh ml mw mn fi fm ln it) : Mt l x iX8_digestOfRoads d 0 0 50 w [vR 0, vL h] (Rd (vL (dRd tx by0 h)) w) := by
  have hC0 := hC
  obtain ⟨q0, ⟨on, ot, ho, wy, nu, fl, ⟨q1, q2, q3, q4, q5, q6⟩, hRd⟩, ⟨fd, ⟨q9, q10, q11⟩, ⟨q7, q8⟩, hO⟩, ⟨la, be, ne, q12, q13, q14⟩, ⟨sl, q15⟩, hbm, ⟨go, st, bn, B, ra, rb, q16, q17, q18⟩, ⟨⟨q19, q20, q21, q22⟩, hMm⟩, hSh⟩ := hC
  have hW : WarC w fa (warB lw fa ru fe fc) := ⟨fe, ru, fc, fd, lw, ⟨q9, q10, q11⟩, ⟨q7, q8⟩, hO, rfl⟩
  have hE := hRd.ed
  have hM := hRd.mat
  have n9 := hE.1
  have n8 := hRd.2.2.1
  refine Mt.of (L0 := [some (vR 0), some (vL h), none, none, none, none, none]) rfl rfl rfl ?_
  refine gj_ll1 dX8_digestOfRoads_0 ?_
  refine gj_ls3 dX8_digestOfRoads_1 rfl rfl ?_
  refine gj_iconst dX8_digestOfRoads_2 ?_
  refine gj_is5 dX8_digestOfRoads_3 rfl rfl ?_
  have loop5 : ∀ (k : Nat), ∀ (a r : Int), (0 ≤ r ∧ r ≤ nu) → (a = foZ (fun r h => foZ (fun k h => 31 * h + rdA tx by0 r k) 3 h) r h) → (nu - r).toNat < k → Gj l x iX8_digestOfRoads d 0 0 50 (Rd (vL (dRd tx by0 h)) w) 0 0 50 w 5 [some (vR 0), some (vL h), none, some (vL a), none, some (vI r), none] [] := by
    intro k
    induction k with
    | zero => intro _ _ _ _ hm; exact absurd hm (Nat.not_lt_zero _)
    | succ k ih5 =>
      intro a r  hi ha hm5
      refine gj_il5 dX8_digestOfRoads_5 ?_
      refine gj_al0 dX8_digestOfRoads_7 ?_
      refine gj_get dX8_digestOfRoads_8 fX8_12 q0 rfl rfl ?_
      refine gj_get dX8_digestOfRoads_11 fX8_93 q1 rfl rfl ?_
      refine gj_icmp_ge dX8_digestOfRoads_14 (by omega) (fun h14 => ?_) (fun h14 => ?_)
      · refine gj_ll3 dX8_digestOfRoads_54 ?_
        exact gj_lret dX8_digestOfRoads_55 rfl (rd_l (by unfold dRd; rw [ha, show r = numF tx by0 by omega]))
      · refine gj_iconst dX8_digestOfRoads_17 ?_
        refine gj_is6 dX8_digestOfRoads_18 rfl rfl ?_
        have loop20 : ∀ (k : Nat), ∀ (b q : Int), (0 ≤ q ∧ q ≤ 3) → (b = foZ (fun k h => 31 * h + rdA tx by0 r k) q a) → (3 - q).toNat < k → Gj l x iX8_digestOfRoads d 0 0 50 (Rd (vL (dRd tx by0 h)) w) 0 0 50 w 20 [some (vR 0), some (vL h), none, some (vL b), none, some (vI r), some (vI q)] [] := by
          intro k
          induction k with
          | zero => intro _ _ _ _ hm; exact absurd hm (Nat.not_lt_zero _)
          | succ k ih20 =>
            intro b q  hk hb hm20
            refine gj_il6 dX8_digestOfRoads_20 ?_
            refine gj_iconst dX8_digestOfRoads_22 ?_
            refine gj_icmp_gt dX8_digestOfRoads_23 (by omega) (fun h23 => ?_) (fun h23 => ?_)
            · refine gj_ii5 dX8_digestOfRoads_48 rfl rfl ?_
              refine gj_goto dX8_digestOfRoads_51 ?_
              refine gj_dr6 ?_
              exact ih5 _ _ (by omega) (by rw [foZ_s _ _ hi.1, ← ha, hb, show q = 3 by omega]) (by omega)
            · refine gj_ldc2 dX8_digestOfRoads_26 kX8_281 ?_
              refine gj_ll3 dX8_digestOfRoads_29 ?_
              refine gj_lmul dX8_digestOfRoads_30 ?_
              refine gj_al0 dX8_digestOfRoads_31 ?_
              refine gj_il5 dX8_digestOfRoads_32 ?_
              refine gj_il6 dX8_digestOfRoads_34 ?_
              refine gj_cV2r dX8_digestOfRoads_36 mX8_305 hX8_road q0 rfl (by omega) rfl (tX8_road  (by omega) hC0 (by omega) (by omega)) ?_
              refine gj_i2l dX8_digestOfRoads_39 (by exact rdA_R hRd.1 _ _) ?_
              refine gj_ladd dX8_digestOfRoads_40 ?_
              refine gj_ls3 dX8_digestOfRoads_41 rfl rfl ?_
              refine gj_ii6 dX8_digestOfRoads_42 rfl rfl ?_
              refine gj_goto dX8_digestOfRoads_45 ?_
              exact ih20 _ _ (by omega) (by rw [foZ_s _ _ hk.1, ← hb]) (by omega)
        exact loop20 _ _ _ (by omega) rfl (Nat.lt_succ_self _)
  exact loop5 _ _ _ (by omega) rfl (Nat.lt_succ_self _)
set_option maxRecDepth 20000 in
set_option maxHeartbeats 4000000 in
theorem tX8_digestOfLands {l : Launch} {x : Cx} {d : Nat} {w : AW} {tx : Int → Int} {by0 : Int} {ru fa fe : Int → Int} {fc lw br me : Int} {mh ml mw : Int → Int} {mn fi : Int} {fm ln : Int → Int} {it : Int → Int → Int} {h : Int} (hd : 6 ≤ d) (hC : ClassC w tx by0 ru fa fe fc lw br me mh ml mw mn fi fm ln it) : Mt l x iX8_digestOfLands d 0 0 50 w [vR 0, vL h] (Wr (vL (dLd (warB lw fa ru fe fc) br me h)) (fun w2 => ClassC w2 tx by0 ru fa fe fc lw br me mh ml mw mn fi fm ln it ∧ ∀ k : Nat, 32 ≤ k → w2 k = w k)) := by
  have hbm := hC.2.2.2.2.2.1
  obtain ⟨_, _, _, _, _, _, _, hRd⟩ := hC.2.1
  obtain ⟨_, _, _, hO⟩ := hC.2.2.1
  refine Mt.of (L0 := [some (vR 0), some (vL h), none, none, none, none]) rfl rfl rfl ?_
  refine gj_ll1 dX8_digestOfLands_0 ?_
  refine gj_ls3 dX8_digestOfLands_1 rfl rfl ?_
  refine gj_iconst dX8_digestOfLands_2 ?_
  refine gj_is5 dX8_digestOfLands_3 rfl rfl ?_
  have loop5 : ∀ (k : Nat), ∀ (w1 : AW), ∀ (a i : Int), (ClassC w1 tx by0 ru fa fe fc lw br me mh ml mw mn fi fm ln it) → (∀ k : Nat, 32 ≤ k → w1 k = w k) → (0 ≤ i ∧ i ≤ 8) → (a = foZ (fun l0 h => dL1 (warB lw fa ru fe fc) br me l0 h) i h) → (8 - i).toNat < k → Gj l x iX8_digestOfLands d 0 0 50 (Wr (vL (dLd (warB lw fa ru fe fc) br me h)) (fun w2 => ClassC w2 tx by0 ru fa fe fc lw br me mh ml mw mn fi fm ln it ∧ ∀ k : Nat, 32 ≤ k → w2 k = w k)) 0 0 50 w1 5 [some (vR 0), some (vL h), none, some (vL a), none, some (vI i)] [] := by
    intro k
    induction k with
    | zero => intro _ _ _ _ _ _ _ hm; exact absurd hm (Nat.not_lt_zero _)
    | succ k ih5 =>
      intro w1 a i hC1 fr1 hi ha hm5
      refine gj_il5 dX8_digestOfLands_5 ?_
      refine gj_bipush dX8_digestOfLands_7 rfl ?_
      refine gj_icmp_ge dX8_digestOfLands_9 (by omega) (fun h9 => ?_) (fun h9 => ?_)
      · refine gj_ll3 dX8_digestOfLands_168 ?_
        exact gj_lret dX8_digestOfLands_169 rfl (wr_l (by unfold dLd; rw [ha, show i = 8 by omega]) ⟨hC1, fr1⟩)
      · refine gj_ldc2 dX8_digestOfLands_12 kX8_281 ?_
        refine gj_ll3 dX8_digestOfLands_15 ?_
        refine gj_lmul dX8_digestOfLands_16 ?_
        refine gj_al0 dX8_digestOfLands_17 ?_
        refine gj_iconst dX8_digestOfLands_18 ?_
        refine gj_il5 dX8_digestOfLands_19 ?_
        refine gj_cV2r dX8_digestOfLands_21 mX8_308 hX8_left hC1.1 rfl (by omega) rfl (tX8_left  (by omega) hC1 (by omega) (by omega)) ?_
        refine gj_i2l dX8_digestOfLands_24 (by exact leftA_R _ _ _) ?_
        refine gj_ladd dX8_digestOfLands_25 ?_
        refine gj_ls3 dX8_digestOfLands_26 rfl rfl ?_
        refine gj_ldc2 dX8_digestOfLands_27 kX8_281 ?_
        refine gj_ll3 dX8_digestOfLands_30 ?_
        refine gj_lmul dX8_digestOfLands_31 ?_
        refine gj_al0 dX8_digestOfLands_32 ?_
        refine gj_iconst dX8_digestOfLands_33 ?_
        refine gj_il5 dX8_digestOfLands_34 ?_
        refine gj_cV2r dX8_digestOfLands_36 mX8_308 hX8_left hC1.1 rfl (by omega) rfl (tX8_left  (by omega) hC1 (by omega) (by omega)) ?_
        refine gj_i2l dX8_digestOfLands_39 (by exact leftA_R _ _ _) ?_
        refine gj_ladd dX8_digestOfLands_40 ?_
        refine gj_ls3 dX8_digestOfLands_41 rfl rfl ?_
        refine gj_ldc2 dX8_digestOfLands_42 kX8_281 ?_
        refine gj_ll3 dX8_digestOfLands_45 ?_
        refine gj_lmul dX8_digestOfLands_46 ?_
        refine gj_al0 dX8_digestOfLands_47 ?_
        refine gj_il5 dX8_digestOfLands_48 ?_
        refine gj_cV1r dX8_digestOfLands_50 mX8_311 hX8_best hC1.1 rfl (by omega) rfl (tX8_best  (by omega) hC1 (by omega)) ?_
        refine gj_i2l dX8_digestOfLands_53 (by exact bestA_R _ _) ?_
        refine gj_ladd dX8_digestOfLands_54 ?_
        refine gj_ls3 dX8_digestOfLands_55 rfl rfl ?_
        refine gj_ldc2 dX8_digestOfLands_56 kX8_281 ?_
        refine gj_ll3 dX8_digestOfLands_59 ?_
        refine gj_lmul dX8_digestOfLands_60 ?_
        refine gj_al0 dX8_digestOfLands_61 ?_
        refine gj_bipush dX8_digestOfLands_62 rfl ?_
        refine gj_il5 dX8_digestOfLands_64 ?_
        refine gj_iconst dX8_digestOfLands_66 ?_
        refine gj_cV3r dX8_digestOfLands_67 mX8_314 hX8_next hC1.1 rfl (by omega) rfl (tX8_next  (by omega) hC1 (by omega) (by omega) (by omega)) ?_
        refine gj_i2l dX8_digestOfLands_70 (by exact nextA_R _ _ _ _) ?_
        refine gj_ladd dX8_digestOfLands_71 ?_
        refine gj_ls3 dX8_digestOfLands_72 rfl rfl ?_
        refine gj_ldc2 dX8_digestOfLands_73 kX8_281 ?_
        refine gj_ll3 dX8_digestOfLands_76 ?_
        refine gj_lmul dX8_digestOfLands_77 ?_
        refine gj_al0 dX8_digestOfLands_78 ?_
        refine gj_bipush dX8_digestOfLands_79 rfl ?_
        refine gj_il5 dX8_digestOfLands_81 ?_
        refine gj_iconst dX8_digestOfLands_83 ?_
        refine gj_cV3r dX8_digestOfLands_84 mX8_314 hX8_next hC1.1 rfl (by omega) rfl (tX8_next  (by omega) hC1 (by omega) (by omega) (by omega)) ?_
        refine gj_i2l dX8_digestOfLands_87 (by exact nextA_R _ _ _ _) ?_
        refine gj_ladd dX8_digestOfLands_88 ?_
        refine gj_ls3 dX8_digestOfLands_89 rfl rfl ?_
        refine gj_ldc2 dX8_digestOfLands_90 kX8_281 ?_
        refine gj_ll3 dX8_digestOfLands_93 ?_
        refine gj_lmul dX8_digestOfLands_94 ?_
        refine gj_al0 dX8_digestOfLands_95 ?_
        refine gj_il5 dX8_digestOfLands_96 ?_
        refine gj_bipush dX8_digestOfLands_98 rfl ?_
        refine gj_bipush dX8_digestOfLands_100 rfl ?_
        refine gj_iconst dX8_digestOfLands_102 ?_
        refine gj_cV4w dX8_digestOfLands_103 mX8_317 hX8_siege hC1.1 rfl (by omega) rfl (tX8_siege  (by omega) hC1 (by omega) (by omega) (by omega) (by omega)) (fun w103 P103 => ?_)
        obtain ⟨cc103, fr103⟩ := P103
        refine gj_i2l dX8_digestOfLands_106 (by exact sieA_R hbm.1 hbm.2 _ _ _ _) ?_
        refine gj_ladd dX8_digestOfLands_107 ?_
        refine gj_ls3 dX8_digestOfLands_108 rfl rfl ?_
        refine gj_ldc2 dX8_digestOfLands_109 kX8_281 ?_
        refine gj_ll3 dX8_digestOfLands_112 ?_
        refine gj_lmul dX8_digestOfLands_113 ?_
        refine gj_al0 dX8_digestOfLands_114 ?_
        refine gj_il5 dX8_digestOfLands_115 ?_
        refine gj_bipush dX8_digestOfLands_117 rfl ?_
        refine gj_bipush dX8_digestOfLands_119 rfl ?_
        refine gj_iconst dX8_digestOfLands_121 ?_
        refine gj_cV4w dX8_digestOfLands_122 mX8_317 hX8_siege cc103.1 rfl (by omega) rfl (tX8_siege  (by omega) cc103 (by omega) (by omega) (by omega) (by omega)) (fun w122 P122 => ?_)
        obtain ⟨cc122, fr122⟩ := P122
        refine gj_i2l dX8_digestOfLands_125 (by exact sieA_R hbm.1 hbm.2 _ _ _ _) ?_
        refine gj_ladd dX8_digestOfLands_126 ?_
        refine gj_ls3 dX8_digestOfLands_127 rfl rfl ?_
        refine gj_ldc2 dX8_digestOfLands_128 kX8_281 ?_
        refine gj_ll3 dX8_digestOfLands_131 ?_
        refine gj_lmul dX8_digestOfLands_132 ?_
        refine gj_al0 dX8_digestOfLands_133 ?_
        refine gj_il5 dX8_digestOfLands_134 ?_
        refine gj_bipush dX8_digestOfLands_136 rfl ?_
        refine gj_bipush dX8_digestOfLands_138 rfl ?_
        refine gj_cV3w dX8_digestOfLands_140 mX8_320 hX8_holds cc122.1 rfl (by omega) rfl (tX8_holds  (by omega) cc122 (by omega) (by omega) (by omega)) (fun w140 P140 => ?_)
        obtain ⟨cc140, fr140⟩ := P140
        refine gj_i2l dX8_digestOfLands_143 (by exact hldA_R _ _ _ _ _) ?_
        refine gj_ladd dX8_digestOfLands_144 ?_
        refine gj_ls3 dX8_digestOfLands_145 rfl rfl ?_
        refine gj_ldc2 dX8_digestOfLands_146 kX8_281 ?_
        refine gj_ll3 dX8_digestOfLands_149 ?_
        refine gj_lmul dX8_digestOfLands_150 ?_
        refine gj_al0 dX8_digestOfLands_151 ?_
        refine gj_bipush dX8_digestOfLands_152 rfl ?_
        refine gj_il5 dX8_digestOfLands_154 ?_
        refine gj_cV2r dX8_digestOfLands_156 mX8_323 hX8_season cc140.1 rfl (by omega) rfl (tX8_season  (by omega) cc140 (by omega) (by omega)) ?_
        refine gj_i2l dX8_digestOfLands_159 (by exact seasA_R _ _ _) ?_
        refine gj_ladd dX8_digestOfLands_160 ?_
        refine gj_ls3 dX8_digestOfLands_161 rfl rfl ?_
        refine gj_ii5 dX8_digestOfLands_162 rfl rfl ?_
        refine gj_goto dX8_digestOfLands_165 ?_
        exact ih5 _ _ _ cc140 (fun k hk => (fr140 k hk).trans ((fun k hk => (fr122 k hk).trans ((fun k hk => (fr103 k hk).trans (fr1 k hk)) k hk)) k hk)) (by omega) (by rw [foZ_s _ _ hi.1, ← ha]; rfl) (by omega)
  exact loop5 _ _ _ _ hC (fun (k : Nat) (_ : 32 ≤ k) => rfl) (by omega) rfl (Nat.lt_succ_self _)
set_option maxRecDepth 20000 in
set_option maxHeartbeats 4000000 in
theorem tX8_digestOfJourneys {l : Launch} {x : Cx} {d : Nat} {w : AW} {tx : Int → Int} {by0 : Int} {ru fa fe : Int → Int} {fc lw br me : Int} {mh ml mw : Int → Int} {mn fi : Int} {fm ln : Int → Int} {it : Int → Int → Int} {h : Int} (hd : 16 ≤ d) (hC : ClassC w tx by0 ru fa fe fc lw br me mh ml mw mn fi fm ln it) : Mt l x iX8_digestOfJourneys d 0 0 50 w [vR 0, vL h] (Wr (vL (dJy (warB lw fa ru fe fc) fa tx by0 h)) (fun w2 => ClassC w2 tx by0 ru fa fe fc lw br me mh ml mw mn fi fm ln it ∧ ∀ k : Nat, 32 ≤ k → w2 k = w k)) := by
  have hbm := hC.2.2.2.2.2.1
  obtain ⟨_, _, _, _, _, _, _, hRd⟩ := hC.2.1
  obtain ⟨_, _, _, hO⟩ := hC.2.2.1
  refine Mt.of (L0 := [some (vR 0), some (vL h), none, none, none, none, none]) rfl rfl rfl ?_
  refine gj_ll1 dX8_digestOfJourneys_0 ?_
  refine gj_ls3 dX8_digestOfJourneys_1 rfl rfl ?_
  refine gj_iconst dX8_digestOfJourneys_2 ?_
  refine gj_is5 dX8_digestOfJourneys_3 rfl rfl ?_
  have loop5 : ∀ (k : Nat), ∀ (w1 : AW), ∀ (a i : Int), (ClassC w1 tx by0 ru fa fe fc lw br me mh ml mw mn fi fm ln it) → (∀ k : Nat, 32 ≤ k → w1 k = w k) → (1 ≤ i ∧ i ≤ 8) → (a = foZ (fun q h => dJ1 (warB lw fa ru fe fc) fa tx by0 (q + 1) h) (i - 1) h) → (8 - i).toNat < k → Gj l x iX8_digestOfJourneys d 0 0 50 (Wr (vL (dJy (warB lw fa ru fe fc) fa tx by0 h)) (fun w2 => ClassC w2 tx by0 ru fa fe fc lw br me mh ml mw mn fi fm ln it ∧ ∀ k : Nat, 32 ≤ k → w2 k = w k)) 0 0 50 w1 5 [some (vR 0), some (vL h), none, some (vL a), none, some (vI i), none] [] := by
    intro k
    induction k with
    | zero => intro _ _ _ _ _ _ _ hm; exact absurd hm (Nat.not_lt_zero _)
    | succ k ih5 =>
      intro w1 a i hC1 fr1 hi ha hm5
      refine gj_il5 dX8_digestOfJourneys_5 ?_
      refine gj_bipush dX8_digestOfJourneys_7 rfl ?_
      refine gj_icmp_ge dX8_digestOfJourneys_9 (by omega) (fun h9 => ?_) (fun h9 => ?_)
      · refine gj_ll3 dX8_digestOfJourneys_121 ?_
        exact gj_lret dX8_digestOfJourneys_122 rfl (wr_l (by unfold dJy; rw [ha, show i - 1 = 7 by omega]) ⟨hC1, fr1⟩)
      · refine gj_ldc2 dX8_digestOfJourneys_12 kX8_281 ?_
        refine gj_ll3 dX8_digestOfJourneys_15 ?_
        refine gj_lmul dX8_digestOfJourneys_16 ?_
        refine gj_al0 dX8_digestOfJourneys_17 ?_
        refine gj_iconst dX8_digestOfJourneys_18 ?_
        refine gj_il5 dX8_digestOfJourneys_19 ?_
        refine gj_iconst dX8_digestOfJourneys_21 ?_
        refine gj_cV3r dX8_digestOfJourneys_22 mX8_326 hX8_way hC1.1 rfl (by omega) rfl (tX8_way  (by omega) hC1 (by omega) (by omega) (by omega)) ?_
        refine gj_i2l dX8_digestOfJourneys_25 (by exact wayA_R hRd.1 _ _ _) ?_
        refine gj_ladd dX8_digestOfJourneys_26 ?_
        refine gj_ls3 dX8_digestOfJourneys_27 rfl rfl ?_
        refine gj_ldc2 dX8_digestOfJourneys_28 kX8_281 ?_
        refine gj_ll3 dX8_digestOfJourneys_31 ?_
        refine gj_lmul dX8_digestOfJourneys_32 ?_
        refine gj_al0 dX8_digestOfJourneys_33 ?_
        refine gj_iconst dX8_digestOfJourneys_34 ?_
        refine gj_il5 dX8_digestOfJourneys_35 ?_
        refine gj_iconst dX8_digestOfJourneys_37 ?_
        refine gj_cV3r dX8_digestOfJourneys_38 mX8_326 hX8_way hC1.1 rfl (by omega) rfl (tX8_way  (by omega) hC1 (by omega) (by omega) (by omega)) ?_
        refine gj_i2l dX8_digestOfJourneys_41 (by exact wayA_R hRd.1 _ _ _) ?_
        refine gj_ladd dX8_digestOfJourneys_42 ?_
        refine gj_ls3 dX8_digestOfJourneys_43 rfl rfl ?_
        refine gj_ldc2 dX8_digestOfJourneys_44 kX8_281 ?_
        refine gj_ll3 dX8_digestOfJourneys_47 ?_
        refine gj_lmul dX8_digestOfJourneys_48 ?_
        refine gj_al0 dX8_digestOfJourneys_49 ?_
        refine gj_iconst dX8_digestOfJourneys_50 ?_
        refine gj_il5 dX8_digestOfJourneys_51 ?_
        refine gj_iconst dX8_digestOfJourneys_53 ?_
        refine gj_iconst dX8_digestOfJourneys_54 ?_
        refine gj_cV4w dX8_digestOfJourneys_55 mX8_329 hX8_raid hC1.1 rfl (by omega) rfl (tX8_raid  (by omega) hC1 (by omega) (by omega) (by omega) (by omega)) (fun w55 P55 => ?_)
        obtain ⟨cc55, fr55⟩ := P55
        refine gj_i2l dX8_digestOfJourneys_58 (by exact raidA_R _ _ _ _ _ _ _) ?_
        refine gj_ladd dX8_digestOfJourneys_59 ?_
        refine gj_ls3 dX8_digestOfJourneys_60 rfl rfl ?_
        refine gj_bipush dX8_digestOfJourneys_61 rfl ?_
        refine gj_is6 dX8_digestOfJourneys_63 rfl rfl ?_
        have loop65 : ∀ (k : Nat), ∀ (w2 : AW), ∀ (b z : Int), (ClassC w2 tx by0 ru fa fe fc lw br me mh ml mw mn fi fm ln it) → (∀ k : Nat, 32 ≤ k → w2 k = w k) → (-4 ≤ z ∧ z ≤ -1) → (b = foZ (fun q h => 31 * h + homA (warB lw fa ru fe fc) fa tx by0 i 0 30 (q - 4)) (z + 4) (31 * (31 * (31 * a + wayA tx by0 0 i 0) + wayA tx by0 0 i 1) + raidA (warB lw fa ru fe fc) tx by0 0 i 2 0)) → (-1 - z).toNat < k → Gj l x iX8_digestOfJourneys d 0 0 50 (Wr (vL (dJy (warB lw fa ru fe fc) fa tx by0 h)) (fun w2 => ClassC w2 tx by0 ru fa fe fc lw br me mh ml mw mn fi fm ln it ∧ ∀ k : Nat, 32 ≤ k → w2 k = w k)) 0 0 50 w2 65 [some (vR 0), some (vL h), none, some (vL b), none, some (vI i), some (vI z)] [] := by
          intro k
          induction k with
          | zero => intro _ _ _ _ _ _ _ hm; exact absurd hm (Nat.not_lt_zero _)
          | succ k ih65 =>
            intro w2 b z hC2 fr2 hk hb hm65
            refine gj_il6 dX8_digestOfJourneys_65 ?_
            refine gj_bipush dX8_digestOfJourneys_67 rfl ?_
            refine gj_icmp_gt dX8_digestOfJourneys_69 (by omega) (fun h69 => ?_) (fun h69 => ?_)
            · refine gj_ldc2 dX8_digestOfJourneys_97 kX8_281 ?_
              refine gj_ll3 dX8_digestOfJourneys_100 ?_
              refine gj_lmul dX8_digestOfJourneys_101 ?_
              refine gj_al0 dX8_digestOfJourneys_102 ?_
              refine gj_il5 dX8_digestOfJourneys_103 ?_
              refine gj_iconst dX8_digestOfJourneys_105 ?_
              refine gj_bipush dX8_digestOfJourneys_106 rfl ?_
              refine gj_iconst dX8_digestOfJourneys_108 ?_
              refine gj_cV4w dX8_digestOfJourneys_109 mX8_332 hX8_home hC2.1 rfl (by omega) rfl (tX8_home  (by omega) hC2 (by omega) (by omega) (by omega) (by omega)) (fun w109 P109 => ?_)
              obtain ⟨cc109, fr109⟩ := P109
              refine gj_i2l dX8_digestOfJourneys_112 (by exact homA_R hO.1 hRd.1 _ _ _ _) ?_
              refine gj_ladd dX8_digestOfJourneys_113 ?_
              refine gj_ls3 dX8_digestOfJourneys_114 rfl rfl ?_
              refine gj_ii5 dX8_digestOfJourneys_115 rfl rfl ?_
              refine gj_goto dX8_digestOfJourneys_118 ?_
              refine gj_dr6 ?_
              exact ih5 _ _ _ cc109 (fun k hk => (fr109 k hk).trans (fr2 k hk)) (by omega) (by rw [show i + 1 - 1 = (i - 1) + 1 by omega, foZ_s _ _ (by omega), ← ha, hb, show z + 4 = 3 by omega]; unfold dJ1; rw [show i - 1 + 1 = i by omega]) (by omega)
            · refine gj_ldc2 dX8_digestOfJourneys_72 kX8_281 ?_
              refine gj_ll3 dX8_digestOfJourneys_75 ?_
              refine gj_lmul dX8_digestOfJourneys_76 ?_
              refine gj_al0 dX8_digestOfJourneys_77 ?_
              refine gj_il5 dX8_digestOfJourneys_78 ?_
              refine gj_iconst dX8_digestOfJourneys_80 ?_
              refine gj_bipush dX8_digestOfJourneys_81 rfl ?_
              refine gj_il6 dX8_digestOfJourneys_83 ?_
              refine gj_cV4w dX8_digestOfJourneys_85 mX8_332 hX8_home hC2.1 rfl (by omega) rfl (tX8_home  (by omega) hC2 (by omega) (by omega) (by omega) (by omega)) (fun w85 P85 => ?_)
              obtain ⟨cc85, fr85⟩ := P85
              refine gj_i2l dX8_digestOfJourneys_88 (by exact homA_R hO.1 hRd.1 _ _ _ _) ?_
              refine gj_ladd dX8_digestOfJourneys_89 ?_
              refine gj_ls3 dX8_digestOfJourneys_90 rfl rfl ?_
              refine gj_ii6 dX8_digestOfJourneys_91 rfl rfl ?_
              refine gj_goto dX8_digestOfJourneys_94 ?_
              exact ih65 _ _ _ cc85 (fun k hk => (fr85 k hk).trans (fr2 k hk)) (by omega) (by rw [show z + 1 + 4 = (z + 4) + 1 by omega, foZ_s _ _ (by omega), ← hb, show z + 4 - 4 = z by omega]) (by omega)
        exact loop65 _ _ _ _ cc55 (fun k hk => (fr55 k hk).trans (fr1 k hk)) (by omega) rfl (Nat.lt_succ_self _)
  exact loop5 _ _ _ _ hC (fun (k : Nat) (_ : 32 ≤ k) => rfl) (by omega) rfl (Nat.lt_succ_self _)
set_option maxRecDepth 20000 in
set_option maxHeartbeats 4000000 in
theorem tX8_digestOfKinds {l : Launch} {x : Cx} {d : Nat} {w : AW} {tx : Int → Int} {by0 : Int} {ru fa fe : Int → Int} {fc lw br me : Int} {mh ml mw : Int → Int} {mn fi : Int} {fm ln : Int → Int} {it : Int → Int → Int} {h : Int} (hd : 4 ≤ d) (hC : ClassC w tx by0 ru fa fe fc lw br me mh ml mw mn fi fm ln it) : Mt l x iX8_digestOfKinds d 0 0 50 w [vR 0, vL h] (Rd (vL (dKd (warB lw fa ru fe fc) h)) w) := by
  refine Mt.of (L0 := [some (vR 0), some (vL h), none, none, none, none, none]) rfl rfl rfl ?_
  refine gj_ll1 dX8_digestOfKinds_0 ?_
  refine gj_ls3 dX8_digestOfKinds_1 rfl rfl ?_
  refine gj_iconst dX8_digestOfKinds_2 ?_
  refine gj_is5 dX8_digestOfKinds_3 rfl rfl ?_
  have loop5 : ∀ (k : Nat), ∀ (a r : Int), (0 ≤ r ∧ r ≤ 4) → (a = foZ (fun r h => foZ (fun b h => 31 * h + strA (warB lw fa ru fe fc) 30 0 r b) 4 h) r h) → (4 - r).toNat < k → Gj l x iX8_digestOfKinds d 0 0 50 (Rd (vL (dKd (warB lw fa ru fe fc) h)) w) 0 0 50 w 5 [some (vR 0), some (vL h), none, some (vL a), none, some (vI r), none] [] := by
    intro k
    induction k with
    | zero => intro _ _ _ _ hm; exact absurd hm (Nat.not_lt_zero _)
    | succ k ih5 =>
      intro a r  hi ha hm5
      refine gj_il5 dX8_digestOfKinds_5 ?_
      refine gj_iconst dX8_digestOfKinds_7 ?_
      refine gj_icmp_ge dX8_digestOfKinds_8 (by omega) (fun h8 => ?_) (fun h8 => ?_)
      · refine gj_ll3 dX8_digestOfKinds_51 ?_
        exact gj_lret dX8_digestOfKinds_52 rfl (rd_l (by unfold dKd; rw [ha, show r = 4 by omega]))
      · refine gj_iconst dX8_digestOfKinds_11 ?_
        refine gj_is6 dX8_digestOfKinds_12 rfl rfl ?_
        have loop14 : ∀ (k : Nat), ∀ (b q : Int), (0 ≤ q ∧ q ≤ 4) → (b = foZ (fun b h => 31 * h + strA (warB lw fa ru fe fc) 30 0 r b) q a) → (4 - q).toNat < k → Gj l x iX8_digestOfKinds d 0 0 50 (Rd (vL (dKd (warB lw fa ru fe fc) h)) w) 0 0 50 w 14 [some (vR 0), some (vL h), none, some (vL b), none, some (vI r), some (vI q)] [] := by
          intro k
          induction k with
          | zero => intro _ _ _ _ hm; exact absurd hm (Nat.not_lt_zero _)
          | succ k ih14 =>
            intro b q  hk hb hm14
            refine gj_il6 dX8_digestOfKinds_14 ?_
            refine gj_iconst dX8_digestOfKinds_16 ?_
            refine gj_icmp_ge dX8_digestOfKinds_17 (by omega) (fun h17 => ?_) (fun h17 => ?_)
            · refine gj_ii5 dX8_digestOfKinds_45 rfl rfl ?_
              refine gj_goto dX8_digestOfKinds_48 ?_
              refine gj_dr6 ?_
              exact ih5 _ _ (by omega) (by rw [foZ_s _ _ hi.1, ← ha, hb, show q = 4 by omega]) (by omega)
            · refine gj_ldc2 dX8_digestOfKinds_20 kX8_281 ?_
              refine gj_ll3 dX8_digestOfKinds_23 ?_
              refine gj_lmul dX8_digestOfKinds_24 ?_
              refine gj_al0 dX8_digestOfKinds_25 ?_
              refine gj_bipush dX8_digestOfKinds_26 rfl ?_
              refine gj_iconst dX8_digestOfKinds_28 ?_
              refine gj_il5 dX8_digestOfKinds_29 ?_
              refine gj_il6 dX8_digestOfKinds_31 ?_
              refine gj_cV4r dX8_digestOfKinds_33 mX8_335 hX8_strikes hC.1 rfl (by omega) rfl (tX8_strikes  (by omega) hC (by omega) (by omega) (by omega) (by omega)) ?_
              refine gj_i2l dX8_digestOfKinds_36 (by exact strA_R _ _ _ _ _) ?_
              refine gj_ladd dX8_digestOfKinds_37 ?_
              refine gj_ls3 dX8_digestOfKinds_38 rfl rfl ?_
              refine gj_ii6 dX8_digestOfKinds_39 rfl rfl ?_
              refine gj_goto dX8_digestOfKinds_42 ?_
              exact ih14 _ _ (by omega) (by rw [foZ_s _ _ hk.1, ← hb]) (by omega)
        exact loop14 _ _ _ (by omega) rfl (Nat.lt_succ_self _)
  exact loop5 _ _ _ (by omega) rfl (Nat.lt_succ_self _)
set_option maxRecDepth 20000 in
set_option maxHeartbeats 4000000 in
theorem tX8_digestOfParishes {l : Launch} {x : Cx} {d : Nat} {w : AW} {tx : Int → Int} {by0 : Int} {ru fa fe : Int → Int} {fc lw br me : Int} {mh ml mw : Int → Int} {mn fi : Int} {fm ln : Int → Int} {it : Int → Int → Int} {h : Int} (hd : 5 ≤ d) (hC : ClassC w tx by0 ru fa fe fc lw br me mh ml mw mn fi fm ln it) : Mt l x iX8_digestOfParishes d 0 0 50 w [vR 0, vL h] (Rd (vL (dPa (warB lw fa ru fe fc) ru mh ml mw mn h)) w) := by
  have hbm := hC.2.2.2.2.2.1
  obtain ⟨_, _, _, _, _, _, _, hRd⟩ := hC.2.1
  obtain ⟨_, _, _, hO⟩ := hC.2.2.1
  refine Mt.of (L0 := [some (vR 0), some (vL h), none, none, none, none]) rfl rfl rfl ?_
  refine gj_ll1 dX8_digestOfParishes_0 ?_
  refine gj_ls3 dX8_digestOfParishes_1 rfl rfl ?_
  refine gj_iconst dX8_digestOfParishes_2 ?_
  refine gj_is5 dX8_digestOfParishes_3 rfl rfl ?_
  have loop5 : ∀ (k : Nat), ∀ (a i : Int), (1 ≤ i ∧ i ≤ 4) → (a = foZ (fun q h => 31 * h + unlA ru 0 (q + 1)) (i - 1) h) → (4 - i).toNat < k → Gj l x iX8_digestOfParishes d 0 0 50 (Rd (vL (dPa (warB lw fa ru fe fc) ru mh ml mw mn h)) w) 0 0 50 w 5 [some (vR 0), some (vL h), none, some (vL a), none, some (vI i)] [] := by
    intro k
    induction k with
    | zero => intro _ _ _ _ hm; exact absurd hm (Nat.not_lt_zero _)
    | succ k ih5 =>
      intro a i  hi ha hm5
      refine gj_il5 dX8_digestOfParishes_5 ?_
      refine gj_iconst dX8_digestOfParishes_7 ?_
      refine gj_icmp_ge dX8_digestOfParishes_8 (by omega) (fun h8 => ?_) (fun h8 => ?_)
      · refine gj_iconst dX8_digestOfParishes_32 ?_
        refine gj_is5 dX8_digestOfParishes_33 rfl rfl ?_
        have loop35 : ∀ (k : Nat), ∀ (a i : Int), (0 ≤ i ∧ i ≤ 3) → (a = foZ (fun k h => 31 * h + agrA ru k) i (foZ (fun q h => 31 * h + unlA ru 0 (q + 1)) 3 h)) → (3 - i).toNat < k → Gj l x iX8_digestOfParishes d 0 0 50 (Rd (vL (dPa (warB lw fa ru fe fc) ru mh ml mw mn h)) w) 0 0 50 w 35 [some (vR 0), some (vL h), none, some (vL a), none, some (vI i)] [] := by
          intro k
          induction k with
          | zero => intro _ _ _ _ hm; exact absurd hm (Nat.not_lt_zero _)
          | succ k ih35 =>
            intro a i  hi ha hm35
            refine gj_il5 dX8_digestOfParishes_35 ?_
            refine gj_iconst dX8_digestOfParishes_37 ?_
            refine gj_icmp_gt dX8_digestOfParishes_38 (by omega) (fun h38 => ?_) (fun h38 => ?_)
            · refine gj_iconst dX8_digestOfParishes_61 ?_
              refine gj_is5 dX8_digestOfParishes_62 rfl rfl ?_
              have loop64 : ∀ (k : Nat), ∀ (a i : Int), (0 ≤ i ∧ i ≤ 3) → (a = foZ (fun k h => 31 * h + midA ru k) i (foZ (fun k h => 31 * h + agrA ru k) 3 (foZ (fun q h => 31 * h + unlA ru 0 (q + 1)) 3 h))) → (3 - i).toNat < k → Gj l x iX8_digestOfParishes d 0 0 50 (Rd (vL (dPa (warB lw fa ru fe fc) ru mh ml mw mn h)) w) 0 0 50 w 64 [some (vR 0), some (vL h), none, some (vL a), none, some (vI i)] [] := by
                intro k
                induction k with
                | zero => intro _ _ _ _ hm; exact absurd hm (Nat.not_lt_zero _)
                | succ k ih64 =>
                  intro a i  hi ha hm64
                  refine gj_il5 dX8_digestOfParishes_64 ?_
                  refine gj_iconst dX8_digestOfParishes_66 ?_
                  refine gj_icmp_gt dX8_digestOfParishes_67 (by omega) (fun h67 => ?_) (fun h67 => ?_)
                  · refine gj_ldc2 dX8_digestOfParishes_90 kX8_281 ?_
                    refine gj_ll3 dX8_digestOfParishes_93 ?_
                    refine gj_lmul dX8_digestOfParishes_94 ?_
                    refine gj_al0 dX8_digestOfParishes_95 ?_
                    refine gj_cV0r dX8_digestOfParishes_96 mX8_347 hX8_which hC.1 rfl (by omega) rfl (tX8_which  (by omega) hC) ?_
                    refine gj_i2l dX8_digestOfParishes_99 (by exact wch_R _ _) ?_
                    refine gj_ladd dX8_digestOfParishes_100 ?_
                    exact gj_lret dX8_digestOfParishes_101 rfl (rd_l (by unfold dPa; rw [ha, show i = 3 by omega]))
                  · refine gj_ldc2 dX8_digestOfParishes_70 kX8_281 ?_
                    refine gj_ll3 dX8_digestOfParishes_73 ?_
                    refine gj_lmul dX8_digestOfParishes_74 ?_
                    refine gj_al0 dX8_digestOfParishes_75 ?_
                    refine gj_il5 dX8_digestOfParishes_76 ?_
                    refine gj_cV1r dX8_digestOfParishes_78 mX8_344 hX8_middle hC.1 rfl (by omega) rfl (tX8_middle  (by omega) hC (by omega)) ?_
                    refine gj_i2l dX8_digestOfParishes_81 (by exact midA_R hO.2.1 _) ?_
                    refine gj_ladd dX8_digestOfParishes_82 ?_
                    refine gj_ls3 dX8_digestOfParishes_83 rfl rfl ?_
                    refine gj_ii5 dX8_digestOfParishes_84 rfl rfl ?_
                    refine gj_goto dX8_digestOfParishes_87 ?_
                    exact ih64 _ _ (by omega) (by rw [foZ_s _ _ hi.1, ← ha]) (by omega)
              exact loop64 _ _ _ (by omega) (by rw [ha, show i = 3 by omega]; rfl) (Nat.lt_succ_self _)
            · refine gj_ldc2 dX8_digestOfParishes_41 kX8_281 ?_
              refine gj_ll3 dX8_digestOfParishes_44 ?_
              refine gj_lmul dX8_digestOfParishes_45 ?_
              refine gj_al0 dX8_digestOfParishes_46 ?_
              refine gj_il5 dX8_digestOfParishes_47 ?_
              refine gj_cV1r dX8_digestOfParishes_49 mX8_341 hX8_agree hC.1 rfl (by omega) rfl (tX8_agree  (by omega) hC (by omega)) ?_
              refine gj_i2l dX8_digestOfParishes_52 (by exact agrA_R hO.2.1 _) ?_
              refine gj_ladd dX8_digestOfParishes_53 ?_
              refine gj_ls3 dX8_digestOfParishes_54 rfl rfl ?_
              refine gj_ii5 dX8_digestOfParishes_55 rfl rfl ?_
              refine gj_goto dX8_digestOfParishes_58 ?_
              exact ih35 _ _ (by omega) (by rw [foZ_s _ _ hi.1, ← ha]) (by omega)
        exact loop35 _ _ _ (by omega) (by rw [ha, show i - 1 = 3 by omega]; rfl) (Nat.lt_succ_self _)
      · refine gj_ldc2 dX8_digestOfParishes_11 kX8_281 ?_
        refine gj_ll3 dX8_digestOfParishes_14 ?_
        refine gj_lmul dX8_digestOfParishes_15 ?_
        refine gj_al0 dX8_digestOfParishes_16 ?_
        refine gj_iconst dX8_digestOfParishes_17 ?_
        refine gj_il5 dX8_digestOfParishes_18 ?_
        refine gj_cV2r dX8_digestOfParishes_20 mX8_338 hX8_unlike hC.1 rfl (by omega) rfl (tX8_unlike  (by omega) hC (by omega) (by omega)) ?_
        refine gj_i2l dX8_digestOfParishes_23 (by exact unlA_R hO.2.1 _ _) ?_
        refine gj_ladd dX8_digestOfParishes_24 ?_
        refine gj_ls3 dX8_digestOfParishes_25 rfl rfl ?_
        refine gj_ii5 dX8_digestOfParishes_26 rfl rfl ?_
        refine gj_goto dX8_digestOfParishes_29 ?_
        exact ih5 _ _ (by omega) (by rw [show i + 1 - 1 = (i - 1) + 1 by omega, foZ_s _ _ (by omega), ← ha, show i - 1 + 1 = i by omega]) (by omega)
  exact loop5 _ _ _ (by omega) rfl (Nat.lt_succ_self _)
set_option maxRecDepth 20000 in
set_option maxHeartbeats 4000000 in
theorem tX8_digest {l : Launch} {x : Cx} {d : Nat} {w : AW} {tx : Int → Int} {by0 : Int} {ru fa fe : Int → Int} {fc lw br me : Int} {mh ml mw : Int → Int} {mn fi : Int} {fm ln : Int → Int} {it : Int → Int → Int} (hd : 17 ≤ d) (hC : ClassC w tx by0 ru fa fe fc lw br me mh ml mw mn fi fm ln it) : Mt l x iX8_digest d 0 0 50 w [vR 0] (Wr (vL (digF tx by0 ru fa fe fc lw br me mh ml mw mn fi)) (fun w2 => ClassC w2 tx by0 ru fa fe fc lw br me mh ml mw mn fi fm ln it ∧ ∀ k : Nat, 32 ≤ k → w2 k = w k)) := by
  have hbm := hC.2.2.2.2.2.1
  obtain ⟨_, _, _, _, _, _, _, hRd⟩ := hC.2.1
  obtain ⟨_, _, _, hO⟩ := hC.2.2.1
  obtain ⟨-, hMm⟩ := hC.2.2.2.2.2.2.2.1
  have f9 := hO.2.2.1.1
  have m9 := hMm.1
  refine Mt.of (L0 := [some (vR 0), none, none, none]) rfl rfl rfl ?_
  refine gj_ldc2 dX8_digest_0 kX8_279 ?_
  refine gj_ls1 dX8_digest_3 rfl rfl ?_
  refine gj_iconst dX8_digest_4 ?_
  refine gj_is3 dX8_digest_5 rfl rfl ?_
  have loop6 : ∀ (k : Nat), ∀ (a i : Int), (0 ≤ i ∧ i ≤ 8) → (a = foZ (fun k h => 31 * h + cntA tx by0 fa fc mn br me fi k) i 17) → (8 - i).toNat < k → Gj l x iX8_digest d 0 0 50 (Wr (vL (digF tx by0 ru fa fe fc lw br me mh ml mw mn fi)) (fun w2 => ClassC w2 tx by0 ru fa fe fc lw br me mh ml mw mn fi fm ln it ∧ ∀ k : Nat, 32 ≤ k → w2 k = w k)) 0 0 50 w 6 [some (vR 0), some (vL a), none, some (vI i)] [] := by
    intro k
    induction k with
    | zero => intro _ _ _ _ hm; exact absurd hm (Nat.not_lt_zero _)
    | succ k ih6 =>
      intro a i  hi ha hm6
      refine gj_il3 dX8_digest_6 ?_
      refine gj_bipush dX8_digest_7 rfl ?_
      refine gj_icmp_gt dX8_digest_9 (by omega) (fun h9 => ?_) (fun h9 => ?_)
      · refine gj_ldc2 dX8_digest_31 kX8_281 ?_
        refine gj_ll1 dX8_digest_34 ?_
        refine gj_lmul dX8_digest_35 ?_
        refine gj_al0 dX8_digest_36 ?_
        refine gj_cV0r dX8_digest_37 mX8_286 hX8_fault hC.1 rfl (by omega) rfl (tX8_fault  (by omega) hC) ?_
        refine gj_i2l dX8_digest_40 (by have := fltF_R (tx := tx) hRd.1.1.1; have := hRd.1.1; omega) ?_
        refine gj_ladd dX8_digest_41 ?_
        refine gj_ls1 dX8_digest_42 rfl rfl ?_
        refine gj_al0 dX8_digest_43 ?_
        refine gj_ll1 dX8_digest_44 ?_
        refine gj_cV1r dX8_digest_45 mX8_289 hX8_digestOfRoads hC.1 rfl (by omega) rfl (tX8_digestOfRoads  (by omega) hC) ?_
        refine gj_ls1 dX8_digest_48 rfl rfl ?_
        refine gj_al0 dX8_digest_49 ?_
        refine gj_ll1 dX8_digest_50 ?_
        refine gj_cV1w dX8_digest_51 mX8_293 hX8_digestOfLands hC.1 rfl (by omega) rfl (tX8_digestOfLands  (by omega) hC) (fun w51 P51 => ?_)
        obtain ⟨cc51, fr51⟩ := P51
        refine gj_ls1 dX8_digest_54 rfl rfl ?_
        refine gj_al0 dX8_digest_55 ?_
        refine gj_ll1 dX8_digest_56 ?_
        refine gj_cV1w dX8_digest_57 mX8_296 hX8_digestOfJourneys cc51.1 rfl (by omega) rfl (tX8_digestOfJourneys  (by omega) cc51) (fun w57 P57 => ?_)
        obtain ⟨cc57, fr57⟩ := P57
        refine gj_ls1 dX8_digest_60 rfl rfl ?_
        refine gj_al0 dX8_digest_61 ?_
        refine gj_ll1 dX8_digest_62 ?_
        refine gj_cV1r dX8_digest_63 mX8_299 hX8_digestOfKinds cc57.1 rfl (by omega) rfl (tX8_digestOfKinds  (by omega) cc57) ?_
        refine gj_ls1 dX8_digest_66 rfl rfl ?_
        refine gj_al0 dX8_digest_67 ?_
        refine gj_ll1 dX8_digest_68 ?_
        refine gj_cV1r dX8_digest_69 mX8_302 hX8_digestOfParishes cc57.1 rfl (by omega) rfl (tX8_digestOfParishes  (by omega) cc57) ?_
        exact gj_lret dX8_digest_72 rfl (wr_l (by unfold digF; rw [ha, show i = 8 by omega]) ⟨cc57, (fun k hk => (fr57 k hk).trans ((fun k hk => (fr51 k hk).trans ((fun (k : Nat) (_ : 32 ≤ k) => rfl) k hk)) k hk))⟩)
      · refine gj_ldc2 dX8_digest_12 kX8_281 ?_
        refine gj_ll1 dX8_digest_15 ?_
        refine gj_lmul dX8_digest_16 ?_
        refine gj_al0 dX8_digest_17 ?_
        refine gj_il3 dX8_digest_18 ?_
        refine gj_cV1r dX8_digest_19 mX8_283 hX8_count hC.1 rfl (by omega) rfl (tX8_count  (by omega) hC (by omega)) ?_
        refine gj_i2l dX8_digest_22 (by exact cntA_R hRd.1 hO.1 (by omega) (by omega) (by omega) (by omega) _ (by omega)) ?_
        refine gj_ladd dX8_digest_23 ?_
        refine gj_ls1 dX8_digest_24 rfl rfl ?_
        refine gj_ii3 dX8_digest_25 rfl rfl ?_
        refine gj_goto dX8_digest_28 ?_
        exact ih6 _ _ (by omega) (by rw [foZ_s _ _ hi.1, ← ha]) (by omega)
  exact loop6 _ _ _ (by omega) rfl (Nat.lt_succ_self _)
