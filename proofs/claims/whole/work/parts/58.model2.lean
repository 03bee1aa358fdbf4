/-! contracts: the model's public methods, the rest without sheets, home, digest -/
set_option maxRecDepth 20000 in
set_option maxHeartbeats 4000000 in
theorem tX9_way {l : Launch} {x : Cx} {d : Nat} {w : AW} {tx : Int → Int} {by0 : Int} {ru fa fe : Int → Int} {fc lw br me : Int} {mh ml mw : Int → Int} {mn fi : Int} {fm ln : Int → Int} {it : Int → Int → Int} {a b k0 : Int} (hd : 4 ≤ d) (hC : ModelC w tx by0 ru fa fe fc lw br me mh ml mw mn fi fm ln it) (hK : ParOK tx by0 ru fa fe fc lw br me mh ml mw mn fi fm ln it) (ha : R32 a) (hb : R32 b) (hk0 : R32 k0) : Mt l x iX9_way d 0 0 50 w [vR 32, vI a, vI b, vI k0] (Wr (vI (wayA tx by0 a b k0)) (fun w2 => ModelC w2 tx by0 ru fa fe fc lw br me mh ml mw mn fi fm ln it ∧ ∀ k : Nat, k < 32 → w2 k = w k)) := by
  have hC0 := hC
  obtain ⟨a0, nr, le, bs, bl, bp, mo, sf, sz, im, mv, rd, se, fr, tr, sp, so, lu, bt, sg, q32, q33, q34, q35, q36, q37, q38, q39, q40, q41, q42, hse0, hse1, q43, q44, q45, q46, q47, q48, q49, hsg, hsh⟩ := hC
  obtain ⟨hT, hO, hbm, hMm, hSh⟩ := hK
  have t9 := hT.1
  have n9 := numF_R (tx := tx) hT.1
  have f9 := hO.2.2.1.1
  have m9 := hMm.1
  refine Mt.of (L0 := [some (vR 32), some (vI a), some (vI b), some (vI k0)]) rfl rfl rfl ?_
  refine gj_al0 dX9_way_0 ?_
  refine gj_cV0w dX9_way_1 mX9_119 hX9_reads q32 rfl (by omega) rfl (tX9_reads  (by omega) q32 q37 q38 hT) (fun w1 P1 => ?_)
  obtain ⟨a1, r1, e32_1, e38_1, rt1, fr1⟩ := P1
  refine gj_popI dX9_way_4 ?_
  refine gj_il1 dX9_way_5 ?_
  refine gj_il2 dX9_way_6 ?_
  refine gj_cS2r dX9_way_7 mX9_198 hX9_areTwo (by omega) rfl (tX9_areTwo  (by omega) (by omega) (by omega)) ?_
  refine gj_ifB_eq dX9_way_10 (fun h10 => ?_) (fun h10 => ?_)
  · refine gj_bipush dX9_way_30 rfl ?_
    exact gj_iret dX9_way_32 rfl (wr_i (by unfold wayA; rw [if_neg (by omega)]) ⟨⟨_, _, _, _, _, _, _, _, _, _, _, _, _, _, _, _, _, _, _, _, e32_1, ((fr1 33 (by decide)).trans q33), ((fr1 34 (by decide)).trans q34), ((fr1 35 (by decide)).trans q35), ((fr1 36 (by decide)).trans q36), ((fr1 37 (by decide)).trans q37), e38_1, ((fr1 39 (by decide)).trans q39), ((fr1 40 (by decide)).trans q40), ((fr1 41 (by decide)).trans q41), ((fr1 42 (by decide)).trans q42), hse0, hse1, ((fr1 43 (by decide)).trans q43), ((fr1 44 (by decide)).trans q44), ((fr1 45 (by decide)).trans q45), ((fr1 46 (by decide)).trans q46), ((fr1 47 (by decide)).trans q47), ((fr1 48 (by decide)).trans q48), ((fr1 49 (by decide)).trans q49), hsg, hsh⟩, (fun k hk => (fr1 k (by omega)).trans ((fun (k : Nat) (_ : k < 32) => rfl) k hk))⟩)
  · refine gj_il3 dX9_way_13 ?_
    refine gj_cS1r dX9_way_14 mX9_135 hX9_isTwo (by omega) rfl (tX9_isTwo  (by omega) (by omega)) ?_
    refine gj_ifB_eq dX9_way_17 (fun h17 => ?_) (fun h17 => ?_)
    · refine gj_bipush dX9_way_30 rfl ?_
      exact gj_iret dX9_way_32 rfl (wr_i (by unfold wayA; rw [if_neg (by omega)]) ⟨⟨_, _, _, _, _, _, _, _, _, _, _, _, _, _, _, _, _, _, _, _, e32_1, ((fr1 33 (by decide)).trans q33), ((fr1 34 (by decide)).trans q34), ((fr1 35 (by decide)).trans q35), ((fr1 36 (by decide)).trans q36), ((fr1 37 (by decide)).trans q37), e38_1, ((fr1 39 (by decide)).trans q39), ((fr1 40 (by decide)).trans q40), ((fr1 41 (by decide)).trans q41), ((fr1 42 (by decide)).trans q42), hse0, hse1, ((fr1 43 (by decide)).trans q43), ((fr1 44 (by decide)).trans q44), ((fr1 45 (by decide)).trans q45), ((fr1 46 (by decide)).trans q46), ((fr1 47 (by decide)).trans q47), ((fr1 48 (by decide)).trans q48), ((fr1 49 (by decide)).trans q49), hsg, hsh⟩, (fun k hk => (fr1 k (by omega)).trans ((fun (k : Nat) (_ : k < 32) => rfl) k hk))⟩)
    · refine gj_al0 dX9_way_20 ?_
      refine gj_il1 dX9_way_21 ?_
      refine gj_il2 dX9_way_22 ?_
      refine gj_il3 dX9_way_23 ?_
      refine gj_cV3w dX9_way_24 mX9_201 hX9_wayOf e32_1 rfl (by omega) rfl (tX9_wayOf  (by omega) e32_1 e38_1 ((fr1 43 (by decide)).trans q43) hT rt1 (by omega) (by omega) (by omega) (by omega)) (fun w24 P24 => ?_)
      obtain ⟨f24, rfl⟩ := P24
      refine gj_goto dX9_way_27 ?_
      exact gj_iret dX9_way_32 rfl (wr_i (by unfold wayA; rw [if_pos (show (In7 a ∧ In7 b ∧ a ≠ b) ∧ (0 ≤ k0 ∧ k0 ≤ 1) by omega), nxtF_eq (rdt_agr rt1) (can_ok hT).ed (fun _ _ _ _ => rfl) (by omega) (by omega)]) ⟨⟨_, _, _, _, _, _, _, _, _, _, _, _, _, _, _, _, _, _, _, _, (upw_o (by decide) e32_1), (upw_o (by decide) ((fr1 33 (by decide)).trans q33)), (upw_o (by decide) ((fr1 34 (by decide)).trans q34)), (upw_o (by decide) ((fr1 35 (by decide)).trans q35)), (upw_o (by decide) ((fr1 36 (by decide)).trans q36)), (upw_o (by decide) ((fr1 37 (by decide)).trans q37)), (upw_o (by decide) e38_1), (upw_o (by decide) ((fr1 39 (by decide)).trans q39)), (upw_o (by decide) ((fr1 40 (by decide)).trans q40)), (upw_o (by decide) ((fr1 41 (by decide)).trans q41)), (upw_o (by decide) ((fr1 42 (by decide)).trans q42)), hse0, hse1, upw_s, (upw_o (by decide) ((fr1 44 (by decide)).trans q44)), (upw_o (by decide) ((fr1 45 (by decide)).trans q45)), (upw_o (by decide) ((fr1 46 (by decide)).trans q46)), (upw_o (by decide) ((fr1 47 (by decide)).trans q47)), (upw_o (by decide) ((fr1 48 (by decide)).trans q48)), (upw_o (by decide) ((fr1 49 (by decide)).trans q49)), hsg, hsh⟩, (fun k hk => upw_o (by omega) ((fun k hk => (fr1 k (by omega)).trans ((fun (k : Nat) (_ : k < 32) => rfl) k hk)) k hk))⟩)
set_option maxRecDepth 20000 in
set_option maxHeartbeats 4000000 in
theorem tX9_raid {l : Launch} {x : Cx} {d : Nat} {w : AW} {tx : Int → Int} {by0 : Int} {ru fa fe : Int → Int} {fc lw br me : Int} {mh ml mw : Int → Int} {mn fi : Int} {fm ln : Int → Int} {it : Int → Int → Int} {a b s h : Int} (hd : 6 ≤ d) (hC : ModelC w tx by0 ru fa fe fc lw br me mh ml mw mn fi fm ln it) (hK : ParOK tx by0 ru fa fe fc lw br me mh ml mw mn fi fm ln it) (ha : R32 a) (hb : R32 b) (hs : R32 s) (hh : R32 h) : Mt l x iX9_raid d 0 0 50 w [vR 32, vI a, vI b, vI s, vI h] (Wr (vI (raidA (warB lw fa ru fe fc) tx by0 a b s h)) (fun w2 => ModelC w2 tx by0 ru fa fe fc lw br me mh ml mw mn fi fm ln it ∧ ∀ k : Nat, k < 32 → w2 k = w k)) := by
  have hC0 := hC
  obtain ⟨a0, nr, le, bs, bl, bp, mo, sf, sz, im, mv, rd, se, fr, tr, sp, so, lu, bt, sg, q32, q33, q34, q35, q36, q37, q38, q39, q40, q41, q42, hse0, hse1, q43, q44, q45, q46, q47, q48, q49, hsg, hsh⟩ := hC
  obtain ⟨hT, hO, hbm, hMm, hSh⟩ := hK
  have t9 := hT.1
  have n9 := numF_R (tx := tx) hT.1
  have f9 := hO.2.2.1.1
  have m9 := hMm.1
  refine Mt.of (L0 := [some (vR 32), some (vI a), some (vI b), some (vI s), some (vI h)]) rfl rfl rfl ?_
  refine gj_al0 dX9_raid_0 ?_
  refine gj_cV0w dX9_raid_1 mX9_119 hX9_reads q32 rfl (by omega) rfl (tX9_reads  (by omega) q32 q37 q38 hT) (fun w1 P1 => ?_)
  obtain ⟨a1, r1, e32_1, e38_1, rt1, fr1⟩ := P1
  refine gj_popI dX9_raid_4 ?_
  refine gj_il1 dX9_raid_5 ?_
  refine gj_il2 dX9_raid_6 ?_
  refine gj_cS2r dX9_raid_7 mX9_198 hX9_areTwo (by omega) rfl (tX9_areTwo  (by omega) (by omega) (by omega)) ?_
  refine gj_ifB_eq dX9_raid_10 (fun h10 => ?_) (fun h10 => ?_)
  · refine gj_bipush dX9_raid_45 rfl ?_
    exact gj_iret dX9_raid_47 rfl (wr_i (by unfold raidA; rw [if_neg (by omega)]) ⟨⟨_, _, _, _, _, _, _, _, _, _, _, _, _, _, _, _, _, _, _, _, e32_1, ((fr1 33 (by decide)).trans q33), ((fr1 34 (by decide)).trans q34), ((fr1 35 (by decide)).trans q35), ((fr1 36 (by decide)).trans q36), ((fr1 37 (by decide)).trans q37), e38_1, ((fr1 39 (by decide)).trans q39), ((fr1 40 (by decide)).trans q40), ((fr1 41 (by decide)).trans q41), ((fr1 42 (by decide)).trans q42), hse0, hse1, ((fr1 43 (by decide)).trans q43), ((fr1 44 (by decide)).trans q44), ((fr1 45 (by decide)).trans q45), ((fr1 46 (by decide)).trans q46), ((fr1 47 (by decide)).trans q47), ((fr1 48 (by decide)).trans q48), ((fr1 49 (by decide)).trans q49), hsg, hsh⟩, (fun k hk => (fr1 k (by omega)).trans ((fun (k : Nat) (_ : k < 32) => rfl) k hk))⟩)
  · refine gj_il3 dX9_raid_13 ?_
    refine gj_i2l dX9_raid_14 (by omega) ?_
    refine gj_lconst1 dX9_raid_15 ?_
    refine gj_ldc2 dX9_raid_16 kX9_211 ?_
    refine gj_cS3r dX9_raid_19 mX9_65 hX9_in (by omega) rfl (tX9_in  (by omega) (by omega) (by omega) (by omega)) ?_
    refine gj_ifB_eq dX9_raid_22 (fun h22 => ?_) (fun h22 => ?_)
    · refine gj_bipush dX9_raid_45 rfl ?_
      exact gj_iret dX9_raid_47 rfl (wr_i (by unfold raidA; rw [if_neg (by omega)]) ⟨⟨_, _, _, _, _, _, _, _, _, _, _, _, _, _, _, _, _, _, _, _, e32_1, ((fr1 33 (by decide)).trans q33), ((fr1 34 (by decide)).trans q34), ((fr1 35 (by decide)).trans q35), ((fr1 36 (by decide)).trans q36), ((fr1 37 (by decide)).trans q37), e38_1, ((fr1 39 (by decide)).trans q39), ((fr1 40 (by decide)).trans q40), ((fr1 41 (by decide)).trans q41), ((fr1 42 (by decide)).trans q42), hse0, hse1, ((fr1 43 (by decide)).trans q43), ((fr1 44 (by decide)).trans q44), ((fr1 45 (by decide)).trans q45), ((fr1 46 (by decide)).trans q46), ((fr1 47 (by decide)).trans q47), ((fr1 48 (by decide)).trans q48), ((fr1 49 (by decide)).trans q49), hsg, hsh⟩, (fun k hk => (fr1 k (by omega)).trans ((fun (k : Nat) (_ : k < 32) => rfl) k hk))⟩)
    · refine gj_il4 dX9_raid_25 ?_
      refine gj_cS1r dX9_raid_27 mX9_166 hX9_isHour (by omega) rfl (tX9_isHour  (by omega) (by omega)) ?_
      refine gj_ifB_eq dX9_raid_30 (fun h30 => ?_) (fun h30 => ?_)
      · refine gj_bipush dX9_raid_45 rfl ?_
        exact gj_iret dX9_raid_47 rfl (wr_i (by unfold raidA; rw [if_neg (by omega)]) ⟨⟨_, _, _, _, _, _, _, _, _, _, _, _, _, _, _, _, _, _, _, _, e32_1, ((fr1 33 (by decide)).trans q33), ((fr1 34 (by decide)).trans q34), ((fr1 35 (by decide)).trans q35), ((fr1 36 (by decide)).trans q36), ((fr1 37 (by decide)).trans q37), e38_1, ((fr1 39 (by decide)).trans q39), ((fr1 40 (by decide)).trans q40), ((fr1 41 (by decide)).trans q41), ((fr1 42 (by decide)).trans q42), hse0, hse1, ((fr1 43 (by decide)).trans q43), ((fr1 44 (by decide)).trans q44), ((fr1 45 (by decide)).trans q45), ((fr1 46 (by decide)).trans q46), ((fr1 47 (by decide)).trans q47), ((fr1 48 (by decide)).trans q48), ((fr1 49 (by decide)).trans q49), hsg, hsh⟩, (fun k hk => (fr1 k (by omega)).trans ((fun (k : Nat) (_ : k < 32) => rfl) k hk))⟩)
      · refine gj_al0 dX9_raid_33 ?_
        refine gj_il1 dX9_raid_34 ?_
        refine gj_il2 dX9_raid_35 ?_
        refine gj_il3 dX9_raid_36 ?_
        refine gj_il4 dX9_raid_37 ?_
        refine gj_cV4w dX9_raid_39 mX9_213 hX9_raidOf e32_1 rfl (by omega) rfl (tX9_raidOf  (by omega) e32_1 e38_1 ((fr1 39 (by decide)).trans q39) ((fr1 40 (by decide)).trans q40) ((fr1 41 (by decide)).trans q41) ((fr1 43 (by decide)).trans q43) hT rt1 hO (by omega) (by omega) (by omega) (by omega) (by omega)) (fun w39 P39 => ?_)
        obtain ⟨f39, rfl⟩ := P39
        refine gj_goto dX9_raid_42 ?_
        exact gj_iret dX9_raid_47 rfl (wr_i (by
                    unfold raidA
                    rw [if_pos (show (In7 a ∧ In7 b ∧ a ≠ b) ∧ (1 ≤ s ∧ s ≤ 9) ∧ (0 ≤ h ∧ h ≤ 671) by omega)]
                    by_cases c : ((cWy tx by0) (a * 8 + b)) < 1000
                    · rw [if_pos c, if_pos c]
                      unfold raidF
                      exact fstZ_congr (fun i _ _ => raidB_eq (rdt_agr rt1) (can_ok hT).ed (can_ok hT).gr (fun _ _ _ _ => rfl) (by omega) (by omega) (by omega) c)
                    · rw [if_neg c, if_neg c]) ⟨⟨_, _, _, _, _, _, _, _, _, _, _, _, _, _, _, _, _, _, _, _, (upw_o (by decide) e32_1), (upw_o (by decide) ((fr1 33 (by decide)).trans q33)), (upw_o (by decide) ((fr1 34 (by decide)).trans q34)), (upw_o (by decide) ((fr1 35 (by decide)).trans q35)), (upw_o (by decide) ((fr1 36 (by decide)).trans q36)), (upw_o (by decide) ((fr1 37 (by decide)).trans q37)), (upw_o (by decide) e38_1), (upw_o (by decide) ((fr1 39 (by decide)).trans q39)), (upw_o (by decide) ((fr1 40 (by decide)).trans q40)), (upw_o (by decide) ((fr1 41 (by decide)).trans q41)), (upw_o (by decide) ((fr1 42 (by decide)).trans q42)), hse0, hse1, upw_s, (upw_o (by decide) ((fr1 44 (by decide)).trans q44)), (upw_o (by decide) ((fr1 45 (by decide)).trans q45)), (upw_o (by decide) ((fr1 46 (by decide)).trans q46)), (upw_o (by decide) ((fr1 47 (by decide)).trans q47)), (upw_o (by decide) ((fr1 48 (by decide)).trans q48)), (upw_o (by decide) ((fr1 49 (by decide)).trans q49)), hsg, hsh⟩, (fun k hk => upw_o (by omega) ((fun k hk => (fr1 k (by omega)).trans ((fun (k : Nat) (_ : k < 32) => rfl) k hk)) k hk))⟩)
set_option maxRecDepth 20000 in
set_option maxHeartbeats 4000000 in
theorem tX9_set {l : Launch} {x : Cx} {d : Nat} {w : AW} {tx : Int → Int} {by0 : Int} {ru fa fe : Int → Int} {fc lw br me : Int} {mh ml mw : Int → Int} {mn fi : Int} {fm ln : Int → Int} {it : Int → Int → Int} {k0 v : Int} (hd : 2 ≤ d) (hC : ModelC w tx by0 ru fa fe fc lw br me mh ml mw mn fi fm ln it) (hK : ParOK tx by0 ru fa fe fc lw br me mh ml mw mn fi fm ln it) (hk0 : R32 k0) (hv : R32 v) : Mt l x iX9_set d 0 0 50 w [vR 32, vI k0, vI v] (fun v2 w2 => (((0 ≤ k0 ∧ k0 ≤ 1) ∧ (0 ≤ v ∧ v ≤ 99)) ∧ k0 = 0 ∧ v2 = some (vI br) ∧ ModelC w2 tx by0 ru fa fe fc lw v me mh ml mw mn fi fm ln it ∧ ∀ k : Nat, k < 32 → w2 k = w k) ∨ (((0 ≤ k0 ∧ k0 ≤ 1) ∧ (0 ≤ v ∧ v ≤ 99)) ∧ k0 ≠ 0 ∧ v2 = some (vI me) ∧ ModelC w2 tx by0 ru fa fe fc lw br v mh ml mw mn fi fm ln it ∧ ∀ k : Nat, k < 32 → w2 k = w k) ∨ (¬ ((0 ≤ k0 ∧ k0 ≤ 1) ∧ (0 ≤ v ∧ v ≤ 99)) ∧ v2 = some (vI (-2)) ∧ w2 = w)) := by
  have hC0 := hC
  obtain ⟨a0, nr, le, bs, bl, bp, mo, sf, sz, im, mv, rd, se, fr, tr, sp, so, lu, bt, sg, q32, q33, q34, q35, q36, q37, q38, q39, q40, q41, q42, hse0, hse1, q43, q44, q45, q46, q47, q48, q49, hsg, hsh⟩ := hC
  obtain ⟨hT, hO, hbm, hMm, hSh⟩ := hK
  have t9 := hT.1
  have n9 := numF_R (tx := tx) hT.1
  have f9 := hO.2.2.1.1
  have m9 := hMm.1
  refine Mt.of (L0 := [some (vR 32), some (vI k0), some (vI v), none]) rfl rfl rfl ?_
  refine gj_il1 dX9_set_0 ?_
  refine gj_cS1r dX9_set_1 mX9_135 hX9_isTwo (by omega) rfl (tX9_isTwo  (by omega) (by omega)) ?_
  refine gj_ifB_eq dX9_set_4 (fun h4 => ?_) (fun h4 => ?_)
  · refine gj_bipush dX9_set_19 rfl ?_
    exact gj_iret dX9_set_21 rfl (Or.inr (Or.inr ⟨by omega, rfl, rfl⟩))
  · refine gj_il2 dX9_set_7 ?_
    refine gj_i2l dX9_set_8 (by omega) ?_
    refine gj_lconst0 dX9_set_9 ?_
    refine gj_ldc2 dX9_set_10 kX9_217 ?_
    refine gj_cS3r dX9_set_13 mX9_65 hX9_in (by omega) rfl (tX9_in  (by omega) (by omega) (by omega) (by omega)) ?_
    refine gj_ifB_ne dX9_set_16 (fun h16 => ?_) (fun h16 => ?_)
    · refine gj_al0 dX9_set_22 ?_
      refine gj_get dX9_set_23 fX9_37 q32 rfl rfl ?_
      refine gj_il1 dX9_set_26 ?_
      refine gj_iald dX9_set_27 q42 rfl rfl (by omega) ?_
      refine gj_is3 dX9_set_28 rfl rfl ?_
      refine gj_al0 dX9_set_29 ?_
      refine gj_get dX9_set_30 fX9_37 q32 rfl rfl ?_
      refine gj_il1 dX9_set_33 ?_
      refine gj_il2 dX9_set_34 ?_
      refine gj_iast dX9_set_35 q42 rfl rfl (by omega) ?_
      refine gj_il3 dX9_set_36 ?_
      exact gj_iret dX9_set_37 rfl ((by
                  by_cases e : k0 = 0
                  · exact Or.inl ⟨by omega, e, by rw [e, hse0], ⟨⟨_, _, _, _, _, _, _, _, _, _, _, _, _, _, _, _, _, _, _, _, (upw_o (by decide) q32), (upw_o (by decide) q33), (upw_o (by decide) q34), (upw_o (by decide) q35), (upw_o (by decide) q36), (upw_o (by decide) q37), (upw_o (by decide) q38), (upw_o (by decide) q39), (upw_o (by decide) q40), (upw_o (by decide) q41), upw_s, by rw [e, upf_s], by rw [upf_o _ _ (by omega)]; exact hse1, (upw_o (by decide) q43), (upw_o (by decide) q44), (upw_o (by decide) q45), (upw_o (by decide) q46), (upw_o (by decide) q47), (upw_o (by decide) q48), (upw_o (by decide) q49), hsg, hsh⟩, (fun k hk => upw_o (by omega) ((fun (k : Nat) (_ : k < 32) => rfl) k hk))⟩⟩
                  · exact Or.inr (Or.inl ⟨by omega, e, by rw [show k0 = 1 by omega, hse1], ⟨⟨_, _, _, _, _, _, _, _, _, _, _, _, _, _, _, _, _, _, _, _, (upw_o (by decide) q32), (upw_o (by decide) q33), (upw_o (by decide) q34), (upw_o (by decide) q35), (upw_o (by decide) q36), (upw_o (by decide) q37), (upw_o (by decide) q38), (upw_o (by decide) q39), (upw_o (by decide) q40), (upw_o (by decide) q41), upw_s, by rw [upf_o _ _ (by omega)]; exact hse0, by rw [show k0 = 1 by omega, upf_s], (upw_o (by decide) q43), (upw_o (by decide) q44), (upw_o (by decide) q45), (upw_o (by decide) q46), (upw_o (by decide) q47), (upw_o (by decide) q48), (upw_o (by decide) q49), hsg, hsh⟩, (fun k hk => upw_o (by omega) ((fun (k : Nat) (_ : k < 32) => rfl) k hk))⟩⟩)))
    · refine gj_bipush dX9_set_19 rfl ?_
      exact gj_iret dX9_set_21 rfl (Or.inr (Or.inr ⟨by omega, rfl, rfl⟩))
set_option maxRecDepth 20000 in
set_option maxHeartbeats 4000000 in
theorem tX9_siege {l : Launch} {x : Cx} {d : Nat} {w : AW} {tx : Int → Int} {by0 : Int} {ru fa fe : Int → Int} {fc lw br me : Int} {mh ml mw : Int → Int} {mn fi : Int} {fm ln : Int → Int} {it : Int → Int → Int} {l0 h st k0 : Int} (hd : 5 ≤ d) (hC : ModelC w tx by0 ru fa fe fc lw br me mh ml mw mn fi fm ln it) (hK : ParOK tx by0 ru fa fe fc lw br me mh ml mw mn fi fm ln it) (hl0 : R32 l0) (hh : R32 h) (hst : R32 st) (hk0 : R32 k0) : Mt l x iX9_siege d 0 0 50 w [vR 32, vI l0, vI h, vI st, vI k0] (Wr (vI (sieA (warB lw fa ru fe fc) br me l0 h st k0)) (fun w2 => ModelC w2 tx by0 ru fa fe fc lw br me mh ml mw mn fi fm ln it ∧ ∀ k : Nat, k < 32 → w2 k = w k)) := by
  have hC0 := hC
  obtain ⟨a0, nr, le, bs, bl, bp, mo, sf, sz, im, mv, rd, se, fr, tr, sp, so, lu, bt, sg, q32, q33, q34, q35, q36, q37, q38, q39, q40, q41, q42, hse0, hse1, q43, q44, q45, q46, q47, q48, q49, hsg, hsh⟩ := hC
  obtain ⟨hT, hO, hbm, hMm, hSh⟩ := hK
  have t9 := hT.1
  have n9 := numF_R (tx := tx) hT.1
  have f9 := hO.2.2.1.1
  have m9 := hMm.1
  refine Mt.of (L0 := [some (vR 32), some (vI l0), some (vI h), some (vI st), some (vI k0)]) rfl rfl rfl ?_
  refine gj_il1 dX9_siege_0 ?_
  refine gj_cS1r dX9_siege_1 mX9_127 hX9_isLand (by omega) rfl (tX9_isLand  (by omega) (by omega)) ?_
  refine gj_ifB_eq dX9_siege_4 (fun h4 => ?_) (fun h4 => ?_)
  · refine gj_bipush dX9_siege_46 rfl ?_
    exact gj_iret dX9_siege_48 rfl (wr_i (by unfold sieA; rw [if_neg (by omega)]) ⟨⟨_, _, _, _, _, _, _, _, _, _, _, _, _, _, _, _, _, _, _, _, q32, q33, q34, q35, q36, q37, q38, q39, q40, q41, q42, hse0, hse1, q43, q44, q45, q46, q47, q48, q49, hsg, hsh⟩, (fun (k : Nat) (_ : k < 32) => rfl)⟩)
  · refine gj_il2 dX9_siege_7 ?_
    refine gj_cS1r dX9_siege_8 mX9_166 hX9_isHour (by omega) rfl (tX9_isHour  (by omega) (by omega)) ?_
    refine gj_ifB_eq dX9_siege_11 (fun h11 => ?_) (fun h11 => ?_)
    · refine gj_bipush dX9_siege_46 rfl ?_
      exact gj_iret dX9_siege_48 rfl (wr_i (by unfold sieA; rw [if_neg (by omega)]) ⟨⟨_, _, _, _, _, _, _, _, _, _, _, _, _, _, _, _, _, _, _, _, q32, q33, q34, q35, q36, q37, q38, q39, q40, q41, q42, hse0, hse1, q43, q44, q45, q46, q47, q48, q49, hsg, hsh⟩, (fun (k : Nat) (_ : k < 32) => rfl)⟩)
    · refine gj_il3 dX9_siege_14 ?_
      refine gj_i2l dX9_siege_15 (by omega) ?_
      refine gj_lconst1 dX9_siege_16 ?_
      refine gj_ldc2 dX9_siege_17 kX9_225 ?_
      refine gj_cS3r dX9_siege_20 mX9_65 hX9_in (by omega) rfl (tX9_in  (by omega) (by omega) (by omega) (by omega)) ?_
      refine gj_ifB_eq dX9_siege_23 (fun h23 => ?_) (fun h23 => ?_)
      · refine gj_bipush dX9_siege_46 rfl ?_
        exact gj_iret dX9_siege_48 rfl (wr_i (by unfold sieA; rw [if_neg (by omega)]) ⟨⟨_, _, _, _, _, _, _, _, _, _, _, _, _, _, _, _, _, _, _, _, q32, q33, q34, q35, q36, q37, q38, q39, q40, q41, q42, hse0, hse1, q43, q44, q45, q46, q47, q48, q49, hsg, hsh⟩, (fun (k : Nat) (_ : k < 32) => rfl)⟩)
      · refine gj_il4 dX9_siege_26 ?_
        refine gj_cS1r dX9_siege_28 mX9_135 hX9_isTwo (by omega) rfl (tX9_isTwo  (by omega) (by omega)) ?_
        refine gj_ifB_eq dX9_siege_31 (fun h31 => ?_) (fun h31 => ?_)
        · refine gj_bipush dX9_siege_46 rfl ?_
          exact gj_iret dX9_siege_48 rfl (wr_i (by unfold sieA; rw [if_neg (by omega)]) ⟨⟨_, _, _, _, _, _, _, _, _, _, _, _, _, _, _, _, _, _, _, _, q32, q33, q34, q35, q36, q37, q38, q39, q40, q41, q42, hse0, hse1, q43, q44, q45, q46, q47, q48, q49, hsg, hsh⟩, (fun (k : Nat) (_ : k < 32) => rfl)⟩)
        · refine gj_al0 dX9_siege_34 ?_
          refine gj_il1 dX9_siege_35 ?_
          refine gj_il2 dX9_siege_36 ?_
          refine gj_il3 dX9_siege_37 ?_
          refine gj_il4 dX9_siege_38 ?_
          refine gj_cV4w dX9_siege_40 mX9_227 hX9_siegeOf q32 rfl (by omega) rfl (tX9_siegeOf  (by omega) q32 q39 q40 q41 q42 hO (by rw [hse0]; exact hbm.1) (by omega) (by omega) (by omega) (by rw [hse1]; exact hbm.2) (by omega)) (fun w40 P40 => ?_)
          obtain rfl := P40
          refine gj_goto dX9_siege_43 ?_
          exact gj_iret dX9_siege_48 rfl (wr_i (by unfold sieA; rw [if_pos (show ((0 ≤ l0 ∧ l0 ≤ 7) ∧ (0 ≤ h ∧ h ≤ 671) ∧ 1 ≤ st ∧ st ≤ 999) ∧ (0 ≤ k0 ∧ k0 ≤ 1) by omega), hse0, hse1]) ⟨⟨_, _, _, _, _, _, _, _, _, _, _, _, _, _, _, _, _, _, _, _, upw_s, (upw_o (by decide) q33), (upw_o (by decide) q34), (upw_o (by decide) q35), (upw_o (by decide) q36), (upw_o (by decide) q37), (upw_o (by decide) q38), (upw_o (by decide) q39), (upw_o (by decide) q40), (upw_o (by decide) q41), (upw_o (by decide) q42), hse0, hse1, (upw_o (by decide) q43), (upw_o (by decide) q44), (upw_o (by decide) q45), (upw_o (by decide) q46), (upw_o (by decide) q47), (upw_o (by decide) q48), (upw_o (by decide) q49), hsg, hsh⟩, (fun k hk => upw_o (by omega) ((fun (k : Nat) (_ : k < 32) => rfl) k hk))⟩)
set_option maxRecDepth 20000 in
set_option maxHeartbeats 4000000 in
theorem tX9_holds {l : Launch} {x : Cx} {d : Nat} {w : AW} {tx : Int → Int} {by0 : Int} {ru fa fe : Int → Int} {fc lw br me : Int} {mh ml mw : Int → Int} {mn fi : Int} {fm ln : Int → Int} {it : Int → Int → Int} {l0 h st : Int} (hd : 5 ≤ d) (hC : ModelC w tx by0 ru fa fe fc lw br me mh ml mw mn fi fm ln it) (hK : ParOK tx by0 ru fa fe fc lw br me mh ml mw mn fi fm ln it) (hl0 : R32 l0) (hh : R32 h) (hst : R32 st) : Mt l x iX9_holds d 0 0 50 w [vR 32, vI l0, vI h, vI st] (Wr (vI (hldA (warB lw fa ru fe fc) br l0 h st)) (fun w2 => ModelC w2 tx by0 ru fa fe fc lw br me mh ml mw mn fi fm ln it ∧ ∀ k : Nat, k < 32 → w2 k = w k)) := by
  have hC0 := hC
  obtain ⟨a0, nr, le, bs, bl, bp, mo, sf, sz, im, mv, rd, se, fr, tr, sp, so, lu, bt, sg, q32, q33, q34, q35, q36, q37, q38, q39, q40, q41, q42, hse0, hse1, q43, q44, q45, q46, q47, q48, q49, hsg, hsh⟩ := hC
  obtain ⟨hT, hO, hbm, hMm, hSh⟩ := hK
  have t9 := hT.1
  have n9 := numF_R (tx := tx) hT.1
  have f9 := hO.2.2.1.1
  have m9 := hMm.1
  refine Mt.of (L0 := [some (vR 32), some (vI l0), some (vI h), some (vI st)]) rfl rfl rfl ?_
  refine gj_il1 dX9_holds_0 ?_
  refine gj_cS1r dX9_holds_1 mX9_127 hX9_isLand (by omega) rfl (tX9_isLand  (by omega) (by omega)) ?_
  refine gj_ifB_eq dX9_holds_4 (fun h4 => ?_) (fun h4 => ?_)
  · refine gj_bipush dX9_holds_36 rfl ?_
    exact gj_iret dX9_holds_38 rfl (wr_i (by unfold hldA; rw [if_neg (by omega)]) ⟨⟨_, _, _, _, _, _, _, _, _, _, _, _, _, _, _, _, _, _, _, _, q32, q33, q34, q35, q36, q37, q38, q39, q40, q41, q42, hse0, hse1, q43, q44, q45, q46, q47, q48, q49, hsg, hsh⟩, (fun (k : Nat) (_ : k < 32) => rfl)⟩)
  · refine gj_il2 dX9_holds_7 ?_
    refine gj_cS1r dX9_holds_8 mX9_166 hX9_isHour (by omega) rfl (tX9_isHour  (by omega) (by omega)) ?_
    refine gj_ifB_eq dX9_holds_11 (fun h11 => ?_) (fun h11 => ?_)
    · refine gj_bipush dX9_holds_36 rfl ?_
      exact gj_iret dX9_holds_38 rfl (wr_i (by unfold hldA; rw [if_neg (by omega)]) ⟨⟨_, _, _, _, _, _, _, _, _, _, _, _, _, _, _, _, _, _, _, _, q32, q33, q34, q35, q36, q37, q38, q39, q40, q41, q42, hse0, hse1, q43, q44, q45, q46, q47, q48, q49, hsg, hsh⟩, (fun (k : Nat) (_ : k < 32) => rfl)⟩)
    · refine gj_il3 dX9_holds_14 ?_
      refine gj_i2l dX9_holds_15 (by omega) ?_
      refine gj_lconst1 dX9_holds_16 ?_
      refine gj_ldc2 dX9_holds_17 kX9_225 ?_
      refine gj_cS3r dX9_holds_20 mX9_65 hX9_in (by omega) rfl (tX9_in  (by omega) (by omega) (by omega) (by omega)) ?_
      refine gj_ifB_eq dX9_holds_23 (fun h23 => ?_) (fun h23 => ?_)
      · refine gj_bipush dX9_holds_36 rfl ?_
        exact gj_iret dX9_holds_38 rfl (wr_i (by unfold hldA; rw [if_neg (by omega)]) ⟨⟨_, _, _, _, _, _, _, _, _, _, _, _, _, _, _, _, _, _, _, _, q32, q33, q34, q35, q36, q37, q38, q39, q40, q41, q42, hse0, hse1, q43, q44, q45, q46, q47, q48, q49, hsg, hsh⟩, (fun (k : Nat) (_ : k < 32) => rfl)⟩)
      · refine gj_al0 dX9_holds_26 ?_
        refine gj_il1 dX9_holds_27 ?_
        refine gj_il2 dX9_holds_28 ?_
        refine gj_il3 dX9_holds_29 ?_
        refine gj_cV3w dX9_holds_30 mX9_230 hX9_holdsBy q32 rfl (by omega) rfl (tX9_holdsBy  (by omega) q32 q39 q40 q41 q42 hO (by rw [hse0]; exact hbm.1) (by omega) (by omega) (by omega)) (fun w30 P30 => ?_)
        obtain ⟨z30, rfl⟩ := P30
        refine gj_goto dX9_holds_33 ?_
        exact gj_iret dX9_holds_38 rfl (wr_i (by unfold hldA; rw [if_pos (show (0 ≤ l0 ∧ l0 ≤ 7) ∧ (0 ≤ h ∧ h ≤ 671) ∧ 1 ≤ st ∧ st ≤ 999 by omega), hse0]) ⟨⟨_, _, _, _, _, _, _, _, _, _, _, _, _, _, _, _, _, _, _, _, upw_s, (upw_o (by decide) q33), (upw_o (by decide) q34), (upw_o (by decide) q35), (upw_o (by decide) q36), (upw_o (by decide) q37), (upw_o (by decide) q38), (upw_o (by decide) q39), (upw_o (by decide) q40), (upw_o (by decide) q41), (upw_o (by decide) q42), hse0, hse1, (upw_o (by decide) q43), (upw_o (by decide) q44), (upw_o (by decide) q45), (upw_o (by decide) q46), (upw_o (by decide) q47), (upw_o (by decide) q48), (upw_o (by decide) q49), hsg, hsh⟩, (fun k hk => upw_o (by omega) ((fun (k : Nat) (_ : k < 32) => rfl) k hk))⟩)
set_option maxRecDepth 20000 in
set_option maxHeartbeats 4000000 in
theorem tX9_seen {l : Launch} {x : Cx} {d : Nat} {w : AW} {tx : Int → Int} {by0 : Int} {ru fa fe : Int → Int} {fc lw br me : Int} {mh ml mw : Int → Int} {mn fi : Int} {fm ln : Int → Int} {it : Int → Int → Int} {h l0 z : Int} (hd : 2 ≤ d) (hC : ModelC w tx by0 ru fa fe fc lw br me mh ml mw mn fi fm ln it) (hK : ParOK tx by0 ru fa fe fc lw br me mh ml mw mn fi fm ln it) (hh : R32 h) (hl0 : R32 l0) (hz : R32 z) : Mt l x iX9_seen d 0 0 50 w [vR 32, vI h, vI l0, vI z] (fun v2 w2 => (((0 ≤ h ∧ h ≤ 23) ∧ (0 ≤ l0 ∧ l0 ≤ 7) ∧ (0 ≤ z ∧ z ≤ 1)) ∧ mn < 6 ∧ v2 = some (vI (mn + 1)) ∧ ModelC w2 tx by0 ru fa fe fc lw br me (upf mh mn h) (upf ml mn l0) (upf mw mn z) (mn + 1) fi fm ln it ∧ ∀ k : Nat, k < 32 → w2 k = w k) ∨ (((0 ≤ h ∧ h ≤ 23) ∧ (0 ≤ l0 ∧ l0 ≤ 7) ∧ (0 ≤ z ∧ z ≤ 1)) ∧ ¬ mn < 6 ∧ v2 = some (vI (-4)) ∧ w2 = w) ∨ (¬ ((0 ≤ h ∧ h ≤ 23) ∧ (0 ≤ l0 ∧ l0 ≤ 7) ∧ (0 ≤ z ∧ z ≤ 1)) ∧ v2 = some (vI (-2)) ∧ w2 = w)) := by
  have hC0 := hC
  obtain ⟨a0, nr, le, bs, bl, bp, mo, sf, sz, im, mv, rd, se, fr, tr, sp, so, lu, bt, sg, q32, q33, q34, q35, q36, q37, q38, q39, q40, q41, q42, hse0, hse1, q43, q44, q45, q46, q47, q48, q49, hsg, hsh⟩ := hC
  obtain ⟨hT, hO, hbm, hMm, hSh⟩ := hK
  have t9 := hT.1
  have n9 := numF_R (tx := tx) hT.1
  have f9 := hO.2.2.1.1
  have m9 := hMm.1
  refine Mt.of (L0 := [some (vR 32), some (vI h), some (vI l0), some (vI z)]) rfl rfl rfl ?_
  refine gj_il1 dX9_seen_0 ?_
  refine gj_i2l dX9_seen_1 (by omega) ?_
  refine gj_lconst0 dX9_seen_2 ?_
  refine gj_ldc2 dX9_seen_3 kX9_138 ?_
  refine gj_cS3r dX9_seen_6 mX9_65 hX9_in (by omega) rfl (tX9_in  (by omega) (by omega) (by omega) (by omega)) ?_
  refine gj_ifB_eq dX9_seen_9 (fun h9 => ?_) (fun h9 => ?_)
  · refine gj_bipush dX9_seen_26 rfl ?_
    exact gj_iret dX9_seen_28 rfl (Or.inr (Or.inr ⟨by omega, rfl, rfl⟩))
  · refine gj_il2 dX9_seen_12 ?_
    refine gj_cS1r dX9_seen_13 mX9_127 hX9_isLand (by omega) rfl (tX9_isLand  (by omega) (by omega)) ?_
    refine gj_ifB_eq dX9_seen_16 (fun h16 => ?_) (fun h16 => ?_)
    · refine gj_bipush dX9_seen_26 rfl ?_
      exact gj_iret dX9_seen_28 rfl (Or.inr (Or.inr ⟨by omega, rfl, rfl⟩))
    · refine gj_il3 dX9_seen_19 ?_
      refine gj_cS1r dX9_seen_20 mX9_135 hX9_isTwo (by omega) rfl (tX9_isTwo  (by omega) (by omega)) ?_
      refine gj_ifB_ne dX9_seen_23 (fun h23 => ?_) (fun h23 => ?_)
      · refine gj_al0 dX9_seen_29 ?_
        refine gj_get dX9_seen_30 fX9_285 q32 rfl rfl ?_
        refine gj_bipush dX9_seen_33 rfl ?_
        refine gj_icmp_ne dX9_seen_35 (by omega) (fun h35 => ?_) (fun h35 => ?_)
        · refine gj_al0 dX9_seen_41 ?_
          refine gj_get dX9_seen_42 fX9_58 q32 rfl rfl ?_
          refine gj_iconst dX9_seen_45 ?_
          refine gj_al0 dX9_seen_46 ?_
          refine gj_get dX9_seen_47 fX9_285 q32 rfl rfl ?_
          refine gj_imul dX9_seen_50 ?_
          refine gj_il1 dX9_seen_51 ?_
          refine gj_iast dX9_seen_52 q49 rfl rfl (by omega) ?_
          refine gj_al0 dX9_seen_53 ?_
          refine gj_get dX9_seen_54 fX9_58 (upw_o (by decide) q32) rfl rfl ?_
          refine gj_iconst dX9_seen_57 ?_
          refine gj_al0 dX9_seen_58 ?_
          refine gj_get dX9_seen_59 fX9_285 (upw_o (by decide) q32) rfl rfl ?_
          refine gj_imul dX9_seen_62 ?_
          refine gj_iconst dX9_seen_63 ?_
          refine gj_iadd dX9_seen_64 ?_
          refine gj_il2 dX9_seen_65 ?_
          refine gj_iast dX9_seen_66 upw_s rfl rfl (by omega) ?_
          refine gj_al0 dX9_seen_67 ?_
          refine gj_get dX9_seen_68 fX9_58 (upw_o (by decide) (upw_o (by decide) q32)) rfl rfl ?_
          refine gj_iconst dX9_seen_71 ?_
          refine gj_al0 dX9_seen_72 ?_
          refine gj_get dX9_seen_73 fX9_285 (upw_o (by decide) (upw_o (by decide) q32)) rfl rfl ?_
          refine gj_imul dX9_seen_76 ?_
          refine gj_iconst dX9_seen_77 ?_
          refine gj_iadd dX9_seen_78 ?_
          refine gj_il3 dX9_seen_79 ?_
          refine gj_iast dX9_seen_80 upw_s rfl rfl (by omega) ?_
          refine gj_al0 dX9_seen_81 ?_
          refine gj_dupR dX9_seen_82 ?_
          refine gj_get dX9_seen_83 fX9_285 (upw_o (by decide) (upw_o (by decide) (upw_o (by decide) q32))) rfl rfl ?_
          refine gj_iconst dX9_seen_86 ?_
          refine gj_iadd dX9_seen_87 ?_
          refine gj_pI26 dX9_seen_88 fX9_285 (upw_o (by decide) (upw_o (by decide) (upw_o (by decide) q32))) rfl ?_
          refine gj_al0 dX9_seen_91 ?_
          refine gj_get dX9_seen_92 fX9_285 upw_s rfl rfl ?_
          exact gj_iret dX9_seen_95 rfl (Or.inl ⟨by omega, by omega, rfl, ⟨⟨_, _, _, _, _, _, _, _, _, _, _, _, _, _, _, _, _, _, _, _, upw_s, (upw_o (by decide) (upw_o (by decide) (upw_o (by decide) (upw_o (by decide) q33)))), (upw_o (by decide) (upw_o (by decide) (upw_o (by decide) (upw_o (by decide) q34)))), (upw_o (by decide) (upw_o (by decide) (upw_o (by decide) (upw_o (by decide) q35)))), (upw_o (by decide) (upw_o (by decide) (upw_o (by decide) (upw_o (by decide) q36)))), (upw_o (by decide) (upw_o (by decide) (upw_o (by decide) (upw_o (by decide) q37)))), (upw_o (by decide) (upw_o (by decide) (upw_o (by decide) (upw_o (by decide) q38)))), (upw_o (by decide) (upw_o (by decide) (upw_o (by decide) (upw_o (by decide) q39)))), (upw_o (by decide) (upw_o (by decide) (upw_o (by decide) (upw_o (by decide) q40)))), (upw_o (by decide) (upw_o (by decide) (upw_o (by decide) (upw_o (by decide) q41)))), (upw_o (by decide) (upw_o (by decide) (upw_o (by decide) (upw_o (by decide) q42)))), hse0, hse1, (upw_o (by decide) (upw_o (by decide) (upw_o (by decide) (upw_o (by decide) q43)))), (upw_o (by decide) (upw_o (by decide) (upw_o (by decide) (upw_o (by decide) q44)))), (upw_o (by decide) (upw_o (by decide) (upw_o (by decide) (upw_o (by decide) q45)))), (upw_o (by decide) (upw_o (by decide) (upw_o (by decide) (upw_o (by decide) q46)))), (upw_o (by decide) (upw_o (by decide) (upw_o (by decide) (upw_o (by decide) q47)))), (upw_o (by decide) (upw_o (by decide) (upw_o (by decide) (upw_o (by decide) q48)))), (upw_o (by decide) upw_s), (fun k g0 g1 => by
                      by_cases e : k = mn
                      · rw [e, upf_s, upf_s, upf_s, upf_o _ _ (by omega), upf_o _ _ (by omega), upf_s, upf_o _ _ (by omega), upf_s, upf_s]; exact ⟨rfl, rfl, rfl⟩
                      · rw [upf_o mh _ e, upf_o ml _ e, upf_o mw _ e, upf_o _ _ (by omega), upf_o _ _ (by omega), upf_o _ _ (by omega), upf_o _ _ (by omega), upf_o _ _ (by omega), upf_o _ _ (by omega), upf_o _ _ (by omega), upf_o _ _ (by omega), upf_o _ _ (by omega)]; exact hsg k g0 (by omega)), hsh⟩, (fun k hk => upw_o (by omega) ((fun k hk => upw_o (by omega) ((fun k hk => upw_o (by omega) ((fun k hk => upw_o (by omega) ((fun (k : Nat) (_ : k < 32) => rfl) k hk)) k hk)) k hk)) k hk))⟩⟩)
        · refine gj_bipush dX9_seen_38 rfl ?_
          exact gj_iret dX9_seen_40 rfl (Or.inr (Or.inl ⟨by omega, by omega, rfl, rfl⟩))
      · refine gj_bipush dX9_seen_26 rfl ?_
        exact gj_iret dX9_seen_28 rfl (Or.inr (Or.inr ⟨by omega, rfl, rfl⟩))
set_option maxRecDepth 20000 in
set_option maxHeartbeats 4000000 in
theorem tX9_forget {l : Launch} {x : Cx} {d : Nat} {w : AW} {tx : Int → Int} {by0 : Int} {ru fa fe : Int → Int} {fc lw br me : Int} {mh ml mw : Int → Int} {mn fi : Int} {fm ln : Int → Int} {it : Int → Int → Int} (hd : 0 ≤ d) (hC : ModelC w tx by0 ru fa fe fc lw br me mh ml mw mn fi fm ln it) (hK : ParOK tx by0 ru fa fe fc lw br me mh ml mw mn fi fm ln it) : Mt l x iX9_forget d 0 0 50 w [vR 32] (Wr (vI (mn)) (fun w2 => ModelC w2 tx by0 ru fa fe fc lw br me mh ml mw 0 fi fm ln it ∧ ∀ k : Nat, k < 32 → w2 k = w k)) := by
  have hC0 := hC
  obtain ⟨a0, nr, le, bs, bl, bp, mo, sf, sz, im, mv, rd, se, fr, tr, sp, so, lu, bt, sg, q32, q33, q34, q35, q36, q37, q38, q39, q40, q41, q42, hse0, hse1, q43, q44, q45, q46, q47, q48, q49, hsg, hsh⟩ := hC
  obtain ⟨hT, hO, hbm, hMm, hSh⟩ := hK
  have t9 := hT.1
  have n9 := numF_R (tx := tx) hT.1
  have f9 := hO.2.2.1.1
  have m9 := hMm.1
  refine Mt.of (L0 := [some (vR 32), none]) rfl rfl rfl ?_
  refine gj_al0 dX9_forget_0 ?_
  refine gj_get dX9_forget_1 fX9_285 q32 rfl rfl ?_
  refine gj_is1 dX9_forget_4 rfl rfl ?_
  refine gj_al0 dX9_forget_5 ?_
  refine gj_iconst dX9_forget_6 ?_
  refine gj_pI26 dX9_forget_7 fX9_285 q32 rfl ?_
  refine gj_il1 dX9_forget_10 ?_
  exact gj_iret dX9_forget_11 rfl (wr_i rfl ⟨⟨_, _, _, _, _, _, _, _, _, _, _, _, _, _, _, _, _, _, _, _, upw_s, (upw_o (by decide) q33), (upw_o (by decide) q34), (upw_o (by decide) q35), (upw_o (by decide) q36), (upw_o (by decide) q37), (upw_o (by decide) q38), (upw_o (by decide) q39), (upw_o (by decide) q40), (upw_o (by decide) q41), (upw_o (by decide) q42), hse0, hse1, (upw_o (by decide) q43), (upw_o (by decide) q44), (upw_o (by decide) q45), (upw_o (by decide) q46), (upw_o (by decide) q47), (upw_o (by decide) q48), (upw_o (by decide) q49), (fun k g0 g1 => absurd g1 (by omega)), hsh⟩, (fun k hk => upw_o (by omega) ((fun (k : Nat) (_ : k < 32) => rfl) k hk))⟩)
set_option maxRecDepth 20000 in
set_option maxHeartbeats 4000000 in
theorem tX9_which {l : Launch} {x : Cx} {d : Nat} {w : AW} {tx : Int → Int} {by0 : Int} {ru fa fe : Int → Int} {fc lw br me : Int} {mh ml mw : Int → Int} {mn fi : Int} {fm ln : Int → Int} {it : Int → Int → Int} (hd : 4 ≤ d) (hC : ModelC w tx by0 ru fa fe fc lw br me mh ml mw mn fi fm ln it) (hK : ParOK tx by0 ru fa fe fc lw br me mh ml mw mn fi fm ln it) : Mt l x iX9_which d 0 0 50 w [vR 32] (Rd (vI (wchF (warB lw fa ru fe fc) mh ml mw mn)) w) := by
  have hC0 := hC
  obtain ⟨a0, nr, le, bs, bl, bp, mo, sf, sz, im, mv, rd, se, fr, tr, sp, so, lu, bt, sg, q32, q33, q34, q35, q36, q37, q38, q39, q40, q41, q42, hse0, hse1, q43, q44, q45, q46, q47, q48, q49, hsg, hsh⟩ := hC
  obtain ⟨hT, hO, hbm, hMm, hSh⟩ := hK
  have t9 := hT.1
  have n9 := numF_R (tx := tx) hT.1
  have f9 := hO.2.2.1.1
  have m9 := hMm.1
  refine Mt.of (L0 := [some (vR 32)]) rfl rfl rfl ?_
  refine gj_al0 dX9_which_0 ?_
  refine gj_cV0r dX9_which_1 mX9_288 hX9_whichNow q32 rfl (by omega) rfl (tX9_whichNow  (by omega) q32 q39 q40 q41 q49 hO hsg hMm) ?_
  exact gj_iret dX9_which_4 rfl (rd_i rfl)
set_option maxRecDepth 20000 in
set_option maxHeartbeats 4000000 in
theorem tX9_season {l : Launch} {x : Cx} {d : Nat} {w : AW} {tx : Int → Int} {by0 : Int} {ru fa fe : Int → Int} {fc lw br me : Int} {mh ml mw : Int → Int} {mn fi : Int} {fm ln : Int → Int} {it : Int → Int → Int} {sd l0 : Int} (hd : 4 ≤ d) (hC : ModelC w tx by0 ru fa fe fc lw br me mh ml mw mn fi fm ln it) (hK : ParOK tx by0 ru fa fe fc lw br me mh ml mw mn fi fm ln it) (hsd : R32 sd) (hl0 : R32 l0) : Mt l x iX9_season d 0 0 50 w [vR 32, vI sd, vI l0] (Wr (vI (seasA (warB lw fa ru fe fc) sd l0)) (fun w2 => ModelC w2 tx by0 ru fa fe fc lw br me mh ml mw mn fi fm ln it ∧ ∀ k : Nat, k < 32 → w2 k = w k)) := by
  have hC0 := hC
  obtain ⟨a0, nr, le, bs, bl, bp, mo, sf, sz, im, mv, rd, se, fr, tr, sp, so, lu, bt, sg, q32, q33, q34, q35, q36, q37, q38, q39, q40, q41, q42, hse0, hse1, q43, q44, q45, q46, q47, q48, q49, hsg, hsh⟩ := hC
  obtain ⟨hT, hO, hbm, hMm, hSh⟩ := hK
  have t9 := hT.1
  have n9 := numF_R (tx := tx) hT.1
  have f9 := hO.2.2.1.1
  have m9 := hMm.1
  refine Mt.of (L0 := [some (vR 32), some (vI sd), some (vI l0)]) rfl rfl rfl ?_
  refine gj_il2 dX9_season_0 ?_
  refine gj_cS1r dX9_season_1 mX9_127 hX9_isLand (by omega) rfl (tX9_isLand  (by omega) (by omega)) ?_
  refine gj_ifB_eq dX9_season_4 (fun h4 => ?_) (fun h4 => ?_)
  · refine gj_bipush dX9_season_16 rfl ?_
    exact gj_iret dX9_season_18 rfl (wr_i (by unfold seasA; rw [if_neg (by omega)]) ⟨⟨_, _, _, _, _, _, _, _, _, _, _, _, _, _, _, _, _, _, _, _, q32, q33, q34, q35, q36, q37, q38, q39, q40, q41, q42, hse0, hse1, q43, q44, q45, q46, q47, q48, q49, hsg, hsh⟩, (fun (k : Nat) (_ : k < 32) => rfl)⟩)
  · refine gj_al0 dX9_season_7 ?_
    refine gj_il1 dX9_season_8 ?_
    refine gj_il2 dX9_season_9 ?_
    refine gj_cV2w dX9_season_10 mX9_292 hX9_seasonOf q32 rfl (by omega) rfl (tX9_seasonOf  (by omega) q32 q39 q40 q41 hO (by omega)) (fun w10 P10 => ?_)
    obtain ⟨z10, rfl⟩ := P10
    refine gj_goto dX9_season_13 ?_
    exact gj_iret dX9_season_18 rfl (wr_i (by unfold seasA; rw [if_pos (show 0 ≤ l0 ∧ l0 ≤ 7 by omega)]) ⟨⟨_, _, _, _, _, _, _, _, _, _, _, _, _, _, _, _, _, _, _, _, upw_s, (upw_o (by decide) q33), (upw_o (by decide) q34), (upw_o (by decide) q35), (upw_o (by decide) q36), (upw_o (by decide) q37), (upw_o (by decide) q38), (upw_o (by decide) q39), (upw_o (by decide) q40), (upw_o (by decide) q41), (upw_o (by decide) q42), hse0, hse1, (upw_o (by decide) q43), (upw_o (by decide) q44), (upw_o (by decide) q45), (upw_o (by decide) q46), (upw_o (by decide) q47), (upw_o (by decide) q48), (upw_o (by decide) q49), hsg, hsh⟩, (fun k hk => upw_o (by omega) ((fun (k : Nat) (_ : k < 32) => rfl) k hk))⟩)
set_option maxRecDepth 20000 in
set_option maxHeartbeats 4000000 in
theorem tX9_count {l : Launch} {x : Cx} {d : Nat} {w : AW} {tx : Int → Int} {by0 : Int} {ru fa fe : Int → Int} {fc lw br me : Int} {mh ml mw : Int → Int} {mn fi : Int} {fm ln : Int → Int} {it : Int → Int → Int} {k0 : Int} (hd : 4 ≤ d) (hC : ModelC w tx by0 ru fa fe fc lw br me mh ml mw mn fi fm ln it) (hK : ParOK tx by0 ru fa fe fc lw br me mh ml mw mn fi fm ln it) (hk0 : R32 k0) : Mt l x iX9_count d 0 0 50 w [vR 32, vI k0] (Wr (vI (cntA tx by0 fa fc mn br me fi k0)) (fun w2 => ModelC w2 tx by0 ru fa fe fc lw br me mh ml mw mn fi fm ln it ∧ ∀ k : Nat, k < 32 → w2 k = w k)) := by
  have hC0 := hC
  obtain ⟨a0, nr, le, bs, bl, bp, mo, sf, sz, im, mv, rd, se, fr, tr, sp, so, lu, bt, sg, q32, q33, q34, q35, q36, q37, q38, q39, q40, q41, q42, hse0, hse1, q43, q44, q45, q46, q47, q48, q49, hsg, hsh⟩ := hC
  obtain ⟨hT, hO, hbm, hMm, hSh⟩ := hK
  have t9 := hT.1
  have n9 := numF_R (tx := tx) hT.1
  have f9 := hO.2.2.1.1
  have m9 := hMm.1
  refine Mt.of (L0 := [some (vR 32), some (vI k0), none, none]) rfl rfl rfl ?_
  refine gj_iconst dX9_count_0 ?_
  refine gj_is2 dX9_count_1 rfl rfl ?_
  refine gj_al0 dX9_count_2 ?_
  refine gj_cV0w dX9_count_3 mX9_119 hX9_reads q32 rfl (by omega) rfl (tX9_reads  (by omega) q32 q37 q38 hT) (fun w3 P3 => ?_)
  obtain ⟨a3, r3, e32_3, e38_3, rt3, fr3⟩ := P3
  refine gj_popI dX9_count_6 ?_
  refine gj_il1 dX9_count_7 ?_
  refine gj_tsw9 (t0 := 60) (t1 := 65) (t2 := 70) (t3 := 75) (t4 := 80) (t5 := 109) (t6 := 140) (t7 := 140) (t8 := 150) (td := 155) dX9_count_8 (by omega) (by decide) (by decide) (by decide) (by decide) (by decide) (by decide) (by decide) (by decide) (by decide) (by decide) (fun h8 => ?_) (fun h8 => ?_) (fun h8 => ?_) (fun h8 => ?_) (fun h8 => ?_) (fun h8 => ?_) (fun h8 => ?_) (fun h8 => ?_) (fun h8 => ?_) (fun h8 => ?_)
  · refine gj_al0 dX9_count_60 ?_
    refine gj_get dX9_count_61 fX9_106 e32_3 rfl rfl ?_
    exact gj_iret dX9_count_64 rfl (wr_i (by unfold cntA; rw [if_pos h8]) ⟨⟨_, _, _, _, _, _, _, _, _, _, _, _, _, _, _, _, _, _, _, _, e32_3, ((fr3 33 (by decide)).trans q33), ((fr3 34 (by decide)).trans q34), ((fr3 35 (by decide)).trans q35), ((fr3 36 (by decide)).trans q36), ((fr3 37 (by decide)).trans q37), e38_3, ((fr3 39 (by decide)).trans q39), ((fr3 40 (by decide)).trans q40), ((fr3 41 (by decide)).trans q41), ((fr3 42 (by decide)).trans q42), hse0, hse1, ((fr3 43 (by decide)).trans q43), ((fr3 44 (by decide)).trans q44), ((fr3 45 (by decide)).trans q45), ((fr3 46 (by decide)).trans q46), ((fr3 47 (by decide)).trans q47), ((fr3 48 (by decide)).trans q48), ((fr3 49 (by decide)).trans q49), hsg, hsh⟩, (fun k hk => (fr3 k (by omega)).trans ((fun (k : Nat) (_ : k < 32) => rfl) k hk))⟩)
  · refine gj_al0 dX9_count_65 ?_
    refine gj_get dX9_count_66 fX9_95 e32_3 rfl rfl ?_
    exact gj_iret dX9_count_69 rfl (wr_i (by unfold cntA; rw [if_neg (by omega), if_pos h8]) ⟨⟨_, _, _, _, _, _, _, _, _, _, _, _, _, _, _, _, _, _, _, _, e32_3, ((fr3 33 (by decide)).trans q33), ((fr3 34 (by decide)).trans q34), ((fr3 35 (by decide)).trans q35), ((fr3 36 (by decide)).trans q36), ((fr3 37 (by decide)).trans q37), e38_3, ((fr3 39 (by decide)).trans q39), ((fr3 40 (by decide)).trans q40), ((fr3 41 (by decide)).trans q41), ((fr3 42 (by decide)).trans q42), hse0, hse1, ((fr3 43 (by decide)).trans q43), ((fr3 44 (by decide)).trans q44), ((fr3 45 (by decide)).trans q45), ((fr3 46 (by decide)).trans q46), ((fr3 47 (by decide)).trans q47), ((fr3 48 (by decide)).trans q48), ((fr3 49 (by decide)).trans q49), hsg, hsh⟩, (fun k hk => (fr3 k (by omega)).trans ((fun (k : Nat) (_ : k < 32) => rfl) k hk))⟩)
  · refine gj_al0 dX9_count_70 ?_
    refine gj_get dX9_count_71 fX9_148 e32_3 rfl rfl ?_
    exact gj_iret dX9_count_74 rfl (wr_i (by unfold cntA; rw [if_neg (by omega), if_neg (by omega), if_pos h8]) ⟨⟨_, _, _, _, _, _, _, _, _, _, _, _, _, _, _, _, _, _, _, _, e32_3, ((fr3 33 (by decide)).trans q33), ((fr3 34 (by decide)).trans q34), ((fr3 35 (by decide)).trans q35), ((fr3 36 (by decide)).trans q36), ((fr3 37 (by decide)).trans q37), e38_3, ((fr3 39 (by decide)).trans q39), ((fr3 40 (by decide)).trans q40), ((fr3 41 (by decide)).trans q41), ((fr3 42 (by decide)).trans q42), hse0, hse1, ((fr3 43 (by decide)).trans q43), ((fr3 44 (by decide)).trans q44), ((fr3 45 (by decide)).trans q45), ((fr3 46 (by decide)).trans q46), ((fr3 47 (by decide)).trans q47), ((fr3 48 (by decide)).trans q48), ((fr3 49 (by decide)).trans q49), hsg, hsh⟩, (fun k hk => (fr3 k (by omega)).trans ((fun (k : Nat) (_ : k < 32) => rfl) k hk))⟩)
  · refine gj_al0 dX9_count_75 ?_
    refine gj_get dX9_count_76 fX9_285 e32_3 rfl rfl ?_
    exact gj_iret dX9_count_79 rfl (wr_i (by unfold cntA; rw [if_neg (by omega), if_neg (by omega), if_neg (by omega), if_pos h8]) ⟨⟨_, _, _, _, _, _, _, _, _, _, _, _, _, _, _, _, _, _, _, _, e32_3, ((fr3 33 (by decide)).trans q33), ((fr3 34 (by decide)).trans q34), ((fr3 35 (by decide)).trans q35), ((fr3 36 (by decide)).trans q36), ((fr3 37 (by decide)).trans q37), e38_3, ((fr3 39 (by decide)).trans q39), ((fr3 40 (by decide)).trans q40), ((fr3 41 (by decide)).trans q41), ((fr3 42 (by decide)).trans q42), hse0, hse1, ((fr3 43 (by decide)).trans q43), ((fr3 44 (by decide)).trans q44), ((fr3 45 (by decide)).trans q45), ((fr3 46 (by decide)).trans q46), ((fr3 47 (by decide)).trans q47), ((fr3 48 (by decide)).trans q48), ((fr3 49 (by decide)).trans q49), hsg, hsh⟩, (fun k hk => (fr3 k (by omega)).trans ((fun (k : Nat) (_ : k < 32) => rfl) k hk))⟩)
  · refine gj_iconst dX9_count_80 ?_
    refine gj_is3 dX9_count_81 rfl rfl ?_
    have loop82 : ∀ (k : Nat), ∀ (a i : Int), (0 ≤ i ∧ i ≤ 8) → (a = sumZ (fun i => fa (3 * i + 1)) i) → (8 - i).toNat < k → Gj l x iX9_count d 0 0 50 (Wr (vI (cntA tx by0 fa fc mn br me fi k0)) (fun w2 => ModelC w2 tx by0 ru fa fe fc lw br me mh ml mw mn fi fm ln it ∧ ∀ k : Nat, k < 32 → w2 k = w k)) 0 0 50 w3 82 [some (vR 32), some (vI k0), some (vI a), some (vI i)] [] := by
      intro k
      induction k with
      | zero => intro _ _ _ _ hm; exact absurd hm (Nat.not_lt_zero _)
      | succ k ih82 =>
        intro a i  hi ha hm82
        refine gj_il3 dX9_count_82 ?_
        refine gj_bipush dX9_count_83 rfl ?_
        refine gj_icmp_ge dX9_count_85 (by omega) (fun h85 => ?_) (fun h85 => ?_)
        · refine gj_il2 dX9_count_107 ?_
          exact gj_iret dX9_count_108 rfl (wr_i (by unfold cntA; rw [if_neg (by omega), if_neg (by omega), if_neg (by omega), if_neg (by omega), if_pos h8]; rw [ha, show i = 8 by omega]) ⟨⟨_, _, _, _, _, _, _, _, _, _, _, _, _, _, _, _, _, _, _, _, e32_3, ((fr3 33 (by decide)).trans q33), ((fr3 34 (by decide)).trans q34), ((fr3 35 (by decide)).trans q35), ((fr3 36 (by decide)).trans q36), ((fr3 37 (by decide)).trans q37), e38_3, ((fr3 39 (by decide)).trans q39), ((fr3 40 (by decide)).trans q40), ((fr3 41 (by decide)).trans q41), ((fr3 42 (by decide)).trans q42), hse0, hse1, ((fr3 43 (by decide)).trans q43), ((fr3 44 (by decide)).trans q44), ((fr3 45 (by decide)).trans q45), ((fr3 46 (by decide)).trans q46), ((fr3 47 (by decide)).trans q47), ((fr3 48 (by decide)).trans q48), ((fr3 49 (by decide)).trans q49), hsg, hsh⟩, (fun k hk => (fr3 k (by omega)).trans ((fun (k : Nat) (_ : k < 32) => rfl) k hk))⟩)
        · refine gj_il2 dX9_count_88 ?_
          refine gj_al0 dX9_count_89 ?_
          refine gj_get dX9_count_90 fX9_28 e32_3 rfl rfl ?_
          refine gj_iconst dX9_count_93 ?_
          refine gj_il3 dX9_count_94 ?_
          refine gj_imul dX9_count_95 ?_
          refine gj_iconst dX9_count_96 ?_
          refine gj_iadd dX9_count_97 ?_
          refine gj_iald dX9_count_98 ((fr3 39 (by decide)).trans q39) rfl rfl (by omega) ?_
          refine gj_iadd dX9_count_99 ?_
          refine gj_is2 dX9_count_100 rfl rfl ?_
          refine gj_ii3 dX9_count_101 rfl rfl ?_
          refine gj_goto dX9_count_104 ?_
          exact ih82 _ _ (by omega) (by rw [sumZ_s _ hi.1, ha]) (by omega)
    exact loop82 _ _ _ (by omega) rfl (Nat.lt_succ_self _)
  · refine gj_iconst dX9_count_109 ?_
    refine gj_is3 dX9_count_110 rfl rfl ?_
    have loop111 : ∀ (k : Nat), ∀ (a i : Int), (0 ≤ i ∧ i ≤ numF tx by0) → (a = sumZ (fun r => tx (4 * r + 2) - 48) i) → (numF tx by0 - i).toNat < k → Gj l x iX9_count d 0 0 50 (Wr (vI (cntA tx by0 fa fc mn br me fi k0)) (fun w2 => ModelC w2 tx by0 ru fa fe fc lw br me mh ml mw mn fi fm ln it ∧ ∀ k : Nat, k < 32 → w2 k = w k)) 0 0 50 w3 111 [some (vR 32), some (vI k0), some (vI a), some (vI i)] [] := by
      intro k
      induction k with
      | zero => intro _ _ _ _ hm; exact absurd hm (Nat.not_lt_zero _)
      | succ k ih111 =>
        intro a i  hi ha hm111
        refine gj_il3 dX9_count_111 ?_
        refine gj_al0 dX9_count_112 ?_
        refine gj_get dX9_count_113 fX9_106 e32_3 rfl rfl ?_
        refine gj_icmp_ge dX9_count_116 (by omega) (fun h116 => ?_) (fun h116 => ?_)
        · refine gj_il2 dX9_count_138 ?_
          exact gj_iret dX9_count_139 rfl (wr_i (by unfold cntA; rw [if_neg (by omega), if_neg (by omega), if_neg (by omega), if_neg (by omega), if_neg (by omega), if_pos h8]; rw [ha, show i = numF tx by0 by omega]) ⟨⟨_, _, _, _, _, _, _, _, _, _, _, _, _, _, _, _, _, _, _, _, e32_3, ((fr3 33 (by decide)).trans q33), ((fr3 34 (by decide)).trans q34), ((fr3 35 (by decide)).trans q35), ((fr3 36 (by decide)).trans q36), ((fr3 37 (by decide)).trans q37), e38_3, ((fr3 39 (by decide)).trans q39), ((fr3 40 (by decide)).trans q40), ((fr3 41 (by decide)).trans q41), ((fr3 42 (by decide)).trans q42), hse0, hse1, ((fr3 43 (by decide)).trans q43), ((fr3 44 (by decide)).trans q44), ((fr3 45 (by decide)).trans q45), ((fr3 46 (by decide)).trans q46), ((fr3 47 (by decide)).trans q47), ((fr3 48 (by decide)).trans q48), ((fr3 49 (by decide)).trans q49), hsg, hsh⟩, (fun k hk => (fr3 k (by omega)).trans ((fun (k : Nat) (_ : k < 32) => rfl) k hk))⟩)
        · refine gj_il2 dX9_count_119 ?_
          refine gj_al0 dX9_count_120 ?_
          refine gj_get dX9_count_121 fX9_25 e32_3 rfl rfl ?_
          refine gj_iconst dX9_count_124 ?_
          refine gj_il3 dX9_count_125 ?_
          refine gj_imul dX9_count_126 ?_
          refine gj_iconst dX9_count_127 ?_
          refine gj_iadd dX9_count_128 ?_
          refine gj_iald dX9_count_129 e38_3 rfl rfl (by omega) ?_
          refine gj_iadd dX9_count_130 ?_
          refine gj_is2 dX9_count_131 rfl rfl ?_
          refine gj_ii3 dX9_count_132 rfl rfl ?_
          refine gj_goto dX9_count_135 ?_
          exact ih111 _ _ (by omega) (by rw [sumZ_s _ hi.1, ha, (rt3 i hi.1 (by omega)).2.2]) (by omega)
    exact loop111 _ _ _ (by omega) rfl (Nat.lt_succ_self _)
  · refine gj_al0 dX9_count_140 ?_
    refine gj_get dX9_count_141 fX9_37 e32_3 rfl rfl ?_
    refine gj_il1 dX9_count_144 ?_
    refine gj_bipush dX9_count_145 rfl ?_
    refine gj_isub dX9_count_147 ?_
    refine gj_iald dX9_count_148 ((fr3 42 (by decide)).trans q42) rfl rfl (by omega) ?_
    exact gj_iret dX9_count_149 rfl (wr_i (by unfold cntA; rw [if_neg (by omega), if_neg (by omega), if_neg (by omega), if_neg (by omega), if_neg (by omega), if_neg (by omega), if_pos h8]; rw [h8]; exact hse0) ⟨⟨_, _, _, _, _, _, _, _, _, _, _, _, _, _, _, _, _, _, _, _, e32_3, ((fr3 33 (by decide)).trans q33), ((fr3 34 (by decide)).trans q34), ((fr3 35 (by decide)).trans q35), ((fr3 36 (by decide)).trans q36), ((fr3 37 (by decide)).trans q37), e38_3, ((fr3 39 (by decide)).trans q39), ((fr3 40 (by decide)).trans q40), ((fr3 41 (by decide)).trans q41), ((fr3 42 (by decide)).trans q42), hse0, hse1, ((fr3 43 (by decide)).trans q43), ((fr3 44 (by decide)).trans q44), ((fr3 45 (by decide)).trans q45), ((fr3 46 (by decide)).trans q46), ((fr3 47 (by decide)).trans q47), ((fr3 48 (by decide)).trans q48), ((fr3 49 (by decide)).trans q49), hsg, hsh⟩, (fun k hk => (fr3 k (by omega)).trans ((fun (k : Nat) (_ : k < 32) => rfl) k hk))⟩)
  · refine gj_al0 dX9_count_140 ?_
    refine gj_get dX9_count_141 fX9_37 e32_3 rfl rfl ?_
    refine gj_il1 dX9_count_144 ?_
    refine gj_bipush dX9_count_145 rfl ?_
    refine gj_isub dX9_count_147 ?_
    refine gj_iald dX9_count_148 ((fr3 42 (by decide)).trans q42) rfl rfl (by omega) ?_
    exact gj_iret dX9_count_149 rfl (wr_i (by unfold cntA; rw [if_neg (by omega), if_neg (by omega), if_neg (by omega), if_neg (by omega), if_neg (by omega), if_neg (by omega), if_neg (by omega), if_pos h8]; rw [h8]; exact hse1) ⟨⟨_, _, _, _, _, _, _, _, _, _, _, _, _, _, _, _, _, _, _, _, e32_3, ((fr3 33 (by decide)).trans q33), ((fr3 34 (by decide)).trans q34), ((fr3 35 (by decide)).trans q35), ((fr3 36 (by decide)).trans q36), ((fr3 37 (by decide)).trans q37), e38_3, ((fr3 39 (by decide)).trans q39), ((fr3 40 (by decide)).trans q40), ((fr3 41 (by decide)).trans q41), ((fr3 42 (by decide)).trans q42), hse0, hse1, ((fr3 43 (by decide)).trans q43), ((fr3 44 (by decide)).trans q44), ((fr3 45 (by decide)).trans q45), ((fr3 46 (by decide)).trans q46), ((fr3 47 (by decide)).trans q47), ((fr3 48 (by decide)).trans q48), ((fr3 49 (by decide)).trans q49), hsg, hsh⟩, (fun k hk => (fr3 k (by omega)).trans ((fun (k : Nat) (_ : k < 32) => rfl) k hk))⟩)
  · refine gj_al0 dX9_count_150 ?_
    refine gj_get dX9_count_151 fX9_69 e32_3 rfl rfl ?_
    exact gj_iret dX9_count_154 rfl (wr_i (by unfold cntA; rw [if_neg (by omega), if_neg (by omega), if_neg (by omega), if_neg (by omega), if_neg (by omega), if_neg (by omega), if_neg (by omega), if_neg (by omega), if_pos h8]) ⟨⟨_, _, _, _, _, _, _, _, _, _, _, _, _, _, _, _, _, _, _, _, e32_3, ((fr3 33 (by decide)).trans q33), ((fr3 34 (by decide)).trans q34), ((fr3 35 (by decide)).trans q35), ((fr3 36 (by decide)).trans q36), ((fr3 37 (by decide)).trans q37), e38_3, ((fr3 39 (by decide)).trans q39), ((fr3 40 (by decide)).trans q40), ((fr3 41 (by decide)).trans q41), ((fr3 42 (by decide)).trans q42), hse0, hse1, ((fr3 43 (by decide)).trans q43), ((fr3 44 (by decide)).trans q44), ((fr3 45 (by decide)).trans q45), ((fr3 46 (by decide)).trans q46), ((fr3 47 (by decide)).trans q47), ((fr3 48 (by decide)).trans q48), ((fr3 49 (by decide)).trans q49), hsg, hsh⟩, (fun k hk => (fr3 k (by omega)).trans ((fun (k : Nat) (_ : k < 32) => rfl) k hk))⟩)
  · refine gj_bipush dX9_count_155 rfl ?_
    exact gj_iret dX9_count_157 rfl (wr_i (by unfold cntA; rw [if_neg (by omega), if_neg (by omega), if_neg (by omega), if_neg (by omega), if_neg (by omega), if_neg (by omega), if_neg (by omega), if_neg (by omega), if_neg (by omega)]) ⟨⟨_, _, _, _, _, _, _, _, _, _, _, _, _, _, _, _, _, _, _, _, e32_3, ((fr3 33 (by decide)).trans q33), ((fr3 34 (by decide)).trans q34), ((fr3 35 (by decide)).trans q35), ((fr3 36 (by decide)).trans q36), ((fr3 37 (by decide)).trans q37), e38_3, ((fr3 39 (by decide)).trans q39), ((fr3 40 (by decide)).trans q40), ((fr3 41 (by decide)).trans q41), ((fr3 42 (by decide)).trans q42), hse0, hse1, ((fr3 43 (by decide)).trans q43), ((fr3 44 (by decide)).trans q44), ((fr3 45 (by decide)).trans q45), ((fr3 46 (by decide)).trans q46), ((fr3 47 (by decide)).trans q47), ((fr3 48 (by decide)).trans q48), ((fr3 49 (by decide)).trans q49), hsg, hsh⟩, (fun k hk => (fr3 k (by omega)).trans ((fun (k : Nat) (_ : k < 32) => rfl) k hk))⟩)
