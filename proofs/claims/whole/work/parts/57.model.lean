/-! the model as a whole -/
def ParOK (tx : Int → Int) (by0 : Int) (ru fa fe : Int → Int) (fc lw br me : Int) (mh ml mw : Int → Int) (mn fi : Int) (fm ln : Int → Int) (it : Int → Int → Int) : Prop :=
  TxOK tx by0 ∧ MoOK fa ru fe fc lw ∧ ((0 ≤ br ∧ br ≤ 99) ∧ (0 ≤ me ∧ me ≤ 99)) ∧ MemOK mh ml mw mn ∧ ∀ s : Int, 0 ≤ s → s ≤ 3 → fm s = -1 ∨ ((0 ≤ fm s ∧ fm s ≤ 2) ∧ (0 ≤ ln s ∧ ln s ≤ 60) ∧ ∀ j : Int, 0 ≤ j → j < ln s → R32 (it s j))
theorem ShAt.par {w : AW} {a b : Nat} {f n : Int} {t : Int → Int} (h : ShAt w a b f n t) : f = -1 ∨ ((0 ≤ f ∧ f ≤ 2) ∧ (0 ≤ n ∧ n ≤ 60) ∧ ∀ j : Int, 0 ≤ j → j < n → R32 (t j)) := by
  obtain ⟨fo, le, lo, g, -, -, -, h⟩ := h
  rcases h with h | ⟨h1, h2, h3, h4, h5, h6⟩
  · exact Or.inl h.2
  · exact Or.inr ⟨by omega, by omega, fun j h7 h8 => by have := h6 j h7 (by omega); rw [← this.1]; exact this.2⟩
theorem ClassC.par {w : AW} {tx : Int → Int} {by0 : Int} {ru fa fe : Int → Int} {fc lw br me : Int} {mh ml mw : Int → Int} {mn fi : Int} {fm ln : Int → Int} {it : Int → Int → Int} (h : ClassC w tx by0 ru fa fe fc lw br me mh ml mw mn fi fm ln it) : ParOK tx by0 ru fa fe fc lw br me mh ml mw mn fi fm ln it := by
  obtain ⟨-, ⟨on, ot, ho, wy, nu, fl, -, hRd⟩, ⟨fd, -, -, hO⟩, -, -, hbm, -, ⟨-, hMm⟩, ⟨-, h0, h1, h2, h3⟩⟩ := h
  refine ⟨hRd.1, ⟨hO.1, hO.2.1, hO.2.2.1, hO.2.2.2.1⟩, hbm, hMm, fun s s0 s1 => ?_⟩
  rcases (show s = 0 ∨ s = 1 ∨ s = 2 ∨ s = 3 by omega) with rfl | rfl | rfl | rfl
  · exact h0.par
  · exact h1.par
  · exact h2.par
  · exact h3.par
def ModelC (w : AW) (tx : Int → Int) (by0 : Int) (ru fa fe : Int → Int) (fc lw br me : Int) (mh ml mw : Int → Int) (mn fi : Int) (fm ln : Int → Int) (it : Int → Int → Int) : Prop :=
  ∃ (a0 nr le bs bl bp mo : Int) (sf sz im mv rd se fr tr sp so lu bt sg : Int → Int), w 32 = (oM fi by0 a0 nr fc lw le bs bl bp mn mo) ∧ w 33 = cI 4 sf ∧ w 34 = cI 4 sz ∧ w 35 = cI 240 im ∧ w 36 = cI 60 mv ∧ w 37 = cI 47 tx ∧ w 38 = cI 36 rd ∧ w 39 = cI 24 fa ∧ w 40 = cI 8 ru ∧ w 41 = cI 8 fe ∧ w 42 = cI 2 se ∧ se 0 = br ∧ se 1 = me ∧ w 43 = cI 8 fr ∧ w 44 = cI 9 tr ∧ w 45 = cI 9 sp ∧ w 46 = cI 9 so ∧ w 47 = cI 9 lu ∧ w 48 = cI 9 bt ∧ w 49 = cI 18 sg ∧ (∀ k : Int, 0 ≤ k → k < mn → sg (3 * k) = mh k ∧ sg (3 * k + 1) = ml k ∧ sg (3 * k + 2) = mw k) ∧ ∀ s : Int, 0 ≤ s → s ≤ 3 → sf s = fm s ∧ (fm s ≠ -1 → sz s = ln s ∧ ∀ j : Int, 0 ≤ j → j < ln s → im (60 * s + j) = it s j)
theorem mos_all (k : Int) : (k = 0 → mosF k = 3) ∧ (k = 1 → mosF k = 1) ∧ (k = 2 → mosF k = 16) ∧ (¬ (0 ≤ k ∧ k ≤ 2) → mosF k = -1) := by
  unfold mosF
  refine ⟨fun h => ?_, fun h => ?_, fun h => ?_, fun h => ?_⟩ <;> (repeat' split) <;> omega
/-! contracts: the model's public methods, without sheets, home, digest -/
set_option maxRecDepth 20000 in
set_option maxHeartbeats 4000000 in
theorem tX9_type {l : Launch} {x : Cx} {d : Nat} {w : AW} {tx : Int → Int} {by0 : Int} {ru fa fe : Int → Int} {fc lw br me : Int} {mh ml mw : Int → Int} {mn fi : Int} {fm ln : Int → Int} {it : Int → Int → Int} {b : Int} (hd : 1 ≤ d) (hC : ModelC w tx by0 ru fa fe fc lw br me mh ml mw mn fi fm ln it) (hK : ParOK tx by0 ru fa fe fc lw br me mh ml mw mn fi fm ln it) (hb : R32 b) : Mt l x iX9_type d 0 0 50 w [vR 32, vI b] (fun v2 w2 => ((0 ≤ b ∧ b ≤ 255) ∧ by0 < 47 ∧ v2 = some (vI (by0 + 1)) ∧ ModelC w2 (upf tx by0 b) (by0 + 1) ru fa fe fc lw br me mh ml mw mn fi fm ln it ∧ ∀ k : Nat, k < 32 → w2 k = w k) ∨ ((0 ≤ b ∧ b ≤ 255) ∧ ¬ by0 < 47 ∧ v2 = some (vI (-4)) ∧ w2 = w) ∨ (¬ (0 ≤ b ∧ b ≤ 255) ∧ v2 = some (vI (-2)) ∧ w2 = w)) := by
  have hC0 := hC
  obtain ⟨a0, nr, le, bs, bl, bp, mo, sf, sz, im, mv, rd, se, fr, tr, sp, so, lu, bt, sg, q32, q33, q34, q35, q36, q37, q38, q39, q40, q41, q42, hse0, hse1, q43, q44, q45, q46, q47, q48, q49, hsg, hsh⟩ := hC
  obtain ⟨hT, hO, hbm, hMm, hSh⟩ := hK
  have t9 := hT.1
  have n9 := numF_R (tx := tx) hT.1
  have f9 := hO.2.2.1.1
  have m9 := hMm.1
  refine Mt.of (L0 := [some (vR 32), some (vI b)]) rfl rfl rfl ?_
  refine gj_il1 dX9_type_0 ?_
  refine gj_i2l dX9_type_1 (by omega) ?_
  refine gj_lconst0 dX9_type_2 ?_
  refine gj_ldc2 dX9_type_3 kX9_93 ?_
  refine gj_cS3r dX9_type_6 mX9_65 hX9_in (by omega) rfl (tX9_in  (by omega) (by omega) (by omega) (by omega)) ?_
  refine gj_ifB_ne dX9_type_9 (fun h9 => ?_) (fun h9 => ?_)
  · refine gj_al0 dX9_type_15 ?_
    refine gj_get dX9_type_16 fX9_95 q32 rfl rfl ?_
    refine gj_bipush dX9_type_19 rfl ?_
    refine gj_icmp_ne dX9_type_21 (by omega) (fun h21 => ?_) (fun h21 => ?_)
    · refine gj_al0 dX9_type_27 ?_
      refine gj_get dX9_type_28 fX9_22 q32 rfl rfl ?_
      refine gj_al0 dX9_type_31 ?_
      refine gj_get dX9_type_32 fX9_95 q32 rfl rfl ?_
      refine gj_il1 dX9_type_35 ?_
      refine gj_iast dX9_type_36 q37 rfl rfl (by omega) ?_
      refine gj_al0 dX9_type_37 ?_
      refine gj_dupR dX9_type_38 ?_
      refine gj_get dX9_type_39 fX9_95 (upw_o (by decide) q32) rfl rfl ?_
      refine gj_iconst dX9_type_42 ?_
      refine gj_iadd dX9_type_43 ?_
      refine gj_pI6 dX9_type_44 fX9_95 (upw_o (by decide) q32) rfl ?_
      refine gj_al0 dX9_type_47 ?_
      refine gj_get dX9_type_48 fX9_95 upw_s rfl rfl ?_
      exact gj_iret dX9_type_51 rfl (Or.inl ⟨h9, by omega, rfl, ⟨⟨_, _, _, _, _, _, _, _, _, _, _, _, _, _, _, _, _, _, _, _, upw_s, (upw_o (by decide) (upw_o (by decide) q33)), (upw_o (by decide) (upw_o (by decide) q34)), (upw_o (by decide) (upw_o (by decide) q35)), (upw_o (by decide) (upw_o (by decide) q36)), (upw_o (by decide) upw_s), (upw_o (by decide) (upw_o (by decide) q38)), (upw_o (by decide) (upw_o (by decide) q39)), (upw_o (by decide) (upw_o (by decide) q40)), (upw_o (by decide) (upw_o (by decide) q41)), (upw_o (by decide) (upw_o (by decide) q42)), hse0, hse1, (upw_o (by decide) (upw_o (by decide) q43)), (upw_o (by decide) (upw_o (by decide) q44)), (upw_o (by decide) (upw_o (by decide) q45)), (upw_o (by decide) (upw_o (by decide) q46)), (upw_o (by decide) (upw_o (by decide) q47)), (upw_o (by decide) (upw_o (by decide) q48)), (upw_o (by decide) (upw_o (by decide) q49)), hsg, hsh⟩, (fun k hk => upw_o (by omega) ((fun k hk => upw_o (by omega) ((fun (k : Nat) (_ : k < 32) => rfl) k hk)) k hk))⟩⟩)
    · refine gj_bipush dX9_type_24 rfl ?_
      exact gj_iret dX9_type_26 rfl (Or.inr (Or.inl ⟨h9, by omega, rfl, rfl⟩))
  · refine gj_bipush dX9_type_12 rfl ?_
    exact gj_iret dX9_type_14 rfl (Or.inr (Or.inr ⟨h9, rfl, rfl⟩))
set_option maxRecDepth 20000 in
set_option maxHeartbeats 4000000 in
theorem tX9_wipe {l : Launch} {x : Cx} {d : Nat} {w : AW} {tx : Int → Int} {by0 : Int} {ru fa fe : Int → Int} {fc lw br me : Int} {mh ml mw : Int → Int} {mn fi : Int} {fm ln : Int → Int} {it : Int → Int → Int} (hd : 0 ≤ d) (hC : ModelC w tx by0 ru fa fe fc lw br me mh ml mw mn fi fm ln it) (hK : ParOK tx by0 ru fa fe fc lw br me mh ml mw mn fi fm ln it) : Mt l x iX9_wipe d 0 0 50 w [vR 32] (Wr (vI (by0)) (fun w2 => ModelC w2 tx 0 ru fa fe fc lw br me mh ml mw mn fi fm ln it ∧ ∀ k : Nat, k < 32 → w2 k = w k)) := by
  have hC0 := hC
  obtain ⟨a0, nr, le, bs, bl, bp, mo, sf, sz, im, mv, rd, se, fr, tr, sp, so, lu, bt, sg, q32, q33, q34, q35, q36, q37, q38, q39, q40, q41, q42, hse0, hse1, q43, q44, q45, q46, q47, q48, q49, hsg, hsh⟩ := hC
  obtain ⟨hT, hO, hbm, hMm, hSh⟩ := hK
  have t9 := hT.1
  have n9 := numF_R (tx := tx) hT.1
  have f9 := hO.2.2.1.1
  have m9 := hMm.1
  refine Mt.of (L0 := [some (vR 32), none]) rfl rfl rfl ?_
  refine gj_al0 dX9_wipe_0 ?_
  refine gj_get dX9_wipe_1 fX9_95 q32 rfl rfl ?_
  refine gj_is1 dX9_wipe_4 rfl rfl ?_
  refine gj_al0 dX9_wipe_5 ?_
  refine gj_iconst dX9_wipe_6 ?_
  refine gj_pI6 dX9_wipe_7 fX9_95 q32 rfl ?_
  refine gj_il1 dX9_wipe_10 ?_
  exact gj_iret dX9_wipe_11 rfl (wr_i rfl ⟨⟨_, _, _, _, _, _, _, _, _, _, _, _, _, _, _, _, _, _, _, _, upw_s, (upw_o (by decide) q33), (upw_o (by decide) q34), (upw_o (by decide) q35), (upw_o (by decide) q36), (upw_o (by decide) q37), (upw_o (by decide) q38), (upw_o (by decide) q39), (upw_o (by decide) q40), (upw_o (by decide) q41), (upw_o (by decide) q42), hse0, hse1, (upw_o (by decide) q43), (upw_o (by decide) q44), (upw_o (by decide) q45), (upw_o (by decide) q46), (upw_o (by decide) q47), (upw_o (by decide) q48), (upw_o (by decide) q49), hsg, hsh⟩, (fun k hk => upw_o (by omega) ((fun (k : Nat) (_ : k < 32) => rfl) k hk))⟩)
set_option maxRecDepth 20000 in
set_option maxHeartbeats 4000000 in
theorem tX9_undo {l : Launch} {x : Cx} {d : Nat} {w : AW} {tx : Int → Int} {by0 : Int} {ru fa fe : Int → Int} {fc lw br me : Int} {mh ml mw : Int → Int} {mn fi : Int} {fm ln : Int → Int} {it : Int → Int → Int} (hd : 0 ≤ d) (hC : ModelC w tx by0 ru fa fe fc lw br me mh ml mw mn fi fm ln it) (hK : ParOK tx by0 ru fa fe fc lw br me mh ml mw mn fi fm ln it) : Mt l x iX9_undo d 0 0 50 w [vR 32] (fun v2 w2 => (by0 ≠ 0 ∧ v2 = some (vI (by0 - 1)) ∧ ModelC w2 tx (by0 - 1) ru fa fe fc lw br me mh ml mw mn fi fm ln it ∧ ∀ k : Nat, k < 32 → w2 k = w k) ∨ (by0 = 0 ∧ v2 = some (vI (-3)) ∧ w2 = w)) := by
  have hC0 := hC
  obtain ⟨a0, nr, le, bs, bl, bp, mo, sf, sz, im, mv, rd, se, fr, tr, sp, so, lu, bt, sg, q32, q33, q34, q35, q36, q37, q38, q39, q40, q41, q42, hse0, hse1, q43, q44, q45, q46, q47, q48, q49, hsg, hsh⟩ := hC
  obtain ⟨hT, hO, hbm, hMm, hSh⟩ := hK
  have t9 := hT.1
  have n9 := numF_R (tx := tx) hT.1
  have f9 := hO.2.2.1.1
  have m9 := hMm.1
  refine Mt.of (L0 := [some (vR 32)]) rfl rfl rfl ?_
  refine gj_al0 dX9_undo_0 ?_
  refine gj_get dX9_undo_1 fX9_95 q32 rfl rfl ?_
  refine gj_if_ne dX9_undo_4 (by omega) (fun h4 => ?_) (fun h4 => ?_)
  · refine gj_al0 dX9_undo_10 ?_
    refine gj_dupR dX9_undo_11 ?_
    refine gj_get dX9_undo_12 fX9_95 q32 rfl rfl ?_
    refine gj_iconst dX9_undo_15 ?_
    refine gj_isub dX9_undo_16 ?_
    refine gj_pI6 dX9_undo_17 fX9_95 q32 rfl ?_
    refine gj_al0 dX9_undo_20 ?_
    refine gj_get dX9_undo_21 fX9_95 upw_s rfl rfl ?_
    exact gj_iret dX9_undo_24 rfl (Or.inl ⟨h4, rfl, ⟨⟨_, _, _, _, _, _, _, _, _, _, _, _, _, _, _, _, _, _, _, _, upw_s, (upw_o (by decide) q33), (upw_o (by decide) q34), (upw_o (by decide) q35), (upw_o (by decide) q36), (upw_o (by decide) q37), (upw_o (by decide) q38), (upw_o (by decide) q39), (upw_o (by decide) q40), (upw_o (by decide) q41), (upw_o (by decide) q42), hse0, hse1, (upw_o (by decide) q43), (upw_o (by decide) q44), (upw_o (by decide) q45), (upw_o (by decide) q46), (upw_o (by decide) q47), (upw_o (by decide) q48), (upw_o (by decide) q49), hsg, hsh⟩, (fun k hk => upw_o (by omega) ((fun (k : Nat) (_ : k < 32) => rfl) k hk))⟩⟩)
  · refine gj_bipush dX9_undo_7 rfl ?_
    exact gj_iret dX9_undo_9 rfl (Or.inr ⟨by omega, rfl, rfl⟩)
set_option maxRecDepth 20000 in
set_option maxHeartbeats 4000000 in
theorem tX9_fault {l : Launch} {x : Cx} {d : Nat} {w : AW} {tx : Int → Int} {by0 : Int} {ru fa fe : Int → Int} {fc lw br me : Int} {mh ml mw : Int → Int} {mn fi : Int} {fm ln : Int → Int} {it : Int → Int → Int} (hd : 4 ≤ d) (hC : ModelC w tx by0 ru fa fe fc lw br me mh ml mw mn fi fm ln it) (hK : ParOK tx by0 ru fa fe fc lw br me mh ml mw mn fi fm ln it) : Mt l x iX9_fault d 0 0 50 w [vR 32] (Wr (vI (fltF tx by0)) (fun w2 => ModelC w2 tx by0 ru fa fe fc lw br me mh ml mw mn fi fm ln it ∧ ∀ k : Nat, k < 32 → w2 k = w k)) := by
  have hC0 := hC
  obtain ⟨a0, nr, le, bs, bl, bp, mo, sf, sz, im, mv, rd, se, fr, tr, sp, so, lu, bt, sg, q32, q33, q34, q35, q36, q37, q38, q39, q40, q41, q42, hse0, hse1, q43, q44, q45, q46, q47, q48, q49, hsg, hsh⟩ := hC
  obtain ⟨hT, hO, hbm, hMm, hSh⟩ := hK
  have t9 := hT.1
  have n9 := numF_R (tx := tx) hT.1
  have f9 := hO.2.2.1.1
  have m9 := hMm.1
  refine Mt.of (L0 := [some (vR 32)]) rfl rfl rfl ?_
  refine gj_al0 dX9_fault_0 ?_
  refine gj_cV0w dX9_fault_1 mX9_119 hX9_reads q32 rfl (by omega) rfl (tX9_reads  (by omega) q32 q37 q38 hT) (fun w1 P1 => ?_)
  obtain ⟨a1, r1, e32_1, e38_1, rt1, fr1⟩ := P1
  exact gj_iret dX9_fault_4 rfl (wr_i rfl ⟨⟨_, _, _, _, _, _, _, _, _, _, _, _, _, _, _, _, _, _, _, _, e32_1, ((fr1 33 (by decide)).trans q33), ((fr1 34 (by decide)).trans q34), ((fr1 35 (by decide)).trans q35), ((fr1 36 (by decide)).trans q36), ((fr1 37 (by decide)).trans q37), e38_1, ((fr1 39 (by decide)).trans q39), ((fr1 40 (by decide)).trans q40), ((fr1 41 (by decide)).trans q41), ((fr1 42 (by decide)).trans q42), hse0, hse1, ((fr1 43 (by decide)).trans q43), ((fr1 44 (by decide)).trans q44), ((fr1 45 (by decide)).trans q45), ((fr1 46 (by decide)).trans q46), ((fr1 47 (by decide)).trans q47), ((fr1 48 (by decide)).trans q48), ((fr1 49 (by decide)).trans q49), hsg, hsh⟩, (fun k hk => (fr1 k (by omega)).trans ((fun (k : Nat) (_ : k < 32) => rfl) k hk))⟩)
set_option maxRecDepth 20000 in
set_option maxHeartbeats 4000000 in
theorem tX9_road {l : Launch} {x : Cx} {d : Nat} {w : AW} {tx : Int → Int} {by0 : Int} {ru fa fe : Int → Int} {fc lw br me : Int} {mh ml mw : Int → Int} {mn fi : Int} {fm ln : Int → Int} {it : Int → Int → Int} {r k0 : Int} (hd : 4 ≤ d) (hC : ModelC w tx by0 ru fa fe fc lw br me mh ml mw mn fi fm ln it) (hK : ParOK tx by0 ru fa fe fc lw br me mh ml mw mn fi fm ln it) (hr : R32 r) (hk0 : R32 k0) : Mt l x iX9_road d 0 0 50 w [vR 32, vI r, vI k0] (Wr (vI (rdA tx by0 r k0)) (fun w2 => ModelC w2 tx by0 ru fa fe fc lw br me mh ml mw mn fi fm ln it ∧ ∀ k : Nat, k < 32 → w2 k = w k)) := by
  have hC0 := hC
  obtain ⟨a0, nr, le, bs, bl, bp, mo, sf, sz, im, mv, rd, se, fr, tr, sp, so, lu, bt, sg, q32, q33, q34, q35, q36, q37, q38, q39, q40, q41, q42, hse0, hse1, q43, q44, q45, q46, q47, q48, q49, hsg, hsh⟩ := hC
  obtain ⟨hT, hO, hbm, hMm, hSh⟩ := hK
  have t9 := hT.1
  have n9 := numF_R (tx := tx) hT.1
  have f9 := hO.2.2.1.1
  have m9 := hMm.1
  refine Mt.of (L0 := [some (vR 32), some (vI r), some (vI k0)]) rfl rfl rfl ?_
  refine gj_al0 dX9_road_0 ?_
  refine gj_cV0w dX9_road_1 mX9_119 hX9_reads q32 rfl (by omega) rfl (tX9_reads  (by omega) q32 q37 q38 hT) (fun w1 P1 => ?_)
  obtain ⟨a1, r1, e32_1, e38_1, rt1, fr1⟩ := P1
  refine gj_popI dX9_road_4 ?_
  refine gj_il1 dX9_road_5 ?_
  refine gj_i2l dX9_road_6 (by omega) ?_
  refine gj_lconst0 dX9_road_7 ?_
  refine gj_al0 dX9_road_8 ?_
  refine gj_get dX9_road_9 fX9_106 e32_1 rfl rfl ?_
  refine gj_iconst dX9_road_12 ?_
  refine gj_isub dX9_road_13 ?_
  refine gj_i2l dX9_road_14 (by omega) ?_
  refine gj_cS3r dX9_road_15 mX9_65 hX9_in (by omega) rfl (tX9_in  (by omega) (by omega) (by omega) (by omega)) ?_
  refine gj_ifB_eq dX9_road_18 (fun h18 => ?_) (fun h18 => ?_)
  · refine gj_bipush dX9_road_46 rfl ?_
    exact gj_iret dX9_road_48 rfl (wr_i (by unfold rdA; rw [if_neg (by omega)]) ⟨⟨_, _, _, _, _, _, _, _, _, _, _, _, _, _, _, _, _, _, _, _, e32_1, ((fr1 33 (by decide)).trans q33), ((fr1 34 (by decide)).trans q34), ((fr1 35 (by decide)).trans q35), ((fr1 36 (by decide)).trans q36), ((fr1 37 (by decide)).trans q37), e38_1, ((fr1 39 (by decide)).trans q39), ((fr1 40 (by decide)).trans q40), ((fr1 41 (by decide)).trans q41), ((fr1 42 (by decide)).trans q42), hse0, hse1, ((fr1 43 (by decide)).trans q43), ((fr1 44 (by decide)).trans q44), ((fr1 45 (by decide)).trans q45), ((fr1 46 (by decide)).trans q46), ((fr1 47 (by decide)).trans q47), ((fr1 48 (by decide)).trans q48), ((fr1 49 (by decide)).trans q49), hsg, hsh⟩, (fun k hk => (fr1 k (by omega)).trans ((fun (k : Nat) (_ : k < 32) => rfl) k hk))⟩)
  · refine gj_il2 dX9_road_21 ?_
    refine gj_i2l dX9_road_22 (by omega) ?_
    refine gj_lconst0 dX9_road_23 ?_
    refine gj_ldc2 dX9_road_24 kX9_78 ?_
    refine gj_cS3r dX9_road_27 mX9_65 hX9_in (by omega) rfl (tX9_in  (by omega) (by omega) (by omega) (by omega)) ?_
    refine gj_ifB_eq dX9_road_30 (fun h30 => ?_) (fun h30 => ?_)
    · refine gj_bipush dX9_road_46 rfl ?_
      exact gj_iret dX9_road_48 rfl (wr_i (by unfold rdA; rw [if_neg (by omega)]) ⟨⟨_, _, _, _, _, _, _, _, _, _, _, _, _, _, _, _, _, _, _, _, e32_1, ((fr1 33 (by decide)).trans q33), ((fr1 34 (by decide)).trans q34), ((fr1 35 (by decide)).trans q35), ((fr1 36 (by decide)).trans q36), ((fr1 37 (by decide)).trans q37), e38_1, ((fr1 39 (by decide)).trans q39), ((fr1 40 (by decide)).trans q40), ((fr1 41 (by decide)).trans q41), ((fr1 42 (by decide)).trans q42), hse0, hse1, ((fr1 43 (by decide)).trans q43), ((fr1 44 (by decide)).trans q44), ((fr1 45 (by decide)).trans q45), ((fr1 46 (by decide)).trans q46), ((fr1 47 (by decide)).trans q47), ((fr1 48 (by decide)).trans q48), ((fr1 49 (by decide)).trans q49), hsg, hsh⟩, (fun k hk => (fr1 k (by omega)).trans ((fun (k : Nat) (_ : k < 32) => rfl) k hk))⟩)
    · refine gj_al0 dX9_road_33 ?_
      refine gj_get dX9_road_34 fX9_25 e32_1 rfl rfl ?_
      refine gj_iconst dX9_road_37 ?_
      refine gj_il1 dX9_road_38 ?_
      refine gj_imul dX9_road_39 ?_
      refine gj_il2 dX9_road_40 ?_
      refine gj_iadd dX9_road_41 ?_
      refine gj_iald dX9_road_42 e38_1 rfl rfl (by omega) ?_
      refine gj_goto dX9_road_43 ?_
      exact gj_iret dX9_road_48 rfl (wr_i (by
                  have v9 := rt1 r (by omega) (by omega)
                  unfold rdA
                  rw [if_pos (show (0 ≤ r ∧ r ≤ numF tx by0 - 1) ∧ (0 ≤ k0 ∧ k0 ≤ 2) by omega)]
                  rcases (show k0 = 0 ∨ k0 = 1 ∨ k0 = 2 by omega) with e | e | e <;> subst e
                  · rw [if_neg (by omega), if_pos rfl, Int.add_zero]; exact v9.1
                  · rw [if_neg (by omega), if_neg (by omega)]; exact v9.2.1
                  · rw [if_pos rfl]; exact v9.2.2) ⟨⟨_, _, _, _, _, _, _, _, _, _, _, _, _, _, _, _, _, _, _, _, e32_1, ((fr1 33 (by decide)).trans q33), ((fr1 34 (by decide)).trans q34), ((fr1 35 (by decide)).trans q35), ((fr1 36 (by decide)).trans q36), ((fr1 37 (by decide)).trans q37), e38_1, ((fr1 39 (by decide)).trans q39), ((fr1 40 (by decide)).trans q40), ((fr1 41 (by decide)).trans q41), ((fr1 42 (by decide)).trans q42), hse0, hse1, ((fr1 43 (by decide)).trans q43), ((fr1 44 (by decide)).trans q44), ((fr1 45 (by decide)).trans q45), ((fr1 46 (by decide)).trans q46), ((fr1 47 (by decide)).trans q47), ((fr1 48 (by decide)).trans q48), ((fr1 49 (by decide)).trans q49), hsg, hsh⟩, (fun k hk => (fr1 k (by omega)).trans ((fun (k : Nat) (_ : k < 32) => rfl) k hk))⟩)
set_option maxRecDepth 20000 in
set_option maxHeartbeats 4000000 in
theorem tX9_land {l : Launch} {x : Cx} {d : Nat} {w : AW} {tx : Int → Int} {by0 : Int} {ru fa fe : Int → Int} {fc lw br me : Int} {mh ml mw : Int → Int} {mn fi : Int} {fm ln : Int → Int} {it : Int → Int → Int} {l0 k0 v : Int} (hd : 2 ≤ d) (hC : ModelC w tx by0 ru fa fe fc lw br me mh ml mw mn fi fm ln it) (hK : ParOK tx by0 ru fa fe fc lw br me mh ml mw mn fi fm ln it) (hl0 : R32 l0) (hk0 : R32 k0) (hv : R32 v) : Mt l x iX9_land d 0 0 50 w [vR 32, vI l0, vI k0, vI v] (fun v2 w2 => (((0 ≤ l0 ∧ l0 ≤ 7) ∧ (0 ≤ v ∧ v ≤ mosF k0)) ∧ v2 = some (vI (fa (3 * l0 + k0))) ∧ ModelC w2 tx by0 ru (upf fa (3 * l0 + k0) v) fe fc lw br me mh ml mw mn fi fm ln it ∧ ∀ k : Nat, k < 32 → w2 k = w k) ∨ (¬ ((0 ≤ l0 ∧ l0 ≤ 7) ∧ (0 ≤ v ∧ v ≤ mosF k0)) ∧ v2 = some (vI (-2)) ∧ w2 = w)) := by
  have hC0 := hC
  obtain ⟨a0, nr, le, bs, bl, bp, mo, sf, sz, im, mv, rd, se, fr, tr, sp, so, lu, bt, sg, q32, q33, q34, q35, q36, q37, q38, q39, q40, q41, q42, hse0, hse1, q43, q44, q45, q46, q47, q48, q49, hsg, hsh⟩ := hC
  obtain ⟨hT, hO, hbm, hMm, hSh⟩ := hK
  have t9 := hT.1
  have n9 := numF_R (tx := tx) hT.1
  have f9 := hO.2.2.1.1
  have m9 := hMm.1
  have k9 := mos_all k0
  refine Mt.of (L0 := [some (vR 32), some (vI l0), some (vI k0), some (vI v), none]) rfl rfl rfl ?_
  refine gj_il1 dX9_land_0 ?_
  refine gj_cS1r dX9_land_1 mX9_127 hX9_isLand (by omega) rfl (tX9_isLand  (by omega) (by omega)) ?_
  refine gj_ifB_eq dX9_land_4 (fun h4 => ?_) (fun h4 => ?_)
  · refine gj_bipush dX9_land_50 rfl ?_
    exact gj_iret dX9_land_52 rfl (Or.inr ⟨by omega, rfl, rfl⟩)
  · refine gj_il2 dX9_land_7 ?_
    refine gj_i2l dX9_land_8 (by omega) ?_
    refine gj_lconst0 dX9_land_9 ?_
    refine gj_ldc2 dX9_land_10 kX9_78 ?_
    refine gj_cS3r dX9_land_13 mX9_65 hX9_in (by omega) rfl (tX9_in  (by omega) (by omega) (by omega) (by omega)) ?_
    refine gj_ifB_eq dX9_land_16 (fun h16 => ?_) (fun h16 => ?_)
    · refine gj_bipush dX9_land_50 rfl ?_
      exact gj_iret dX9_land_52 rfl (Or.inr ⟨by omega, rfl, rfl⟩)
    · refine gj_il3 dX9_land_19 ?_
      refine gj_i2l dX9_land_20 (by omega) ?_
      refine gj_lconst0 dX9_land_21 ?_
      refine gj_il2 dX9_land_22 ?_
      refine gj_if_ne dX9_land_23 (by omega) (fun h23 => ?_) (fun h23 => ?_)
      · refine gj_il2 dX9_land_32 ?_
        refine gj_iconst dX9_land_33 ?_
        refine gj_icmp_ne dX9_land_34 (by omega) (fun h34 => ?_) (fun h34 => ?_)
        · refine gj_ldc2 dX9_land_41 kX9_130 ?_
          refine gj_cS3r dX9_land_44 mX9_65 hX9_in (by omega) rfl (tX9_in  (by omega) (by omega) (by omega) (by omega)) ?_
          refine gj_ifB_ne dX9_land_47 (fun h47 => ?_) (fun h47 => ?_)
          · refine gj_al0 dX9_land_53 ?_
            refine gj_get dX9_land_54 fX9_28 q32 rfl rfl ?_
            refine gj_iconst dX9_land_57 ?_
            refine gj_il1 dX9_land_58 ?_
            refine gj_imul dX9_land_59 ?_
            refine gj_il2 dX9_land_60 ?_
            refine gj_iadd dX9_land_61 ?_
            refine gj_iald dX9_land_62 q39 rfl rfl (by omega) ?_
            refine gj_is4 dX9_land_63 rfl rfl ?_
            refine gj_al0 dX9_land_65 ?_
            refine gj_get dX9_land_66 fX9_28 q32 rfl rfl ?_
            refine gj_iconst dX9_land_69 ?_
            refine gj_il1 dX9_land_70 ?_
            refine gj_imul dX9_land_71 ?_
            refine gj_il2 dX9_land_72 ?_
            refine gj_iadd dX9_land_73 ?_
            refine gj_il3 dX9_land_74 ?_
            refine gj_iast dX9_land_75 q39 rfl rfl (by omega) ?_
            refine gj_il4 dX9_land_76 ?_
            exact gj_iret dX9_land_78 rfl (Or.inl ⟨by omega, rfl, ⟨⟨_, _, _, _, _, _, _, _, _, _, _, _, _, _, _, _, _, _, _, _, (upw_o (by decide) q32), (upw_o (by decide) q33), (upw_o (by decide) q34), (upw_o (by decide) q35), (upw_o (by decide) q36), (upw_o (by decide) q37), (upw_o (by decide) q38), upw_s, (upw_o (by decide) q40), (upw_o (by decide) q41), (upw_o (by decide) q42), hse0, hse1, (upw_o (by decide) q43), (upw_o (by decide) q44), (upw_o (by decide) q45), (upw_o (by decide) q46), (upw_o (by decide) q47), (upw_o (by decide) q48), (upw_o (by decide) q49), hsg, hsh⟩, (fun k hk => upw_o (by omega) ((fun (k : Nat) (_ : k < 32) => rfl) k hk))⟩⟩)
          · refine gj_bipush dX9_land_50 rfl ?_
            exact gj_iret dX9_land_52 rfl (Or.inr ⟨by omega, rfl, rfl⟩)
        · refine gj_lconst1 dX9_land_37 ?_
          refine gj_goto dX9_land_38 ?_
          refine gj_cS3r dX9_land_44 mX9_65 hX9_in (by omega) rfl (tX9_in  (by omega) (by omega) (by omega) (by omega)) ?_
          refine gj_ifB_ne dX9_land_47 (fun h47 => ?_) (fun h47 => ?_)
          · refine gj_al0 dX9_land_53 ?_
            refine gj_get dX9_land_54 fX9_28 q32 rfl rfl ?_
            refine gj_iconst dX9_land_57 ?_
            refine gj_il1 dX9_land_58 ?_
            refine gj_imul dX9_land_59 ?_
            refine gj_il2 dX9_land_60 ?_
            refine gj_iadd dX9_land_61 ?_
            refine gj_iald dX9_land_62 q39 rfl rfl (by omega) ?_
            refine gj_is4 dX9_land_63 rfl rfl ?_
            refine gj_al0 dX9_land_65 ?_
            refine gj_get dX9_land_66 fX9_28 q32 rfl rfl ?_
            refine gj_iconst dX9_land_69 ?_
            refine gj_il1 dX9_land_70 ?_
            refine gj_imul dX9_land_71 ?_
            refine gj_il2 dX9_land_72 ?_
            refine gj_iadd dX9_land_73 ?_
            refine gj_il3 dX9_land_74 ?_
            refine gj_iast dX9_land_75 q39 rfl rfl (by omega) ?_
            refine gj_il4 dX9_land_76 ?_
            exact gj_iret dX9_land_78 rfl (Or.inl ⟨by omega, rfl, ⟨⟨_, _, _, _, _, _, _, _, _, _, _, _, _, _, _, _, _, _, _, _, (upw_o (by decide) q32), (upw_o (by decide) q33), (upw_o (by decide) q34), (upw_o (by decide) q35), (upw_o (by decide) q36), (upw_o (by decide) q37), (upw_o (by decide) q38), upw_s, (upw_o (by decide) q40), (upw_o (by decide) q41), (upw_o (by decide) q42), hse0, hse1, (upw_o (by decide) q43), (upw_o (by decide) q44), (upw_o (by decide) q45), (upw_o (by decide) q46), (upw_o (by decide) q47), (upw_o (by decide) q48), (upw_o (by decide) q49), hsg, hsh⟩, (fun k hk => upw_o (by omega) ((fun (k : Nat) (_ : k < 32) => rfl) k hk))⟩⟩)
          · refine gj_bipush dX9_land_50 rfl ?_
            exact gj_iret dX9_land_52 rfl (Or.inr ⟨by omega, rfl, rfl⟩)
      · refine gj_ldc2 dX9_land_26 kX9_72 ?_
        refine gj_goto dX9_land_29 ?_
        refine gj_cS3r dX9_land_44 mX9_65 hX9_in (by omega) rfl (tX9_in  (by omega) (by omega) (by omega) (by omega)) ?_
        refine gj_ifB_ne dX9_land_47 (fun h47 => ?_) (fun h47 => ?_)
        · refine gj_al0 dX9_land_53 ?_
          refine gj_get dX9_land_54 fX9_28 q32 rfl rfl ?_
          refine gj_iconst dX9_land_57 ?_
          refine gj_il1 dX9_land_58 ?_
          refine gj_imul dX9_land_59 ?_
          refine gj_il2 dX9_land_60 ?_
          refine gj_iadd dX9_land_61 ?_
          refine gj_iald dX9_land_62 q39 rfl rfl (by omega) ?_
          refine gj_is4 dX9_land_63 rfl rfl ?_
          refine gj_al0 dX9_land_65 ?_
          refine gj_get dX9_land_66 fX9_28 q32 rfl rfl ?_
          refine gj_iconst dX9_land_69 ?_
          refine gj_il1 dX9_land_70 ?_
          refine gj_imul dX9_land_71 ?_
          refine gj_il2 dX9_land_72 ?_
          refine gj_iadd dX9_land_73 ?_
          refine gj_il3 dX9_land_74 ?_
          refine gj_iast dX9_land_75 q39 rfl rfl (by omega) ?_
          refine gj_il4 dX9_land_76 ?_
          exact gj_iret dX9_land_78 rfl (Or.inl ⟨by omega, rfl, ⟨⟨_, _, _, _, _, _, _, _, _, _, _, _, _, _, _, _, _, _, _, _, (upw_o (by decide) q32), (upw_o (by decide) q33), (upw_o (by decide) q34), (upw_o (by decide) q35), (upw_o (by decide) q36), (upw_o (by decide) q37), (upw_o (by decide) q38), upw_s, (upw_o (by decide) q40), (upw_o (by decide) q41), (upw_o (by decide) q42), hse0, hse1, (upw_o (by decide) q43), (upw_o (by decide) q44), (upw_o (by decide) q45), (upw_o (by decide) q46), (upw_o (by decide) q47), (upw_o (by decide) q48), (upw_o (by decide) q49), hsg, hsh⟩, (fun k hk => upw_o (by omega) ((fun (k : Nat) (_ : k < 32) => rfl) k hk))⟩⟩)
        · refine gj_bipush dX9_land_50 rfl ?_
          exact gj_iret dX9_land_52 rfl (Or.inr ⟨by omega, rfl, rfl⟩)
set_option maxRecDepth 20000 in
set_option maxHeartbeats 4000000 in
theorem tX9_bell {l : Launch} {x : Cx} {d : Nat} {w : AW} {tx : Int → Int} {by0 : Int} {ru fa fe : Int → Int} {fc lw br me : Int} {mh ml mw : Int → Int} {mn fi : Int} {fm ln : Int → Int} {it : Int → Int → Int} {p k0 v : Int} (hd : 2 ≤ d) (hC : ModelC w tx by0 ru fa fe fc lw br me mh ml mw mn fi fm ln it) (hK : ParOK tx by0 ru fa fe fc lw br me mh ml mw mn fi fm ln it) (hp : R32 p) (hk0 : R32 k0) (hv : R32 v) : Mt l x iX9_bell d 0 0 50 w [vR 32, vI p, vI k0, vI v] (fun v2 w2 => (((0 ≤ p ∧ p ≤ 3) ∧ (0 ≤ k0 ∧ k0 ≤ 1) ∧ (0 ≤ v ∧ v ≤ 23)) ∧ v2 = some (vI (ru (2 * p + k0))) ∧ ModelC w2 tx by0 (upf ru (2 * p + k0) v) fa fe fc lw br me mh ml mw mn fi fm ln it ∧ ∀ k : Nat, k < 32 → w2 k = w k) ∨ (¬ ((0 ≤ p ∧ p ≤ 3) ∧ (0 ≤ k0 ∧ k0 ≤ 1) ∧ (0 ≤ v ∧ v ≤ 23)) ∧ v2 = some (vI (-2)) ∧ w2 = w)) := by
  have hC0 := hC
  obtain ⟨a0, nr, le, bs, bl, bp, mo, sf, sz, im, mv, rd, se, fr, tr, sp, so, lu, bt, sg, q32, q33, q34, q35, q36, q37, q38, q39, q40, q41, q42, hse0, hse1, q43, q44, q45, q46, q47, q48, q49, hsg, hsh⟩ := hC
  obtain ⟨hT, hO, hbm, hMm, hSh⟩ := hK
  have t9 := hT.1
  have n9 := numF_R (tx := tx) hT.1
  have f9 := hO.2.2.1.1
  have m9 := hMm.1
  refine Mt.of (L0 := [some (vR 32), some (vI p), some (vI k0), some (vI v), none]) rfl rfl rfl ?_
  refine gj_il1 dX9_bell_0 ?_
  refine gj_cS1r dX9_bell_1 mX9_132 hX9_isParish (by omega) rfl (tX9_isParish  (by omega) (by omega)) ?_
  refine gj_ifB_eq dX9_bell_4 (fun h4 => ?_) (fun h4 => ?_)
  · refine gj_bipush dX9_bell_26 rfl ?_
    exact gj_iret dX9_bell_28 rfl (Or.inr ⟨by omega, rfl, rfl⟩)
  · refine gj_il2 dX9_bell_7 ?_
    refine gj_cS1r dX9_bell_8 mX9_135 hX9_isTwo (by omega) rfl (tX9_isTwo  (by omega) (by omega)) ?_
    refine gj_ifB_eq dX9_bell_11 (fun h11 => ?_) (fun h11 => ?_)
    · refine gj_bipush dX9_bell_26 rfl ?_
      exact gj_iret dX9_bell_28 rfl (Or.inr ⟨by omega, rfl, rfl⟩)
    · refine gj_il3 dX9_bell_14 ?_
      refine gj_i2l dX9_bell_15 (by omega) ?_
      refine gj_lconst0 dX9_bell_16 ?_
      refine gj_ldc2 dX9_bell_17 kX9_138 ?_
      refine gj_cS3r dX9_bell_20 mX9_65 hX9_in (by omega) rfl (tX9_in  (by omega) (by omega) (by omega) (by omega)) ?_
      refine gj_ifB_ne dX9_bell_23 (fun h23 => ?_) (fun h23 => ?_)
      · refine gj_al0 dX9_bell_29 ?_
        refine gj_get dX9_bell_30 fX9_31 q32 rfl rfl ?_
        refine gj_iconst dX9_bell_33 ?_
        refine gj_il1 dX9_bell_34 ?_
        refine gj_imul dX9_bell_35 ?_
        refine gj_il2 dX9_bell_36 ?_
        refine gj_iadd dX9_bell_37 ?_
        refine gj_iald dX9_bell_38 q40 rfl rfl (by omega) ?_
        refine gj_is4 dX9_bell_39 rfl rfl ?_
        refine gj_al0 dX9_bell_41 ?_
        refine gj_get dX9_bell_42 fX9_31 q32 rfl rfl ?_
        refine gj_iconst dX9_bell_45 ?_
        refine gj_il1 dX9_bell_46 ?_
        refine gj_imul dX9_bell_47 ?_
        refine gj_il2 dX9_bell_48 ?_
        refine gj_iadd dX9_bell_49 ?_
        refine gj_il3 dX9_bell_50 ?_
        refine gj_iast dX9_bell_51 q40 rfl rfl (by omega) ?_
        refine gj_il4 dX9_bell_52 ?_
        exact gj_iret dX9_bell_54 rfl (Or.inl ⟨by omega, rfl, ⟨⟨_, _, _, _, _, _, _, _, _, _, _, _, _, _, _, _, _, _, _, _, (upw_o (by decide) q32), (upw_o (by decide) q33), (upw_o (by decide) q34), (upw_o (by decide) q35), (upw_o (by decide) q36), (upw_o (by decide) q37), (upw_o (by decide) q38), (upw_o (by decide) q39), upw_s, (upw_o (by decide) q41), (upw_o (by decide) q42), hse0, hse1, (upw_o (by decide) q43), (upw_o (by decide) q44), (upw_o (by decide) q45), (upw_o (by decide) q46), (upw_o (by decide) q47), (upw_o (by decide) q48), (upw_o (by decide) q49), hsg, hsh⟩, (fun k hk => upw_o (by omega) ((fun (k : Nat) (_ : k < 32) => rfl) k hk))⟩⟩)
      · refine gj_bipush dX9_bell_26 rfl ?_
        exact gj_iret dX9_bell_28 rfl (Or.inr ⟨by omega, rfl, rfl⟩)
set_option maxRecDepth 20000 in
set_option maxHeartbeats 4000000 in
theorem tX9_feast {l : Launch} {x : Cx} {d : Nat} {w : AW} {tx : Int → Int} {by0 : Int} {ru fa fe : Int → Int} {fc lw br me : Int} {mh ml mw : Int → Int} {mn fi : Int} {fm ln : Int → Int} {it : Int → Int → Int} {v : Int} (hd : 1 ≤ d) (hC : ModelC w tx by0 ru fa fe fc lw br me mh ml mw mn fi fm ln it) (hK : ParOK tx by0 ru fa fe fc lw br me mh ml mw mn fi fm ln it) (hv : R32 v) : Mt l x iX9_feast d 0 0 50 w [vR 32, vI v] (fun v2 w2 => ((0 ≤ v ∧ v ≤ 27) ∧ fc < 8 ∧ v2 = some (vI (fc + 1)) ∧ ModelC w2 tx by0 ru fa (upf fe fc v) (fc + 1) lw br me mh ml mw mn fi fm ln it ∧ ∀ k : Nat, k < 32 → w2 k = w k) ∨ ((0 ≤ v ∧ v ≤ 27) ∧ ¬ fc < 8 ∧ v2 = some (vI (-4)) ∧ w2 = w) ∨ (¬ (0 ≤ v ∧ v ≤ 27) ∧ v2 = some (vI (-2)) ∧ w2 = w)) := by
  have hC0 := hC
  obtain ⟨a0, nr, le, bs, bl, bp, mo, sf, sz, im, mv, rd, se, fr, tr, sp, so, lu, bt, sg, q32, q33, q34, q35, q36, q37, q38, q39, q40, q41, q42, hse0, hse1, q43, q44, q45, q46, q47, q48, q49, hsg, hsh⟩ := hC
  obtain ⟨hT, hO, hbm, hMm, hSh⟩ := hK
  have t9 := hT.1
  have n9 := numF_R (tx := tx) hT.1
  have f9 := hO.2.2.1.1
  have m9 := hMm.1
  refine Mt.of (L0 := [some (vR 32), some (vI v)]) rfl rfl rfl ?_
  refine gj_il1 dX9_feast_0 ?_
  refine gj_i2l dX9_feast_1 (by omega) ?_
  refine gj_lconst0 dX9_feast_2 ?_
  refine gj_ldc2 dX9_feast_3 kX9_146 ?_
  refine gj_cS3r dX9_feast_6 mX9_65 hX9_in (by omega) rfl (tX9_in  (by omega) (by omega) (by omega) (by omega)) ?_
  refine gj_ifB_ne dX9_feast_9 (fun h9 => ?_) (fun h9 => ?_)
  · refine gj_al0 dX9_feast_15 ?_
    refine gj_get dX9_feast_16 fX9_148 q32 rfl rfl ?_
    refine gj_bipush dX9_feast_19 rfl ?_
    refine gj_icmp_ne dX9_feast_21 (by omega) (fun h21 => ?_) (fun h21 => ?_)
    · refine gj_al0 dX9_feast_27 ?_
      refine gj_get dX9_feast_28 fX9_34 q32 rfl rfl ?_
      refine gj_al0 dX9_feast_31 ?_
      refine gj_get dX9_feast_32 fX9_148 q32 rfl rfl ?_
      refine gj_il1 dX9_feast_35 ?_
      refine gj_iast dX9_feast_36 q41 rfl rfl (by omega) ?_
      refine gj_al0 dX9_feast_37 ?_
      refine gj_dupR dX9_feast_38 ?_
      refine gj_get dX9_feast_39 fX9_148 (upw_o (by decide) q32) rfl rfl ?_
      refine gj_iconst dX9_feast_42 ?_
      refine gj_iadd dX9_feast_43 ?_
      refine gj_pI12 dX9_feast_44 fX9_148 (upw_o (by decide) q32) rfl ?_
      refine gj_al0 dX9_feast_47 ?_
      refine gj_get dX9_feast_48 fX9_148 upw_s rfl rfl ?_
      exact gj_iret dX9_feast_51 rfl (Or.inl ⟨h9, by omega, rfl, ⟨⟨_, _, _, _, _, _, _, _, _, _, _, _, _, _, _, _, _, _, _, _, upw_s, (upw_o (by decide) (upw_o (by decide) q33)), (upw_o (by decide) (upw_o (by decide) q34)), (upw_o (by decide) (upw_o (by decide) q35)), (upw_o (by decide) (upw_o (by decide) q36)), (upw_o (by decide) (upw_o (by decide) q37)), (upw_o (by decide) (upw_o (by decide) q38)), (upw_o (by decide) (upw_o (by decide) q39)), (upw_o (by decide) (upw_o (by decide) q40)), (upw_o (by decide) upw_s), (upw_o (by decide) (upw_o (by decide) q42)), hse0, hse1, (upw_o (by decide) (upw_o (by decide) q43)), (upw_o (by decide) (upw_o (by decide) q44)), (upw_o (by decide) (upw_o (by decide) q45)), (upw_o (by decide) (upw_o (by decide) q46)), (upw_o (by decide) (upw_o (by decide) q47)), (upw_o (by decide) (upw_o (by decide) q48)), (upw_o (by decide) (upw_o (by decide) q49)), hsg, hsh⟩, (fun k hk => upw_o (by omega) ((fun k hk => upw_o (by omega) ((fun (k : Nat) (_ : k < 32) => rfl) k hk)) k hk))⟩⟩)
    · refine gj_bipush dX9_feast_24 rfl ?_
      exact gj_iret dX9_feast_26 rfl (Or.inr (Or.inl ⟨h9, by omega, rfl, rfl⟩))
  · refine gj_bipush dX9_feast_12 rfl ?_
    exact gj_iret dX9_feast_14 rfl (Or.inr (Or.inr ⟨h9, rfl, rfl⟩))
set_option maxRecDepth 20000 in
set_option maxHeartbeats 4000000 in
theorem tX9_back {l : Launch} {x : Cx} {d : Nat} {w : AW} {tx : Int → Int} {by0 : Int} {ru fa fe : Int → Int} {fc lw br me : Int} {mh ml mw : Int → Int} {mn fi : Int} {fm ln : Int → Int} {it : Int → Int → Int} (hd : 0 ≤ d) (hC : ModelC w tx by0 ru fa fe fc lw br me mh ml mw mn fi fm ln it) (hK : ParOK tx by0 ru fa fe fc lw br me mh ml mw mn fi fm ln it) : Mt l x iX9_back d 0 0 50 w [vR 32] (fun v2 w2 => (fc ≠ 0 ∧ v2 = some (vI (fc - 1)) ∧ ModelC w2 tx by0 ru fa fe (fc - 1) lw br me mh ml mw mn fi fm ln it ∧ ∀ k : Nat, k < 32 → w2 k = w k) ∨ (fc = 0 ∧ v2 = some (vI (-3)) ∧ w2 = w)) := by
  have hC0 := hC
  obtain ⟨a0, nr, le, bs, bl, bp, mo, sf, sz, im, mv, rd, se, fr, tr, sp, so, lu, bt, sg, q32, q33, q34, q35, q36, q37, q38, q39, q40, q41, q42, hse0, hse1, q43, q44, q45, q46, q47, q48, q49, hsg, hsh⟩ := hC
  obtain ⟨hT, hO, hbm, hMm, hSh⟩ := hK
  have t9 := hT.1
  have n9 := numF_R (tx := tx) hT.1
  have f9 := hO.2.2.1.1
  have m9 := hMm.1
  refine Mt.of (L0 := [some (vR 32)]) rfl rfl rfl ?_
  refine gj_al0 dX9_back_0 ?_
  refine gj_get dX9_back_1 fX9_148 q32 rfl rfl ?_
  refine gj_if_ne dX9_back_4 (by omega) (fun h4 => ?_) (fun h4 => ?_)
  · refine gj_al0 dX9_back_10 ?_
    refine gj_dupR dX9_back_11 ?_
    refine gj_get dX9_back_12 fX9_148 q32 rfl rfl ?_
    refine gj_iconst dX9_back_15 ?_
    refine gj_isub dX9_back_16 ?_
    refine gj_pI12 dX9_back_17 fX9_148 q32 rfl ?_
    refine gj_al0 dX9_back_20 ?_
    refine gj_get dX9_back_21 fX9_148 upw_s rfl rfl ?_
    exact gj_iret dX9_back_24 rfl (Or.inl ⟨h4, rfl, ⟨⟨_, _, _, _, _, _, _, _, _, _, _, _, _, _, _, _, _, _, _, _, upw_s, (upw_o (by decide) q33), (upw_o (by decide) q34), (upw_o (by decide) q35), (upw_o (by decide) q36), (upw_o (by decide) q37), (upw_o (by decide) q38), (upw_o (by decide) q39), (upw_o (by decide) q40), (upw_o (by decide) q41), (upw_o (by decide) q42), hse0, hse1, (upw_o (by decide) q43), (upw_o (by decide) q44), (upw_o (by decide) q45), (upw_o (by decide) q46), (upw_o (by decide) q47), (upw_o (by decide) q48), (upw_o (by decide) q49), hsg, hsh⟩, (fun k hk => upw_o (by omega) ((fun (k : Nat) (_ : k < 32) => rfl) k hk))⟩⟩)
  · refine gj_bipush dX9_back_7 rfl ?_
    exact gj_iret dX9_back_9 rfl (Or.inr ⟨by omega, rfl, rfl⟩)
set_option maxRecDepth 20000 in
set_option maxHeartbeats 4000000 in
theorem tX9_lent {l : Launch} {x : Cx} {d : Nat} {w : AW} {tx : Int → Int} {by0 : Int} {ru fa fe : Int → Int} {fc lw br me : Int} {mh ml mw : Int → Int} {mn fi : Int} {fm ln : Int → Int} {it : Int → Int → Int} {v : Int} (hd : 1 ≤ d) (hC : ModelC w tx by0 ru fa fe fc lw br me mh ml mw mn fi fm ln it) (hK : ParOK tx by0 ru fa fe fc lw br me mh ml mw mn fi fm ln it) (hv : R32 v) : Mt l x iX9_lent d 0 0 50 w [vR 32, vI v] (fun v2 w2 => ((0 ≤ v ∧ v ≤ 15) ∧ v2 = some (vI (lw)) ∧ ModelC w2 tx by0 ru fa fe fc v br me mh ml mw mn fi fm ln it ∧ ∀ k : Nat, k < 32 → w2 k = w k) ∨ (¬ (0 ≤ v ∧ v ≤ 15) ∧ v2 = some (vI (-2)) ∧ w2 = w)) := by
  have hC0 := hC
  obtain ⟨a0, nr, le, bs, bl, bp, mo, sf, sz, im, mv, rd, se, fr, tr, sp, so, lu, bt, sg, q32, q33, q34, q35, q36, q37, q38, q39, q40, q41, q42, hse0, hse1, q43, q44, q45, q46, q47, q48, q49, hsg, hsh⟩ := hC
  obtain ⟨hT, hO, hbm, hMm, hSh⟩ := hK
  have t9 := hT.1
  have n9 := numF_R (tx := tx) hT.1
  have f9 := hO.2.2.1.1
  have m9 := hMm.1
  refine Mt.of (L0 := [some (vR 32), some (vI v), none]) rfl rfl rfl ?_
  refine gj_il1 dX9_lent_0 ?_
  refine gj_i2l dX9_lent_1 (by omega) ?_
  refine gj_lconst0 dX9_lent_2 ?_
  refine gj_ldc2 dX9_lent_3 kX9_151 ?_
  refine gj_cS3r dX9_lent_6 mX9_65 hX9_in (by omega) rfl (tX9_in  (by omega) (by omega) (by omega) (by omega)) ?_
  refine gj_ifB_ne dX9_lent_9 (fun h9 => ?_) (fun h9 => ?_)
  · refine gj_al0 dX9_lent_15 ?_
    refine gj_get dX9_lent_16 fX9_153 q32 rfl rfl ?_
    refine gj_is2 dX9_lent_19 rfl rfl ?_
    refine gj_al0 dX9_lent_20 ?_
    refine gj_il1 dX9_lent_21 ?_
    refine gj_pI14 dX9_lent_22 fX9_153 q32 rfl ?_
    refine gj_il2 dX9_lent_25 ?_
    exact gj_iret dX9_lent_26 rfl (Or.inl ⟨h9, rfl, ⟨⟨_, _, _, _, _, _, _, _, _, _, _, _, _, _, _, _, _, _, _, _, upw_s, (upw_o (by decide) q33), (upw_o (by decide) q34), (upw_o (by decide) q35), (upw_o (by decide) q36), (upw_o (by decide) q37), (upw_o (by decide) q38), (upw_o (by decide) q39), (upw_o (by decide) q40), (upw_o (by decide) q41), (upw_o (by decide) q42), hse0, hse1, (upw_o (by decide) q43), (upw_o (by decide) q44), (upw_o (by decide) q45), (upw_o (by decide) q46), (upw_o (by decide) q47), (upw_o (by decide) q48), (upw_o (by decide) q49), hsg, hsh⟩, (fun k hk => upw_o (by omega) ((fun (k : Nat) (_ : k < 32) => rfl) k hk))⟩⟩)
  · refine gj_bipush dX9_lent_12 rfl ?_
    exact gj_iret dX9_lent_14 rfl (Or.inr ⟨h9, rfl, rfl⟩)
theorem pX9_war {l : Launch} {x : Cx} {d : Nat} {w : AW} {tx : Int → Int} {by0 : Int} {ru fa fe : Int → Int} {fc lw br me : Int} {mh ml mw : Int → Int} {mn fi : Int} {fm ln : Int → Int} {it : Int → Int → Int} {h l0 : Int} (hd : 3 ≤ d) (hC : ModelC w tx by0 ru fa fe fc lw br me mh ml mw mn fi fm ln it) (hK : ParOK tx by0 ru fa fe fc lw br me mh ml mw mn fi fm ln it) (hh : R32 h) (hl0 : R32 l0) : Mt l x iX9_war d 0 0 50 w [vR 32, vI h, vI l0] (Rd (vI (warA (warB lw fa ru fe fc) h l0)) w) := by
  obtain ⟨a0, nr, le, bs, bl, bp, mo, sf, sz, im, mv, rd, se, fr, tr, sp, so, lu, bt, sg, q32, q33, q34, q35, q36, q37, q38, q39, q40, q41, q42, hse0, hse1, q43, q44, q45, q46, q47, q48, q49, hsg, hsh⟩ := hC
  obtain ⟨hT, hO, hbm, hMm, hSh⟩ := hK
  exact tX9_war hd ⟨⟨_, _, _, _, _, _, _, _, _, _, q32⟩, q39, q40, q41⟩ hO hh hl0
theorem pX9_strikes {l : Launch} {x : Cx} {d : Nat} {w : AW} {tx : Int → Int} {by0 : Int} {ru fa fe : Int → Int} {fc lw br me : Int} {mh ml mw : Int → Int} {mn fi : Int} {fm ln : Int → Int} {it : Int → Int → Int} {h l0 a b : Int} (hd : 4 ≤ d) (hC : ModelC w tx by0 ru fa fe fc lw br me mh ml mw mn fi fm ln it) (hK : ParOK tx by0 ru fa fe fc lw br me mh ml mw mn fi fm ln it) (hh : R32 h) (hl0 : R32 l0) (ha : R32 a) (hb : R32 b) : Mt l x iX9_strikes d 0 0 50 w [vR 32, vI h, vI l0, vI a, vI b] (Rd (vI (strA (warB lw fa ru fe fc) h l0 a b)) w) := by
  obtain ⟨a0, nr, le, bs, bl, bp, mo, sf, sz, im, mv, rd, se, fr, tr, sp, so, lu, bt, sg, q32, q33, q34, q35, q36, q37, q38, q39, q40, q41, q42, hse0, hse1, q43, q44, q45, q46, q47, q48, q49, hsg, hsh⟩ := hC
  obtain ⟨hT, hO, hbm, hMm, hSh⟩ := hK
  exact tX9_strikes hd ⟨⟨_, _, _, _, _, _, _, _, _, _, q32⟩, q39, q40, q41⟩ hO hh hl0 ha hb
theorem pX9_next {l : Launch} {x : Cx} {d : Nat} {w : AW} {tx : Int → Int} {by0 : Int} {ru fa fe : Int → Int} {fc lw br me : Int} {mh ml mw : Int → Int} {mn fi : Int} {fm ln : Int → Int} {it : Int → Int → Int} {h l0 z : Int} (hd : 4 ≤ d) (hC : ModelC w tx by0 ru fa fe fc lw br me mh ml mw mn fi fm ln it) (hK : ParOK tx by0 ru fa fe fc lw br me mh ml mw mn fi fm ln it) (hh : R32 h) (hl0 : R32 l0) (hz : R32 z) : Mt l x iX9_next d 0 0 50 w [vR 32, vI h, vI l0, vI z] (Rd (vI (nextA (warB lw fa ru fe fc) h l0 z)) w) := by
  obtain ⟨a0, nr, le, bs, bl, bp, mo, sf, sz, im, mv, rd, se, fr, tr, sp, so, lu, bt, sg, q32, q33, q34, q35, q36, q37, q38, q39, q40, q41, q42, hse0, hse1, q43, q44, q45, q46, q47, q48, q49, hsg, hsh⟩ := hC
  obtain ⟨hT, hO, hbm, hMm, hSh⟩ := hK
  exact tX9_next hd ⟨⟨_, _, _, _, _, _, _, _, _, _, q32⟩, q39, q40, q41⟩ hO hh hl0 hz
theorem pX9_left {l : Launch} {x : Cx} {d : Nat} {w : AW} {tx : Int → Int} {by0 : Int} {ru fa fe : Int → Int} {fc lw br me : Int} {mh ml mw : Int → Int} {mn fi : Int} {fm ln : Int → Int} {it : Int → Int → Int} {k l0 : Int} (hd : 4 ≤ d) (hC : ModelC w tx by0 ru fa fe fc lw br me mh ml mw mn fi fm ln it) (hK : ParOK tx by0 ru fa fe fc lw br me mh ml mw mn fi fm ln it) (hk : R32 k) (hl0 : R32 l0) : Mt l x iX9_left d 0 0 50 w [vR 32, vI k, vI l0] (Rd (vI (leftA (warB lw fa ru fe fc) k l0)) w) := by
  obtain ⟨a0, nr, le, bs, bl, bp, mo, sf, sz, im, mv, rd, se, fr, tr, sp, so, lu, bt, sg, q32, q33, q34, q35, q36, q37, q38, q39, q40, q41, q42, hse0, hse1, q43, q44, q45, q46, q47, q48, q49, hsg, hsh⟩ := hC
  obtain ⟨hT, hO, hbm, hMm, hSh⟩ := hK
  exact tX9_left hd ⟨⟨_, _, _, _, _, _, _, _, _, _, q32⟩, q39, q40, q41⟩ hO hk hl0
theorem pX9_best {l : Launch} {x : Cx} {d : Nat} {w : AW} {tx : Int → Int} {by0 : Int} {ru fa fe : Int → Int} {fc lw br me : Int} {mh ml mw : Int → Int} {mn fi : Int} {fm ln : Int → Int} {it : Int → Int → Int} {l0 : Int} (hd : 5 ≤ d) (hC : ModelC w tx by0 ru fa fe fc lw br me mh ml mw mn fi fm ln it) (hK : ParOK tx by0 ru fa fe fc lw br me mh ml mw mn fi fm ln it) (hl0 : R32 l0) : Mt l x iX9_best d 0 0 50 w [vR 32, vI l0] (Rd (vI (bestA (warB lw fa ru fe fc) l0)) w) := by
  obtain ⟨a0, nr, le, bs, bl, bp, mo, sf, sz, im, mv, rd, se, fr, tr, sp, so, lu, bt, sg, q32, q33, q34, q35, q36, q37, q38, q39, q40, q41, q42, hse0, hse1, q43, q44, q45, q46, q47, q48, q49, hsg, hsh⟩ := hC
  obtain ⟨hT, hO, hbm, hMm, hSh⟩ := hK
  exact tX9_best hd ⟨⟨_, _, _, _, _, _, _, _, _, _, q32⟩, q39, q40, q41⟩ hO hl0
theorem pX9_unlike {l : Launch} {x : Cx} {d : Nat} {w : AW} {tx : Int → Int} {by0 : Int} {ru fa fe : Int → Int} {fc lw br me : Int} {mh ml mw : Int → Int} {mn fi : Int} {fm ln : Int → Int} {it : Int → Int → Int} {p q : Int} (hd : 3 ≤ d) (hC : ModelC w tx by0 ru fa fe fc lw br me mh ml mw mn fi fm ln it) (hK : ParOK tx by0 ru fa fe fc lw br me mh ml mw mn fi fm ln it) (hp : R32 p) (hq : R32 q) : Mt l x iX9_unlike d 0 0 50 w [vR 32, vI p, vI q] (Rd (vI (unlA ru p q)) w) := by
  obtain ⟨a0, nr, le, bs, bl, bp, mo, sf, sz, im, mv, rd, se, fr, tr, sp, so, lu, bt, sg, q32, q33, q34, q35, q36, q37, q38, q39, q40, q41, q42, hse0, hse1, q43, q44, q45, q46, q47, q48, q49, hsg, hsh⟩ := hC
  obtain ⟨hT, hO, hbm, hMm, hSh⟩ := hK
  exact tX9_unlike hd ⟨⟨_, _, _, _, _, _, _, _, _, _, q32⟩, q39, q40, q41⟩ hO.2.1 hp hq
theorem pX9_agree {l : Launch} {x : Cx} {d : Nat} {w : AW} {tx : Int → Int} {by0 : Int} {ru fa fe : Int → Int} {fc lw br me : Int} {mh ml mw : Int → Int} {mn fi : Int} {fm ln : Int → Int} {it : Int → Int → Int} {k0 : Int} (hd : 2 ≤ d) (hC : ModelC w tx by0 ru fa fe fc lw br me mh ml mw mn fi fm ln it) (hK : ParOK tx by0 ru fa fe fc lw br me mh ml mw mn fi fm ln it) (hk0 : R32 k0) : Mt l x iX9_agree d 0 0 50 w [vR 32, vI k0] (Rd (vI (agrA ru k0)) w) := by
  obtain ⟨a0, nr, le, bs, bl, bp, mo, sf, sz, im, mv, rd, se, fr, tr, sp, so, lu, bt, sg, q32, q33, q34, q35, q36, q37, q38, q39, q40, q41, q42, hse0, hse1, q43, q44, q45, q46, q47, q48, q49, hsg, hsh⟩ := hC
  obtain ⟨hT, hO, hbm, hMm, hSh⟩ := hK
  exact tX9_agree hd ⟨⟨_, _, _, _, _, _, _, _, _, _, q32⟩, q39, q40, q41⟩ hO.2.1 hk0
theorem pX9_middle {l : Launch} {x : Cx} {d : Nat} {w : AW} {tx : Int → Int} {by0 : Int} {ru fa fe : Int → Int} {fc lw br me : Int} {mh ml mw : Int → Int} {mn fi : Int} {fm ln : Int → Int} {it : Int → Int → Int} {k0 : Int} (hd : 4 ≤ d) (hC : ModelC w tx by0 ru fa fe fc lw br me mh ml mw mn fi fm ln it) (hK : ParOK tx by0 ru fa fe fc lw br me mh ml mw mn fi fm ln it) (hk0 : R32 k0) : Mt l x iX9_middle d 0 0 50 w [vR 32, vI k0] (Rd (vI (midA ru k0)) w) := by
  obtain ⟨a0, nr, le, bs, bl, bp, mo, sf, sz, im, mv, rd, se, fr, tr, sp, so, lu, bt, sg, q32, q33, q34, q35, q36, q37, q38, q39, q40, q41, q42, hse0, hse1, q43, q44, q45, q46, q47, q48, q49, hsg, hsh⟩ := hC
  obtain ⟨hT, hO, hbm, hMm, hSh⟩ := hK
  exact tX9_middle hd ⟨⟨_, _, _, _, _, _, _, _, _, _, q32⟩, q39, q40, q41⟩ hO.2.1 hk0
