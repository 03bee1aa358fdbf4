/-! the model's raids -/
theorem rs_step {W : Int → Int → Bool} {b D h s i nw : Int} {P : Prop} (hi : 0 ≤ i) (his : i < s) (hn : nw = h + D) (hP : P) (hs : strZ W b D h i = true) : (b2i (W (nw + i) b = true) = 1 ∧ P ∧ strZ W b D h (i + 1) = true) ∨ (b2i (W (nw + i) b = true) = 0 ∧ ¬ (P ∧ strZ W b D h s = true)) := by
  have e : nw + i = h + (D + i) := by omega
  rw [e]
  by_cases c : W (h + (D + i)) b = true
  · exact Or.inl ⟨b2i_t c, hP, by rw [strZ_s _ _ _ _ hi, hs, c]; rfl⟩
  · refine Or.inr ⟨b2i_f c, fun z => ?_⟩
    rw [strZ_no hi his (by simpa using c)] at z
    exact absurd z.2 (by decide)
set_option maxRecDepth 20000 in
set_option maxHeartbeats 4000000 in
theorem tX9_isRaid {l : Launch} {x : Cx} {d : Nat} {w : AW} {fa ru fe : Int → Int} {fi by0 a0 fc lw le bs bl bp mn mo : Int} {rd tx fr : Int → Int} {a b s h : Int} (hd : 4 ≤ d) (q32 : w 32 = (oM fi by0 a0 (numF tx by0) fc lw le bs bl bp mn mo)) (q38 : w 38 = cI 36 rd) (q39 : w 39 = cI 24 fa) (q40 : w 40 = cI 8 ru) (q41 : w 41 = cI 8 fe) (q43 : w 43 = cI 8 fr) (hT : TxOK tx by0) (hR : RdT rd tx (numF tx by0)) (hO : MoOK fa ru fe fc lw) (ha : In7 a) (hb : In7 b) (hab : a ≠ b) (hs : 1 ≤ s ∧ s ≤ 9) (hh : 0 ≤ h ∧ h ≤ 671) : Mt l x iX9_isRaid d 0 0 50 w [vR 32, vI a, vI b, vI s, vI h] (Wr (vI (b2i (((cWy tx by0) (a * 8 + b)) < 1000 ∧ raidB (warB lw fa ru fe fc) (mOn rd) (mOt rd) (mHo rd) (cWy tx by0) (numF tx by0) a b s h = true))) (fun w2 => ∃ f : Int → Int, w2 = upw w 43 (cI 8 f))) := by
  have hE := rdt_ed hT hR
  have hG := rdt_gr hT hR
  have n9 := numF_R (tx := tx) hT.1
  have w63 := fun z => way_le hE hG ha hb z
  have w0 := way_0 hG ha hb
  refine Mt.of (L0 := [some (vR 32), some (vI a), some (vI b), some (vI s), some (vI h), none, none, none]) rfl rfl rfl ?_
  refine gj_al0 dX9_isRaid_0 ?_
  refine gj_il1 dX9_isRaid_1 ?_
  refine gj_il2 dX9_isRaid_2 ?_
  refine gj_il4 dX9_isRaid_3 ?_
  refine gj_iconst dX9_isRaid_5 ?_
  refine gj_cV4w dX9_isRaid_6 mX9_204 hX9_goes q32 rfl (by omega) rfl (tX9_goes  (by omega) q32 q38 q39 q40 q41 q43 hT hR hO (by omega) (by omega) (by omega) (by omega) (Or.inl rfl)) (fun w6 P6 => ?_)
  obtain ⟨f6, rfl⟩ := P6
  obtain ⟨nw, hnw⟩ : ∃ z : Int, z = (if (gFin (warB lw fa ru fe fc) (cWy tx by0) (fun q => nxtF (mOn rd) (mOt rd) (mHo rd) (cWy tx by0) q b (numF tx by0)) a b h 0) then h + ((cWy tx by0) (a * 8 + b)) else -1) := ⟨_, rfl⟩
  rw [← hnw]
  have r9 : R32 nw := by rw [hnw]; split <;> omega
  have loop27 : ∀ (k : Nat), ∀ (wl i : Int), (0 ≤ i ∧ i ≤ s) → ((wl = 1 ∧ (gFin (warB lw fa ru fe fc) (cWy tx by0) (fun q => nxtF (mOn rd) (mOt rd) (mHo rd) (cWy tx by0) q b (numF tx by0)) a b h 0) ∧ strZ (warB lw fa ru fe fc) b ((cWy tx by0) (a * 8 + b)) h i = true) ∨ (wl = 0 ∧ ¬ ((gFin (warB lw fa ru fe fc) (cWy tx by0) (fun q => nxtF (mOn rd) (mOt rd) (mHo rd) (cWy tx by0) q b (numF tx by0)) a b h 0) ∧ strZ (warB lw fa ru fe fc) b ((cWy tx by0) (a * 8 + b)) h s = true))) → (wl = 0 ∨ wl = 1) → (s - i).toNat < k → Gj l x iX9_isRaid d 0 0 50 (Wr (vI (b2i (((cWy tx by0) (a * 8 + b)) < 1000 ∧ raidB (warB lw fa ru fe fc) (mOn rd) (mOt rd) (mHo rd) (cWy tx by0) (numF tx by0) a b s h = true))) (fun w2 => ∃ f : Int → Int, w2 = upw w 43 (cI 8 f))) 0 0 50 (upw w 43 (cI 8 f6)) 27 [some (vR 32), some (vI a), some (vI b), some (vI s), some (vI h), some (vI nw), some (vI wl), some (vI i)] [] := by
    intro k
    induction k with
    | zero => intro _ _ _ _ _ hm; exact absurd hm (Nat.not_lt_zero _)
    | succ k ih27 =>
      intro wl i  hi hI hwl hm27
      refine gj_il7 dX9_isRaid_27 ?_
      refine gj_il3 dX9_isRaid_29 ?_
      refine gj_icmp_ge dX9_isRaid_30 (by omega) (fun h30 => ?_) (fun h30 => ?_)
      · refine gj_il6 dX9_isRaid_56 ?_
        refine gj_if_eq dX9_isRaid_58 (by omega) (fun h58 => ?_) (fun h58 => ?_)
        · refine gj_iconst dX9_isRaid_80 ?_
          exact gj_zret (Or.inl rfl) dX9_isRaid_81 rfl (wr_i (b2i_f (fun z => by
                    have z2 := (raid_iff hG ha hb hs.1).mp z
                    rcases hI with y | y
                    · omega
                    · exact y.2 ⟨z2.1, z2.2.1⟩)).symm ⟨_, rfl⟩)
        · obtain ⟨e1, e2, e3⟩ := hI.resolve_right (fun z => absurd z.1 h58)
          have e6 : i = s := by omega
          have d9 := w63 e2.1
          rw [if_pos e2] at hnw
          subst hnw
          refine gj_al0 dX9_isRaid_61 ?_
          refine gj_il2 dX9_isRaid_62 ?_
          refine gj_il1 dX9_isRaid_63 ?_
          refine gj_il5 dX9_isRaid_64 ?_
          refine gj_il3 dX9_isRaid_66 ?_
          refine gj_iadd dX9_isRaid_67 ?_
          refine gj_iconst dX9_isRaid_68 ?_
          refine gj_cV4w dX9_isRaid_69 mX9_204 hX9_goes (upw_o (by decide) q32) rfl (by omega) rfl (tX9_goes  (by omega) (upw_o (by decide) q32) (upw_o (by decide) q38) (upw_o (by decide) q39) (upw_o (by decide) q40) (upw_o (by decide) q41) upw_s hT hR hO (by omega) (by omega) (by omega) (by omega) (Or.inr rfl)) (fun w69 P69 => ?_)
          obtain ⟨f69, rfl⟩ := P69
          have v9 := way_0 hG hb ha
          refine gj_iconst dX9_isRaid_72 ?_
          refine gj_icmp_eq dX9_isRaid_73 (by split <;> omega) (fun h73 => ?_) (fun h73 => ?_)
          · refine gj_iconst dX9_isRaid_80 ?_
            exact gj_zret (Or.inl rfl) dX9_isRaid_81 rfl (wr_i (b2i_f (fun z => by
                        have z2 := (raid_iff hG ha hb hs.1).mp z
                        rw [if_pos z2.2.2] at h73
                        have := way_0 hG hb ha
                        omega)).symm ⟨_, by rw [upw_upw]⟩)
          · refine gj_iconst dX9_isRaid_76 ?_
            refine gj_goto dX9_isRaid_77 ?_
            exact gj_zret (Or.inr rfl) dX9_isRaid_81 rfl (wr_i (b2i_t ((raid_iff hG ha hb hs.1).mpr ⟨e2, by rw [← e6]; exact e3, by
                          by_cases y : gFin (warB lw fa ru fe fc) (cWy tx by0) (fun q => nxtF (mOn rd) (mOt rd) (mHo rd) (cWy tx by0) q a (numF tx by0)) b a (h + ((cWy tx by0) (a * 8 + b)) + s) 1
                          · exact y
                          · rw [if_neg y] at h73; exact absurd rfl h73⟩)).symm ⟨_, by rw [upw_upw]⟩)
      · refine gj_il6 dX9_isRaid_33 ?_
        refine gj_if_eq dX9_isRaid_35 (by omega) (fun h35 => ?_) (fun h35 => ?_)
        · refine gj_il6 dX9_isRaid_56 ?_
          refine gj_if_eq dX9_isRaid_58 (by omega) (fun h58 => ?_) (fun h58 => ?_)
          · refine gj_iconst dX9_isRaid_80 ?_
            exact gj_zret (Or.inl rfl) dX9_isRaid_81 rfl (wr_i (b2i_f (fun z => by
                      have z2 := (raid_iff hG ha hb hs.1).mp z
                      rcases hI with y | y
                      · omega
                      · exact y.2 ⟨z2.1, z2.2.1⟩)).symm ⟨_, rfl⟩)
          · obtain ⟨e1, e2, e3⟩ := hI.resolve_right (fun z => absurd z.1 h58)
            have e6 : i = s := by omega
            have d9 := w63 e2.1
            rw [if_pos e2] at hnw
            subst hnw
            refine gj_al0 dX9_isRaid_61 ?_
            refine gj_il2 dX9_isRaid_62 ?_
            refine gj_il1 dX9_isRaid_63 ?_
            refine gj_il5 dX9_isRaid_64 ?_
            refine gj_il3 dX9_isRaid_66 ?_
            refine gj_iadd dX9_isRaid_67 ?_
            refine gj_iconst dX9_isRaid_68 ?_
            refine gj_cV4w dX9_isRaid_69 mX9_204 hX9_goes (upw_o (by decide) q32) rfl (by omega) rfl (tX9_goes  (by omega) (upw_o (by decide) q32) (upw_o (by decide) q38) (upw_o (by decide) q39) (upw_o (by decide) q40) (upw_o (by decide) q41) upw_s hT hR hO (by omega) (by omega) (by omega) (by omega) (Or.inr rfl)) (fun w69 P69 => ?_)
            obtain ⟨f69, rfl⟩ := P69
            have v9 := way_0 hG hb ha
            refine gj_iconst dX9_isRaid_72 ?_
            refine gj_icmp_eq dX9_isRaid_73 (by split <;> omega) (fun h73 => ?_) (fun h73 => ?_)
            · refine gj_iconst dX9_isRaid_80 ?_
              exact gj_zret (Or.inl rfl) dX9_isRaid_81 rfl (wr_i (b2i_f (fun z => by
                          have z2 := (raid_iff hG ha hb hs.1).mp z
                          rw [if_pos z2.2.2] at h73
                          have := way_0 hG hb ha
                          omega)).symm ⟨_, by rw [upw_upw]⟩)
            · refine gj_iconst dX9_isRaid_76 ?_
              refine gj_goto dX9_isRaid_77 ?_
              exact gj_zret (Or.inr rfl) dX9_isRaid_81 rfl (wr_i (b2i_t ((raid_iff hG ha hb hs.1).mpr ⟨e2, by rw [← e6]; exact e3, by
                            by_cases y : gFin (warB lw fa ru fe fc) (cWy tx by0) (fun q => nxtF (mOn rd) (mOt rd) (mHo rd) (cWy tx by0) q a (numF tx by0)) b a (h + ((cWy tx by0) (a * 8 + b)) + s) 1
                            · exact y
                            · rw [if_neg y] at h73; exact absurd rfl h73⟩)).symm ⟨_, by rw [upw_upw]⟩)
        · obtain ⟨e1, e2, e3⟩ := hI.resolve_right (fun z => absurd z.1 h35)
          have hn2 : nw = h + ((cWy tx by0) (a * 8 + b)) := by rw [hnw, if_pos e2]
          have d9 := w63 e2.1
          refine gj_al0 dX9_isRaid_38 ?_
          refine gj_il5 dX9_isRaid_39 ?_
          refine gj_il7 dX9_isRaid_41 ?_
          refine gj_iadd dX9_isRaid_43 ?_
          refine gj_il2 dX9_isRaid_44 ?_
          refine gj_cV2r dX9_isRaid_45 mX9_169 hX9_isWar (upw_o (by decide) q32) rfl (by omega) rfl (tX9_isWar  (by omega) ⟨⟨_, _, _, _, _, _, _, _, _, _, (upw_o (by decide) q32)⟩, (upw_o (by decide) q39), (upw_o (by decide) q40), (upw_o (by decide) q41)⟩ hO (by omega) (by omega)) ?_
          refine gj_is6 dX9_isRaid_48 rfl rfl ?_
          refine gj_ii7 dX9_isRaid_50 rfl rfl ?_
          refine gj_goto dX9_isRaid_53 ?_
          exact ih27 _ _ (by omega) (rs_step hi.1 (by omega) hn2 e2 e3) (b2i_R _) (by omega)
  refine gj_is5 dX9_isRaid_9 rfl rfl ?_
  refine gj_il5 dX9_isRaid_11 ?_
  refine gj_iconst dX9_isRaid_13 ?_
  refine gj_icmp_eq dX9_isRaid_14 (by omega) (fun h14 => ?_) (fun h14 => ?_)
  · refine gj_iconst dX9_isRaid_21 ?_
    refine gj_is6 dX9_isRaid_22 rfl rfl ?_
    refine gj_iconst dX9_isRaid_24 ?_
    refine gj_is7 dX9_isRaid_25 rfl rfl ?_
    exact loop27 _ _ _ (by omega) (Or.inr ⟨rfl, fun z => by rw [if_pos z.1] at hnw; omega⟩) (by omega) (Nat.lt_succ_self _)
  · refine gj_iconst dX9_isRaid_17 ?_
    refine gj_goto dX9_isRaid_18 ?_
    refine gj_is6 dX9_isRaid_22 rfl rfl ?_
    refine gj_iconst dX9_isRaid_24 ?_
    refine gj_is7 dX9_isRaid_25 rfl rfl ?_
    exact loop27 _ _ _ (by omega) (Or.inl ⟨rfl, by by_cases z : (gFin (warB lw fa ru fe fc) (cWy tx by0) (fun q => nxtF (mOn rd) (mOt rd) (mHo rd) (cWy tx by0) q b (numF tx by0)) a b h 0); exact z; (rw [if_neg z] at hnw; exact absurd hnw h14), rfl⟩) (by omega) (Nat.lt_succ_self _)
set_option maxRecDepth 20000 in
set_option maxHeartbeats 4000000 in
theorem tX9_raidOf {l : Launch} {x : Cx} {d : Nat} {w : AW} {fa ru fe : Int → Int} {fi by0 a0 fc lw le bs bl bp mn mo : Int} {rd tx fr : Int → Int} {a b s h : Int} (hd : 5 ≤ d) (q32 : w 32 = (oM fi by0 a0 (numF tx by0) fc lw le bs bl bp mn mo)) (q38 : w 38 = cI 36 rd) (q39 : w 39 = cI 24 fa) (q40 : w 40 = cI 8 ru) (q41 : w 41 = cI 8 fe) (q43 : w 43 = cI 8 fr) (hT : TxOK tx by0) (hR : RdT rd tx (numF tx by0)) (hO : MoOK fa ru fe fc lw) (ha : In7 a) (hb : In7 b) (hab : a ≠ b) (hs : 1 ≤ s ∧ s ≤ 9) (hh : 0 ≤ h ∧ h ≤ 671) : Mt l x iX9_raidOf d 0 0 50 w [vR 32, vI a, vI b, vI s, vI h] (Wr (vI (if ((cWy tx by0) (a * 8 + b)) < 1000 then raidF (warB lw fa ru fe fc) (mOn rd) (mOt rd) (mHo rd) (cWy tx by0) (numF tx by0) a b s h else -1)) (fun w2 => ∃ f : Int → Int, w2 = upw w 43 (cI 8 f))) := by
  have hE := rdt_ed hT hR
  have hG := rdt_gr hT hR
  have n9 := numF_R (tx := tx) hT.1
  have w63 := fun z => way_le hE hG ha hb z
  have w0 := way_0 hG ha hb
  refine Mt.of (L0 := [some (vR 32), some (vI a), some (vI b), some (vI s), some (vI h), none]) rfl rfl rfl ?_
  refine gj_il4 dX9_raidOf_0 ?_
  refine gj_is5 dX9_raidOf_2 rfl rfl ?_
  refine gj_eq rfl rfl (show w = upw w 43 (cI 8 fr) from (upw_same q43).symm) ?_
  have loop4 : ∀ (k : Nat), ∀ (g : Int → Int) (i : Int), (0 ≤ i ∧ i ≤ 672) → ((if ((cWy tx by0) (a * 8 + b)) < 1000 then raidF (warB lw fa ru fe fc) (mOn rd) (mOt rd) (mHo rd) (cWy tx by0) (numF tx by0) a b s i else -1) = (if ((cWy tx by0) (a * 8 + b)) < 1000 then raidF (warB lw fa ru fe fc) (mOn rd) (mOt rd) (mHo rd) (cWy tx by0) (numF tx by0) a b s h else -1)) → (672 - i).toNat < k → Gj l x iX9_raidOf d 0 0 50 (Wr (vI (if ((cWy tx by0) (a * 8 + b)) < 1000 then raidF (warB lw fa ru fe fc) (mOn rd) (mOt rd) (mHo rd) (cWy tx by0) (numF tx by0) a b s h else -1)) (fun w2 => ∃ f : Int → Int, w2 = upw w 43 (cI 8 f))) 0 0 50 (upw w 43 (cI 8 g)) 4 [some (vR 32), some (vI a), some (vI b), some (vI s), some (vI h), some (vI i)] [] := by
    intro k
    induction k with
    | zero => intro _ _ _ _ hm; exact absurd hm (Nat.not_lt_zero _)
    | succ k ih4 =>
      intro g i  hi hv hm4
      refine gj_il5 dX9_raidOf_4 ?_
      refine gj_sipush dX9_raidOf_6 rfl ?_
      refine gj_icmp_ge dX9_raidOf_9 (by omega) (fun h9 => ?_) (fun h9 => ?_)
      · refine gj_iconst dX9_raidOf_33 ?_
        exact gj_iret dX9_raidOf_34 rfl (wr_i (by rw [← hv]; unfold raidF; rw [fstZ_end (by omega)]; split <;> rfl) ⟨_, rfl⟩)
      · refine gj_al0 dX9_raidOf_12 ?_
        refine gj_il1 dX9_raidOf_13 ?_
        refine gj_il2 dX9_raidOf_14 ?_
        refine gj_il3 dX9_raidOf_15 ?_
        refine gj_il5 dX9_raidOf_16 ?_
        refine gj_cV4w dX9_raidOf_18 mX9_208 hX9_isRaid (upw_o (by decide) q32) rfl (by omega) rfl (tX9_isRaid  (by omega) (upw_o (by decide) q32) (upw_o (by decide) q38) (upw_o (by decide) q39) (upw_o (by decide) q40) (upw_o (by decide) q41) upw_s hT hR hO (by omega) (by omega) (by omega) (by omega) (by omega)) (fun w18 P18 => ?_)
        obtain ⟨f18, rfl⟩ := P18
        refine gj_ifB_eq dX9_raidOf_21 (fun h21 => ?_) (fun h21 => ?_)
        · refine gj_ii5 dX9_raidOf_27 rfl rfl ?_
          refine gj_goto dX9_raidOf_30 ?_
          rw [upw_upw]
          exact ih4 _ _ (by omega) (by rw [← hv]; by_cases c : ((cWy tx by0) (a * 8 + b)) < 1000; (rw [if_pos c, if_pos c]; unfold raidF; rw [← fstZ_no (by omega) (fun z => h21 ⟨c, z⟩)]); (rw [if_neg c, if_neg c])) (by omega)
        · refine gj_il5 dX9_raidOf_24 ?_
          exact gj_iret dX9_raidOf_26 rfl (wr_i (by rw [← hv, if_pos h21.1]; unfold raidF; rw [fstZ_yes (by omega) h21.2]) ⟨_, by rw [upw_upw]⟩)
  exact loop4 _ fr h (by omega) rfl (Nat.lt_succ_self _)
