/-! contracts: the model's digest -/
/-- the model when it has just read its text -/
def ModelR (w : AW) (tx : Int → Int) (by0 : Int) (ru fa fe : Int → Int) (fc lw br me : Int) (mh ml mw : Int → Int) (mn fi : Int) (fm ln : Int → Int) (it : Int → Int → Int) : Prop :=
  ∃ (a0 le bs bl bp mo : Int) (sf sz im mv rd se fr tr sp so lu bt sg : Int → Int), RdT rd tx (numF tx by0) ∧ w 32 = (oM fi by0 a0 (numF tx by0) fc lw le bs bl bp mn mo) ∧ w 33 = cI 4 sf ∧ w 34 = cI 4 sz ∧ w 35 = cI 240 im ∧ w 36 = cI 60 mv ∧ w 37 = cI 47 tx ∧ w 38 = cI 36 rd ∧ w 39 = cI 24 fa ∧ w 40 = cI 8 ru ∧ w 41 = cI 8 fe ∧ w 42 = cI 2 se ∧ se 0 = br ∧ se 1 = me ∧ w 43 = cI 8 fr ∧ w 44 = cI 9 tr ∧ w 45 = cI 9 sp ∧ w 46 = cI 9 so ∧ w 47 = cI 9 lu ∧ w 48 = cI 9 bt ∧ w 49 = cI 18 sg ∧ (∀ k : Int, 0 ≤ k → k < mn → sg (3 * k) = mh k ∧ sg (3 * k + 1) = ml k ∧ sg (3 * k + 2) = mw k) ∧ ∀ s : Int, 0 ≤ s → s ≤ 3 → sf s = fm s ∧ (fm s ≠ -1 → sz s = ln s ∧ ∀ j : Int, 0 ≤ j → j < ln s → im (60 * s + j) = it s j)
theorem kd_16 (g : Int → Int → Int → Int) (h : Int) : foZ (fun k h => g (k / 4) (k % 4) h) 16 h = foZ (fun a h => foZ (fun b h => g a b h) 4 h) 4 h := rfl
theorem rd_A {rd tx : Int → Int} {by0 r k0 : Int} (h : RdT rd tx (numF tx by0)) (hr : 0 ≤ r ∧ r < (numF tx by0)) (hk : 0 ≤ k0 ∧ k0 ≤ 2) : rd (3 * r + k0) = rdA tx by0 r k0 := by
  have v9 := h r hr.1 hr.2
  unfold rdA
  rw [if_pos (show (0 ≤ r ∧ r ≤ numF tx by0 - 1) ∧ (0 ≤ k0 ∧ k0 ≤ 2) by omega)]
  rcases (show k0 = 0 ∨ k0 = 1 ∨ k0 = 2 by omega) with e | e | e <;> subst e
  · rw [if_neg (by omega), if_pos rfl, Int.add_zero]; exact v9.1
  · rw [if_neg (by omega), if_neg (by omega)]; exact v9.2.1
  · rw [if_pos rfl]; exact v9.2.2
theorem leftInA {l : Launch} {x : Cx} {d : Nat} {w : AW} {fa ru fe : Int → Int} {fc lw : Int} {k l0 : Int} (hd : 3 ≤ d) (hM : MoAt w fa ru fe fc lw) (hO : MoOK fa ru fe fc lw) (hk : 0 ≤ k ∧ k ≤ 3) (hl0 : 0 ≤ l0 ∧ l0 ≤ 7) : Mt l x iX9_leftIn d 0 0 50 w [vR 32, vI k, vI l0] (Rd (vI (leftA (warB lw fa ru fe fc) k l0)) w) := by
  rw [show leftA (warB lw fa ru fe fc) k l0 = leftF (warB lw fa ru fe fc) k l0 from if_pos ⟨hk, hl0⟩]
  exact tX9_leftIn hd hM hO hk hl0
theorem bestOfA {l : Launch} {x : Cx} {d : Nat} {w : AW} {fa ru fe : Int → Int} {fc lw : Int} {l0 : Int} (hd : 4 ≤ d) (hM : MoAt w fa ru fe fc lw) (hO : MoOK fa ru fe fc lw) (hl0 : 0 ≤ l0 ∧ l0 ≤ 7) : Mt l x iX9_bestOf d 0 0 50 w [vR 32, vI l0] (Rd (vI (bestA (warB lw fa ru fe fc) l0)) w) := by
  rw [show bestA (warB lw fa ru fe fc) l0 = argm (fun k => leftF (warB lw fa ru fe fc) k l0) 3 from if_pos hl0]
  exact tX9_bestOf hd hM hO hl0
theorem nextOfA {l : Launch} {x : Cx} {d : Nat} {w : AW} {fa ru fe : Int → Int} {fc lw : Int} {h l0 z : Int} (hd : 3 ≤ d) (hM : MoAt w fa ru fe fc lw) (hO : MoOK fa ru fe fc lw) (hh : 0 ≤ h ∧ h ≤ 671) (hl0 : 0 ≤ l0 ∧ l0 ≤ 7) (hz : 0 ≤ z ∧ z ≤ 1) : Mt l x iX9_nextOf d 0 0 50 w [vR 32, vI h, vI l0, vI z] (Rd (vI (nextA (warB lw fa ru fe fc) h l0 z)) w) := by
  rw [show nextA (warB lw fa ru fe fc) h l0 z = fstZ (nxtB (warB lw fa ru fe fc) l0 z) h 672 from if_pos ⟨hh, hl0, hz⟩]
  exact tX9_nextOf hd hM hO hh hl0 (by omega)
theorem siegeOfA {l : Launch} {x : Cx} {d : Nat} {w : AW} {fa ru fe : Int → Int} {fi by0 a0 nr fc lw le bs bl bp mn mo : Int} {se : Int → Int} {br me : Int} {l0 h st k0 : Int} (hd : 4 ≤ d) (q32 : w 32 = (oM fi by0 a0 nr fc lw le bs bl bp mn mo)) (q39 : w 39 = cI 24 fa) (q40 : w 40 = cI 8 ru) (q41 : w 41 = cI 8 fe) (q42 : w 42 = cI 2 se) (hO : MoOK fa ru fe fc lw) (h0 : se 0 = br) (h1 : se 1 = me) (hbm : (0 ≤ br ∧ br ≤ 99) ∧ (0 ≤ me ∧ me ≤ 99)) (hl0 : 0 ≤ l0 ∧ l0 ≤ 7) (hh : 0 ≤ h ∧ h ≤ 671) (hst : 1 ≤ st ∧ st ≤ 999) (hk0 : 0 ≤ k0 ∧ k0 ≤ 1) : Mt l x iX9_siegeOf d 0 0 50 w [vR 32, vI l0, vI h, vI st, vI k0] (Wr (vI (sieA (warB lw fa ru fe fc) br me l0 h st k0)) (fun w2 => w2 = upw w 32 (oM fi by0 a0 nr fc lw (bat (warB lw fa ru fe fc) (se 0) (se 1) st l0 h st).2 bs bl bp mn mo))) := by
  rw [show sieA (warB lw fa ru fe fc) br me l0 h st k0 = if k0 = 0 then (bat (warB lw fa ru fe fc) (se 0) (se 1) st l0 h st).1 else (bat (warB lw fa ru fe fc) (se 0) (se 1) st l0 h st).2 from (by rw [h0, h1]; exact if_pos ⟨⟨hl0, hh, hst⟩, hk0⟩)]
  exact tX9_siegeOf hd q32 q39 q40 q41 q42 hO (by omega) hl0 hh hst (by omega) (by omega)
theorem holdsByA {l : Launch} {x : Cx} {d : Nat} {w : AW} {fa ru fe : Int → Int} {fi by0 a0 nr fc lw le bs bl bp mn mo : Int} {se : Int → Int} {br me : Int} {l0 h st : Int} (hd : 4 ≤ d) (q32 : w 32 = (oM fi by0 a0 nr fc lw le bs bl bp mn mo)) (q39 : w 39 = cI 24 fa) (q40 : w 40 = cI 8 ru) (q41 : w 41 = cI 8 fe) (q42 : w 42 = cI 2 se) (hO : MoOK fa ru fe fc lw) (h0 : se 0 = br) (h1 : se 1 = me) (hbm : (0 ≤ br ∧ br ≤ 99) ∧ (0 ≤ me ∧ me ≤ 99)) (hl0 : 0 ≤ l0 ∧ l0 ≤ 7) (hh : 0 ≤ h ∧ h ≤ 671) (hst : 1 ≤ st ∧ st ≤ 999) : Mt l x iX9_holdsBy d 0 0 50 w [vR 32, vI l0, vI h, vI st] (Wr (vI (hldA (warB lw fa ru fe fc) br l0 h st)) (fun w2 => ∃ z : Int, w2 = upw w 32 (oM fi by0 a0 nr fc lw z bs bl bp mn mo))) := by
  rw [show hldA (warB lw fa ru fe fc) br l0 h st = hldF (warB lw fa ru fe fc) (se 0) st l0 h from (by rw [h0]; exact if_pos ⟨hl0, hh, hst⟩)]
  exact tX9_holdsBy hd q32 q39 q40 q41 q42 hO (by omega) hl0 hh hst
theorem seasonOfA {l : Launch} {x : Cx} {d : Nat} {w : AW} {fa ru fe : Int → Int} {fi by0 a0 nr fc lw le bs bl bp mn mo : Int} {sd l0 : Int} (hd : 3 ≤ d) (q32 : w 32 = (oM fi by0 a0 nr fc lw le bs bl bp mn mo)) (q39 : w 39 = cI 24 fa) (q40 : w 40 = cI 8 ru) (q41 : w 41 = cI 8 fe) (hO : MoOK fa ru fe fc lw) (hl0 : 0 ≤ l0 ∧ l0 ≤ 7) : Mt l x iX9_seasonOf d 0 0 50 w [vR 32, vI sd, vI l0] (Wr (vI (seasA (warB lw fa ru fe fc) sd l0)) (fun w2 => ∃ z : Int, w2 = upw w 32 (oM fi by0 a0 nr fc lw le bs bl bp mn z))) := by
  rw [show seasA (warB lw fa ru fe fc) sd l0 = seasF (warB lw fa ru fe fc) sd l0 from if_pos hl0]
  exact tX9_seasonOf hd q32 q39 q40 q41 hO hl0
theorem str_y {fa ru fe : Int → Int} {fc lw h l0 a b : Int} (hh : 0 ≤ h ∧ h ≤ 671) (hl0 : 0 ≤ l0 ∧ l0 ≤ 7) (ha : 0 ≤ a ∧ a ≤ 3) (hb : 0 ≤ b ∧ b ≤ 3) : strA (warB lw fa ru fe fc) h l0 a b = b2i ((a = 0 ∨ (a = 2 ∧ h / 24 % 7 = 1)) ∧ b ≠ 3 ∧ (warB lw fa ru fe fc) h l0 = true) := if_pos ⟨hh, hl0, ha, hb⟩
theorem unlikeOfA {l : Launch} {x : Cx} {d : Nat} {w : AW} {fa ru fe : Int → Int} {fc lw : Int} {p q : Int} (hd : 2 ≤ d) (hM : MoAt w fa ru fe fc lw) (hR : RuOK ru) (hp : 0 ≤ p ∧ p ≤ 3) (hq : 0 ≤ q ∧ q ≤ 3) : Mt l x iX9_unlikeOf d 0 0 50 w [vR 32, vI p, vI q] (Rd (vI (unlA ru p q)) w) := by
  rw [show unlA ru p q = unlF ru p q from if_pos ⟨hp, hq⟩]
  exact tX9_unlikeOf hd hM hR hp hq
theorem agreeOfA {l : Launch} {x : Cx} {d : Nat} {w : AW} {fa ru fe : Int → Int} {fc lw : Int} {k0 : Int} (hd : 1 ≤ d) (hM : MoAt w fa ru fe fc lw) (hR : RuOK ru) (hk0 : 0 ≤ k0 ∧ k0 ≤ 2) : Mt l x iX9_agreeOf d 0 0 50 w [vR 32, vI k0] (Rd (vI (agrA ru k0)) w) := by
  rw [show agrA ru k0 = if k0 = 0 then 4 - likF ru (comF ru 3) else ru (2 * comF ru 3 + (k0 - 1)) from if_pos hk0]
  exact tX9_agreeOf hd hM hR hk0
theorem middleOfA {l : Launch} {x : Cx} {d : Nat} {w : AW} {fa ru fe : Int → Int} {fc lw : Int} {k0 : Int} (hd : 3 ≤ d) (hM : MoAt w fa ru fe fc lw) (hR : RuOK ru) (hk0 : 0 ≤ k0 ∧ k0 ≤ 2) : Mt l x iX9_middleOf d 0 0 50 w [vR 32, vI k0] (Rd (vI (midA ru k0)) w) := by
  rw [show midA ru k0 = if k0 = 0 then chgF ru 0 (midF ru 0) + chgF ru 1 (midF ru 1) else if k0 = 1 then midF ru 0 else midF ru 1 from if_pos hk0]
  exact tX9_middleOf hd hM hR hk0
theorem wayOfA {l : Launch} {x : Cx} {d : Nat} {w : AW} {fi by0 a0 fc lw le bs bl bp mn mo : Int} {rd tx fr : Int → Int} {a b k0 : Int} (hd : 3 ≤ d) (q32 : w 32 = (oM fi by0 a0 (numF tx by0) fc lw le bs bl bp mn mo)) (q38 : w 38 = cI 36 rd) (q43 : w 43 = cI 8 fr) (hT : TxOK tx by0) (hR : RdT rd tx (numF tx by0)) (ha : In7 a) (hb : In7 b) (hab : a ≠ b) (hk0 : 0 ≤ k0 ∧ k0 ≤ 1) : Mt l x iX9_wayOf d 0 0 50 w [vR 32, vI a, vI b, vI k0] (Wr (vI (wayA tx by0 a b k0)) (fun w2 => ∃ f : Int → Int, w2 = upw w 43 (cI 8 f))) := by
  rw [show wayA tx by0 a b k0 = if ((cWy tx by0) (a * 8 + b)) < 1000 then (if k0 = 0 then ((cWy tx by0) (a * 8 + b)) else (nxtF (mOn rd) (mOt rd) (mHo rd) (cWy tx by0) a b (numF tx by0))) else -1 from (by rw [nxtF_eq (rdt_agr hR) (can_ok hT).ed (fun _ _ _ _ => rfl) ha hb]; exact if_pos ⟨⟨ha, hb, hab⟩, hk0⟩)]
  exact tX9_wayOf hd q32 q38 q43 hT hR ha hb hab (by omega)
theorem raidOfA {l : Launch} {x : Cx} {d : Nat} {w : AW} {fa ru fe : Int → Int} {fi by0 a0 fc lw le bs bl bp mn mo : Int} {rd tx fr : Int → Int} {a b s h : Int} (hd : 5 ≤ d) (q32 : w 32 = (oM fi by0 a0 (numF tx by0) fc lw le bs bl bp mn mo)) (q38 : w 38 = cI 36 rd) (q39 : w 39 = cI 24 fa) (q40 : w 40 = cI 8 ru) (q41 : w 41 = cI 8 fe) (q43 : w 43 = cI 8 fr) (hT : TxOK tx by0) (hR : RdT rd tx (numF tx by0)) (hO : MoOK fa ru fe fc lw) (ha : In7 a) (hb : In7 b) (hab : a ≠ b) (hs : 1 ≤ s ∧ s ≤ 9) (hh : 0 ≤ h ∧ h ≤ 671) : Mt l x iX9_raidOf d 0 0 50 w [vR 32, vI a, vI b, vI s, vI h] (Wr (vI (raidA (warB lw fa ru fe fc) tx by0 a b s h)) (fun w2 => ∃ f : Int → Int, w2 = upw w 43 (cI 8 f))) := by
  rw [show raidA (warB lw fa ru fe fc) tx by0 a b s h = if ((cWy tx by0) (a * 8 + b)) < 1000 then raidF (warB lw fa ru fe fc) (mOn rd) (mOt rd) (mHo rd) (cWy tx by0) (numF tx by0) a b s h else -1 from (by
    rw [show raidA (warB lw fa ru fe fc) tx by0 a b s h = (if ((cWy tx by0) (a * 8 + b)) < 1000 then raidF (warB lw fa ru fe fc) (cOn tx) (cOt tx) (cHo tx) (cWy tx by0) (numF tx by0) a b s h else -1) from if_pos ⟨⟨ha, hb, hab⟩, hs, hh⟩]
    by_cases c : ((cWy tx by0) (a * 8 + b)) < 1000
    · rw [if_pos c, if_pos c]
      unfold raidF
      exact (fstZ_congr (fun i _ _ => raidB_eq (rdt_agr hR) (can_ok hT).ed (can_ok hT).gr (fun _ _ _ _ => rfl) ha hb hab c)).symm
    · rw [if_neg c, if_neg c])]
  exact tX9_raidOf hd q32 q38 q39 q40 q41 q43 hT hR hO ha hb hab hs hh
set_option maxRecDepth 20000 in
set_option maxHeartbeats 4000000 in
theorem tX9_tellsLand {l : Launch} {x : Cx} {d : Nat} {w : AW} {tx : Int → Int} {by0 : Int} {ru fa fe : Int → Int} {fc lw br me : Int} {mh ml mw : Int → Int} {mn fi : Int} {fm ln : Int → Int} {it : Int → Int → Int} {h l0 : Int} (hd : 5 ≤ d) (hC : ModelR w tx by0 ru fa fe fc lw br me mh ml mw mn fi fm ln it) (hK : ParOK tx by0 ru fa fe fc lw br me mh ml mw mn fi fm ln it) (hl0 : 0 ≤ l0 ∧ l0 ≤ 7) : Mt l x iX9_tellsLand d 0 0 50 w [vR 32, vL h, vI l0] (Wr (vL (dL1 (warB lw fa ru fe fc) br me l0 h)) (fun w2 => ModelR w2 tx by0 ru fa fe fc lw br me mh ml mw mn fi fm ln it ∧ ∀ k : Nat, k < 32 → w2 k = w k)) := by
  obtain ⟨a0, le, bs, bl, bp, mo, sf, sz, im, mv, rd, se, fr, tr, sp, so, lu, bt, sg, hrt, q32, q33, q34, q35, q36, q37, q38, q39, q40, q41, q42, hse0, hse1, q43, q44, q45, q46, q47, q48, q49, hsg, hsh⟩ := hC
  obtain ⟨hT, hO, hbm, hMm, hSh⟩ := hK
  have t9 := hT.1
  have n9 := numF_R (tx := tx) hT.1
  have f9 := hO.2.2.1.1
  have m9 := hMm.1
  refine Mt.of (L0 := [some (vR 32), some (vL h), none, some (vI l0), none, none]) rfl rfl rfl ?_
  refine gj_ldc2 dX9_tellsLand_0 kX9_295 ?_
  refine gj_ll1 dX9_tellsLand_3 ?_
  refine gj_lmul dX9_tellsLand_4 ?_
  refine gj_al0 dX9_tellsLand_5 ?_
  refine gj_iconst dX9_tellsLand_6 ?_
  refine gj_il3 dX9_tellsLand_7 ?_
  refine gj_cV2r dX9_tellsLand_8 mX9_179 hX9_leftIn q32 rfl (by omega) rfl (leftInA  (by omega) ⟨⟨_, _, _, _, _, _, _, _, _, _, q32⟩, q39, q40, q41⟩ hO (by omega) (by omega)) ?_
  refine gj_i2l dX9_tellsLand_11 (by exact leftA_R _ _ _) ?_
  refine gj_ladd dX9_tellsLand_12 ?_
  refine gj_ls4 dX9_tellsLand_13 rfl rfl ?_
  refine gj_ldc2 dX9_tellsLand_15 kX9_295 ?_
  refine gj_ll4 dX9_tellsLand_18 ?_
  refine gj_lmul dX9_tellsLand_20 ?_
  refine gj_al0 dX9_tellsLand_21 ?_
  refine gj_iconst dX9_tellsLand_22 ?_
  refine gj_il3 dX9_tellsLand_23 ?_
  refine gj_cV2r dX9_tellsLand_24 mX9_179 hX9_leftIn q32 rfl (by omega) rfl (leftInA  (by omega) ⟨⟨_, _, _, _, _, _, _, _, _, _, q32⟩, q39, q40, q41⟩ hO (by omega) (by omega)) ?_
  refine gj_i2l dX9_tellsLand_27 (by exact leftA_R _ _ _) ?_
  refine gj_ladd dX9_tellsLand_28 ?_
  refine gj_ls4 dX9_tellsLand_29 rfl rfl ?_
  refine gj_ldc2 dX9_tellsLand_31 kX9_295 ?_
  refine gj_ll4 dX9_tellsLand_34 ?_
  refine gj_lmul dX9_tellsLand_36 ?_
  refine gj_al0 dX9_tellsLand_37 ?_
  refine gj_il3 dX9_tellsLand_38 ?_
  refine gj_cV1r dX9_tellsLand_39 mX9_182 hX9_bestOf q32 rfl (by omega) rfl (bestOfA  (by omega) ⟨⟨_, _, _, _, _, _, _, _, _, _, q32⟩, q39, q40, q41⟩ hO (by omega)) ?_
  refine gj_i2l dX9_tellsLand_42 (by exact bestA_R _ _) ?_
  refine gj_ladd dX9_tellsLand_43 ?_
  refine gj_ls4 dX9_tellsLand_44 rfl rfl ?_
  refine gj_ldc2 dX9_tellsLand_46 kX9_295 ?_
  refine gj_ll4 dX9_tellsLand_49 ?_
  refine gj_lmul dX9_tellsLand_51 ?_
  refine gj_al0 dX9_tellsLand_52 ?_
  refine gj_bipush dX9_tellsLand_53 rfl ?_
  refine gj_il3 dX9_tellsLand_55 ?_
  refine gj_iconst dX9_tellsLand_56 ?_
  refine gj_cV3r dX9_tellsLand_57 mX9_176 hX9_nextOf q32 rfl (by omega) rfl (nextOfA  (by omega) ⟨⟨_, _, _, _, _, _, _, _, _, _, q32⟩, q39, q40, q41⟩ hO (by omega) (by omega) (by omega)) ?_
  refine gj_i2l dX9_tellsLand_60 (by exact nextA_R _ _ _ _) ?_
  refine gj_ladd dX9_tellsLand_61 ?_
  refine gj_ls4 dX9_tellsLand_62 rfl rfl ?_
  refine gj_ldc2 dX9_tellsLand_64 kX9_295 ?_
  refine gj_ll4 dX9_tellsLand_67 ?_
  refine gj_lmul dX9_tellsLand_69 ?_
  refine gj_al0 dX9_tellsLand_70 ?_
  refine gj_bipush dX9_tellsLand_71 rfl ?_
  refine gj_il3 dX9_tellsLand_73 ?_
  refine gj_iconst dX9_tellsLand_74 ?_
  refine gj_cV3r dX9_tellsLand_75 mX9_176 hX9_nextOf q32 rfl (by omega) rfl (nextOfA  (by omega) ⟨⟨_, _, _, _, _, _, _, _, _, _, q32⟩, q39, q40, q41⟩ hO (by omega) (by omega) (by omega)) ?_
  refine gj_i2l dX9_tellsLand_78 (by exact nextA_R _ _ _ _) ?_
  refine gj_ladd dX9_tellsLand_79 ?_
  refine gj_ls4 dX9_tellsLand_80 rfl rfl ?_
  refine gj_ldc2 dX9_tellsLand_82 kX9_295 ?_
  refine gj_ll4 dX9_tellsLand_85 ?_
  refine gj_lmul dX9_tellsLand_87 ?_
  refine gj_al0 dX9_tellsLand_88 ?_
  refine gj_il3 dX9_tellsLand_89 ?_
  refine gj_bipush dX9_tellsLand_90 rfl ?_
  refine gj_bipush dX9_tellsLand_92 rfl ?_
  refine gj_iconst dX9_tellsLand_94 ?_
  refine gj_cV4w dX9_tellsLand_95 mX9_227 hX9_siegeOf q32 rfl (by omega) rfl (siegeOfA  (by omega) q32 q39 q40 q41 q42 hO hse0 hse1 hbm (by omega) (by omega) (by omega) (by omega)) (fun w95 P95 => ?_)
  obtain rfl := P95
  refine gj_i2l dX9_tellsLand_98 (by exact sieA_R hbm.1 hbm.2 _ _ _ _) ?_
  refine gj_ladd dX9_tellsLand_99 ?_
  refine gj_ls4 dX9_tellsLand_100 rfl rfl ?_
  refine gj_ldc2 dX9_tellsLand_102 kX9_295 ?_
  refine gj_ll4 dX9_tellsLand_105 ?_
  refine gj_lmul dX9_tellsLand_107 ?_
  refine gj_al0 dX9_tellsLand_108 ?_
  refine gj_il3 dX9_tellsLand_109 ?_
  refine gj_bipush dX9_tellsLand_110 rfl ?_
  refine gj_bipush dX9_tellsLand_112 rfl ?_
  refine gj_iconst dX9_tellsLand_114 ?_
  refine gj_cV4w dX9_tellsLand_115 mX9_227 hX9_siegeOf upw_s rfl (by omega) rfl (siegeOfA  (by omega) upw_s (upw_o (by decide) q39) (upw_o (by decide) q40) (upw_o (by decide) q41) (upw_o (by decide) q42) hO hse0 hse1 hbm (by omega) (by omega) (by omega) (by omega)) (fun w115 P115 => ?_)
  obtain rfl := P115
  refine gj_i2l dX9_tellsLand_118 (by exact sieA_R hbm.1 hbm.2 _ _ _ _) ?_
  refine gj_ladd dX9_tellsLand_119 ?_
  refine gj_ls4 dX9_tellsLand_120 rfl rfl ?_
  refine gj_ldc2 dX9_tellsLand_122 kX9_295 ?_
  refine gj_ll4 dX9_tellsLand_125 ?_
  refine gj_lmul dX9_tellsLand_127 ?_
  refine gj_al0 dX9_tellsLand_128 ?_
  refine gj_il3 dX9_tellsLand_129 ?_
  refine gj_bipush dX9_tellsLand_130 rfl ?_
  refine gj_bipush dX9_tellsLand_132 rfl ?_
  refine gj_cV3w dX9_tellsLand_134 mX9_230 hX9_holdsBy upw_s rfl (by omega) rfl (holdsByA  (by omega) upw_s (upw_o (by decide) (upw_o (by decide) q39)) (upw_o (by decide) (upw_o (by decide) q40)) (upw_o (by decide) (upw_o (by decide) q41)) (upw_o (by decide) (upw_o (by decide) q42)) hO hse0 hse1 hbm (by omega) (by omega) (by omega)) (fun w134 P134 => ?_)
  obtain ⟨z134, rfl⟩ := P134
  refine gj_i2l dX9_tellsLand_137 (by exact hldA_R _ _ _ _ _) ?_
  refine gj_ladd dX9_tellsLand_138 ?_
  refine gj_ls4 dX9_tellsLand_139 rfl rfl ?_
  refine gj_ldc2 dX9_tellsLand_141 kX9_295 ?_
  refine gj_ll4 dX9_tellsLand_144 ?_
  refine gj_lmul dX9_tellsLand_146 ?_
  refine gj_al0 dX9_tellsLand_147 ?_
  refine gj_bipush dX9_tellsLand_148 rfl ?_
  refine gj_il3 dX9_tellsLand_150 ?_
  refine gj_cV2w dX9_tellsLand_151 mX9_292 hX9_seasonOf upw_s rfl (by omega) rfl (seasonOfA  (by omega) upw_s (upw_o (by decide) (upw_o (by decide) (upw_o (by decide) q39))) (upw_o (by decide) (upw_o (by decide) (upw_o (by decide) q40))) (upw_o (by decide) (upw_o (by decide) (upw_o (by decide) q41))) hO (by omega)) (fun w151 P151 => ?_)
  obtain ⟨z151, rfl⟩ := P151
  refine gj_i2l dX9_tellsLand_154 (by exact seasA_R _ _ _) ?_
  refine gj_ladd dX9_tellsLand_155 ?_
  exact gj_lret dX9_tellsLand_156 rfl (wr_l rfl ⟨⟨_, _, _, _, _, _, _, _, _, _, _, _, _, _, _, _, _, _, _, hrt, upw_s, (upw_o (by decide) (upw_o (by decide) (upw_o (by decide) (upw_o (by decide) q33)))), (upw_o (by decide) (upw_o (by decide) (upw_o (by decide) (upw_o (by decide) q34)))), (upw_o (by decide) (upw_o (by decide) (upw_o (by decide) (upw_o (by decide) q35)))), (upw_o (by decide) (upw_o (by decide) (upw_o (by decide) (upw_o (by decide) q36)))), (upw_o (by decide) (upw_o (by decide) (upw_o (by decide) (upw_o (by decide) q37)))), (upw_o (by decide) (upw_o (by decide) (upw_o (by decide) (upw_o (by decide) q38)))), (upw_o (by decide) (upw_o (by decide) (upw_o (by decide) (upw_o (by decide) q39)))), (upw_o (by decide) (upw_o (by decide) (upw_o (by decide) (upw_o (by decide) q40)))), (upw_o (by decide) (upw_o (by decide) (upw_o (by decide) (upw_o (by decide) q41)))), (upw_o (by decide) (upw_o (by decide) (upw_o (by decide) (upw_o (by decide) q42)))), hse0, hse1, (upw_o (by decide) (upw_o (by decide) (upw_o (by decide) (upw_o (by decide) q43)))), (upw_o (by decide) (upw_o (by decide) (upw_o (by decide) (upw_o (by decide) q44)))), (upw_o (by decide) (upw_o (by decide) (upw_o (by decide) (upw_o (by decide) q45)))), (upw_o (by decide) (upw_o (by decide) (upw_o (by decide) (upw_o (by decide) q46)))), (upw_o (by decide) (upw_o (by decide) (upw_o (by decide) (upw_o (by decide) q47)))), (upw_o (by decide) (upw_o (by decide) (upw_o (by decide) (upw_o (by decide) q48)))), (upw_o (by decide) (upw_o (by decide) (upw_o (by decide) (upw_o (by decide) q49)))), hsg, hsh⟩, (fun k hk => upw_o (by omega) ((fun k hk => upw_o (by omega) ((fun k hk => upw_o (by omega) ((fun k hk => upw_o (by omega) ((fun (k : Nat) (_ : k < 32) => rfl) k hk)) k hk)) k hk)) k hk))⟩)
set_option maxRecDepth 20000 in
set_option maxHeartbeats 4000000 in
theorem tX9_tellsWays {l : Launch} {x : Cx} {d : Nat} {w : AW} {tx : Int → Int} {by0 : Int} {ru fa fe : Int → Int} {fc lw br me : Int} {mh ml mw : Int → Int} {mn fi : Int} {fm ln : Int → Int} {it : Int → Int → Int} {h l0 : Int} (hd : 6 ≤ d) (hC : ModelR w tx by0 ru fa fe fc lw br me mh ml mw mn fi fm ln it) (hK : ParOK tx by0 ru fa fe fc lw br me mh ml mw mn fi fm ln it) (hl0 : 1 ≤ l0 ∧ l0 ≤ 7) : Mt l x iX9_tellsWays d 0 0 50 w [vR 32, vL h, vI l0] (Wr (vL (dJ1 (warB lw fa ru fe fc) fa tx by0 l0 h)) (fun w2 => ModelR w2 tx by0 ru fa fe fc lw br me mh ml mw mn fi fm ln it ∧ ∀ k : Nat, k < 32 → w2 k = w k)) := by
  obtain ⟨a0, le, bs, bl, bp, mo, sf, sz, im, mv, rd, se, fr, tr, sp, so, lu, bt, sg, hrt, q32, q33, q34, q35, q36, q37, q38, q39, q40, q41, q42, hse0, hse1, q43, q44, q45, q46, q47, q48, q49, hsg, hsh⟩ := hC
  obtain ⟨hT, hO, hbm, hMm, hSh⟩ := hK
  have t9 := hT.1
  have n9 := numF_R (tx := tx) hT.1
  have f9 := hO.2.2.1.1
  have m9 := hMm.1
  refine Mt.of (L0 := [some (vR 32), some (vL h), none, some (vI l0), none, none, none]) rfl rfl rfl ?_
  refine gj_ldc2 dX9_tellsWays_0 kX9_295 ?_
  refine gj_ll1 dX9_tellsWays_3 ?_
  refine gj_lmul dX9_tellsWays_4 ?_
  refine gj_al0 dX9_tellsWays_5 ?_
  refine gj_iconst dX9_tellsWays_6 ?_
  refine gj_il3 dX9_tellsWays_7 ?_
  refine gj_iconst dX9_tellsWays_8 ?_
  refine gj_cV3w dX9_tellsWays_9 mX9_201 hX9_wayOf q32 rfl (by omega) rfl (wayOfA  (by omega) q32 q38 q43 hT hrt (by omega) (by omega) (by omega) (by omega)) (fun w9 P9 => ?_)
  obtain ⟨f9, rfl⟩ := P9
  refine gj_i2l dX9_tellsWays_12 (by exact wayA_R hT _ _ _) ?_
  refine gj_ladd dX9_tellsWays_13 ?_
  refine gj_ls4 dX9_tellsWays_14 rfl rfl ?_
  refine gj_ldc2 dX9_tellsWays_16 kX9_295 ?_
  refine gj_ll4 dX9_tellsWays_19 ?_
  refine gj_lmul dX9_tellsWays_21 ?_
  refine gj_al0 dX9_tellsWays_22 ?_
  refine gj_iconst dX9_tellsWays_23 ?_
  refine gj_il3 dX9_tellsWays_24 ?_
  refine gj_iconst dX9_tellsWays_25 ?_
  refine gj_cV3w dX9_tellsWays_26 mX9_201 hX9_wayOf (upw_o (by decide) q32) rfl (by omega) rfl (wayOfA  (by omega) (upw_o (by decide) q32) (upw_o (by decide) q38) upw_s hT hrt (by omega) (by omega) (by omega) (by omega)) (fun w26 P26 => ?_)
  obtain ⟨f26, rfl⟩ := P26
  refine gj_i2l dX9_tellsWays_29 (by exact wayA_R hT _ _ _) ?_
  refine gj_ladd dX9_tellsWays_30 ?_
  refine gj_ls4 dX9_tellsWays_31 rfl rfl ?_
  refine gj_ldc2 dX9_tellsWays_33 kX9_295 ?_
  refine gj_ll4 dX9_tellsWays_36 ?_
  refine gj_lmul dX9_tellsWays_38 ?_
  refine gj_al0 dX9_tellsWays_39 ?_
  refine gj_iconst dX9_tellsWays_40 ?_
  refine gj_il3 dX9_tellsWays_41 ?_
  refine gj_iconst dX9_tellsWays_42 ?_
  refine gj_iconst dX9_tellsWays_43 ?_
  refine gj_cV4w dX9_tellsWays_44 mX9_213 hX9_raidOf (upw_o (by decide) (upw_o (by decide) q32)) rfl (by omega) rfl (raidOfA  (by omega) (upw_o (by decide) (upw_o (by decide) q32)) (upw_o (by decide) (upw_o (by decide) q38)) (upw_o (by decide) (upw_o (by decide) q39)) (upw_o (by decide) (upw_o (by decide) q40)) (upw_o (by decide) (upw_o (by decide) q41)) upw_s hT hrt hO (by omega) (by omega) (by omega) (by omega) (by omega)) (fun w44 P44 => ?_)
  obtain ⟨f44, rfl⟩ := P44
  refine gj_i2l dX9_tellsWays_47 (by exact raidA_R _ _ _ _ _ _ _) ?_
  refine gj_ladd dX9_tellsWays_48 ?_
  refine gj_ls4 dX9_tellsWays_49 rfl rfl ?_
  refine gj_al0 dX9_tellsWays_51 ?_
  refine gj_il3 dX9_tellsWays_52 ?_
  refine gj_iconst dX9_tellsWays_53 ?_
  refine gj_bipush dX9_tellsWays_54 rfl ?_
  refine gj_cV3v dX9_tellsWays_56 mX9_260 hX9_findHome (upw_o (by decide) (upw_o (by decide) (upw_o (by decide) q32))) rfl (by omega) rfl (tX9_findHome  (by omega) (upw_o (by decide) (upw_o (by decide) (upw_o (by decide) q32))) (upw_o (by decide) (upw_o (by decide) (upw_o (by decide) q38))) (upw_o (by decide) (upw_o (by decide) (upw_o (by decide) q39))) (upw_o (by decide) (upw_o (by decide) (upw_o (by decide) q40))) (upw_o (by decide) (upw_o (by decide) (upw_o (by decide) q41))) (upw_o (by decide) (upw_o (by decide) (upw_o (by decide) q44))) (upw_o (by decide) (upw_o (by decide) (upw_o (by decide) q45))) (upw_o (by decide) (upw_o (by decide) (upw_o (by decide) q46))) (upw_o (by decide) (upw_o (by decide) (upw_o (by decide) q47))) (upw_o (by decide) (upw_o (by decide) (upw_o (by decide) q48))) hT hrt hO (by omega) (by omega) (by omega) (by omega)) (fun w56 P56 => ?_)
  obtain ⟨bs56, bl56, bp56, tr56, sp56, so56, lu56, bt56, e32_56, e44_56, e45_56, e46_56, e47_56, e48_56, fr56, bm56⟩ := P56
  rw [homF_sc (rdt_ed hT hrt) (by omega) (by omega)] at bm56
  have hcan : homF (warB lw fa ru fe fc) fa (mOn rd) (mOt rd) (mHo rd) (numF tx by0) l0 0 30 16777216 = homF (warB lw fa ru fe fc) fa (cOn tx) (cOt tx) (cHo tx) (numF tx by0) l0 0 30 16777216 := wlk_eq n9.1 (rdt_agr hrt) 8 0 _ 0 _ _
  rw [hcan] at bm56
  have hbo := homF_ok (W := (warB lw fa ru fe fc)) (h := 30) (top := 16777216) hO.1 (can_ok hT).ed (show In7 l0 by omega) (show In7 0 by omega) (by omega)
  have hy : ∀ z : Int, -4 ≤ z → z ≤ 7 → z ≠ -1 → homT (homF (warB lw fa ru fe fc) fa (cOn tx) (cOt tx) (cHo tx) (numF tx by0) l0 0 30 16777216) z = homA (warB lw fa ru fe fc) fa tx by0 l0 0 30 z := fun z g0 g1 g2 => (if_pos ⟨⟨by omega, by omega, by omega⟩, by omega, ⟨g0, g1, g2⟩⟩ : homA (warB lw fa ru fe fc) fa tx by0 l0 0 30 z = _).symm
  refine gj_bipush dX9_tellsWays_59 rfl ?_
  refine gj_is6 dX9_tellsWays_61 rfl rfl ?_
  have loop63 : ∀ (k : Nat), ∀ (a z : Int), (-4 ≤ z ∧ z ≤ -1) → (a = foZ (fun q h => 31 * h + homA (warB lw fa ru fe fc) fa tx by0 l0 0 30 (q - 4)) (z + 4) (31 * (31 * (31 * h + wayA tx by0 0 l0 0) + wayA tx by0 0 l0 1) + raidA (warB lw fa ru fe fc) tx by0 0 l0 2 0)) → (-1 - z).toNat < k → Gj l x iX9_tellsWays d 0 0 50 (Wr (vL (dJ1 (warB lw fa ru fe fc) fa tx by0 l0 h)) (fun w2 => ModelR w2 tx by0 ru fa fe fc lw br me mh ml mw mn fi fm ln it ∧ ∀ k : Nat, k < 32 → w2 k = w k)) 0 0 50 w56 63 [some (vR 32), some (vL h), none, some (vI l0), some (vL a), none, some (vI z)] [] := by
    intro k
    induction k with
    | zero => intro _ _ _ _ hm; exact absurd hm (Nat.not_lt_zero _)
    | succ k ih63 =>
      intro a z  hz ha hm63
      refine gj_il6 dX9_tellsWays_63 ?_
      refine gj_iconst dX9_tellsWays_65 ?_
      refine gj_icmp_ge dX9_tellsWays_66 (by omega) (fun h66 => ?_) (fun h66 => ?_)
      · refine gj_ldc2 dX9_tellsWays_91 kX9_295 ?_
        refine gj_ll4 dX9_tellsWays_94 ?_
        refine gj_lmul dX9_tellsWays_96 ?_
        refine gj_al0 dX9_tellsWays_97 ?_
        refine gj_iconst dX9_tellsWays_98 ?_
        refine gj_cV1r dX9_tellsWays_99 mX9_264 hX9_tellsHome e32_56 rfl (by omega) rfl (tX9_tellsHome  (by omega) e32_56 e48_56 bm56 hbo (by omega)) ?_
        rw [hy 1 (by omega) (by omega) (by omega)]
        refine gj_i2l dX9_tellsWays_102 (by exact homA_R hO.1 hT _ _ _ _) ?_
        refine gj_ladd dX9_tellsWays_103 ?_
        exact gj_lret dX9_tellsWays_104 rfl (wr_l (by unfold dJ1; rw [ha, show z + 4 = 3 by omega]) ⟨⟨_, _, _, _, _, _, _, _, _, _, _, _, _, _, _, _, _, _, _, hrt, e32_56, ((fr56 33 (by decide)).trans (upw_o (by decide) (upw_o (by decide) (upw_o (by decide) q33)))), ((fr56 34 (by decide)).trans (upw_o (by decide) (upw_o (by decide) (upw_o (by decide) q34)))), ((fr56 35 (by decide)).trans (upw_o (by decide) (upw_o (by decide) (upw_o (by decide) q35)))), ((fr56 36 (by decide)).trans (upw_o (by decide) (upw_o (by decide) (upw_o (by decide) q36)))), ((fr56 37 (by decide)).trans (upw_o (by decide) (upw_o (by decide) (upw_o (by decide) q37)))), ((fr56 38 (by decide)).trans (upw_o (by decide) (upw_o (by decide) (upw_o (by decide) q38)))), ((fr56 39 (by decide)).trans (upw_o (by decide) (upw_o (by decide) (upw_o (by decide) q39)))), ((fr56 40 (by decide)).trans (upw_o (by decide) (upw_o (by decide) (upw_o (by decide) q40)))), ((fr56 41 (by decide)).trans (upw_o (by decide) (upw_o (by decide) (upw_o (by decide) q41)))), ((fr56 42 (by decide)).trans (upw_o (by decide) (upw_o (by decide) (upw_o (by decide) q42)))), hse0, hse1, ((fr56 43 (by decide)).trans upw_s), e44_56, e45_56, e46_56, e47_56, e48_56, ((fr56 49 (by decide)).trans (upw_o (by decide) (upw_o (by decide) (upw_o (by decide) q49)))), hsg, hsh⟩, (fun k hk => (fr56 k (by omega)).trans ((fun k hk => upw_o (by omega) ((fun k hk => upw_o (by omega) ((fun k hk => upw_o (by omega) ((fun (k : Nat) (_ : k < 32) => rfl) k hk)) k hk)) k hk)) k hk))⟩)
      · refine gj_ldc2 dX9_tellsWays_69 kX9_295 ?_
        refine gj_ll4 dX9_tellsWays_72 ?_
        refine gj_lmul dX9_tellsWays_74 ?_
        refine gj_al0 dX9_tellsWays_75 ?_
        refine gj_il6 dX9_tellsWays_76 ?_
        refine gj_cV1r dX9_tellsWays_78 mX9_264 hX9_tellsHome e32_56 rfl (by omega) rfl (tX9_tellsHome  (by omega) e32_56 e48_56 bm56 hbo (by omega)) ?_
        rw [hy z (by omega) (by omega) (by omega)]
        refine gj_i2l dX9_tellsWays_81 (by exact homA_R hO.1 hT _ _ _ _) ?_
        refine gj_ladd dX9_tellsWays_82 ?_
        refine gj_ls4 dX9_tellsWays_83 rfl rfl ?_
        refine gj_ii6 dX9_tellsWays_85 rfl rfl ?_
        refine gj_goto dX9_tellsWays_88 ?_
        exact ih63 _ _ (by omega) (by rw [show z + 1 + 4 = (z + 4) + 1 by omega, foZ_s _ _ (by omega), ← ha, show z + 4 - 4 = z by omega]) (by omega)
  exact loop63 _ _ _ (by omega) rfl (Nat.lt_succ_self _)
set_option maxRecDepth 20000 in
set_option maxHeartbeats 4000000 in
theorem tX9_digest {l : Launch} {x : Cx} {d : Nat} {w : AW} {tx : Int → Int} {by0 : Int} {ru fa fe : Int → Int} {fc lw br me : Int} {mh ml mw : Int → Int} {mn fi : Int} {fm ln : Int → Int} {it : Int → Int → Int} (hd : 7 ≤ d) (hC : ModelC w tx by0 ru fa fe fc lw br me mh ml mw mn fi fm ln it) (hK : ParOK tx by0 ru fa fe fc lw br me mh ml mw mn fi fm ln it) : Mt l x iX9_digest d 0 0 50 w [vR 32] (Wr (vL (digF tx by0 ru fa fe fc lw br me mh ml mw mn fi)) (fun w2 => ModelC w2 tx by0 ru fa fe fc lw br me mh ml mw mn fi fm ln it ∧ ∀ k : Nat, k < 32 → w2 k = w k)) := by
  have hK0 := hK
  obtain ⟨hT, hO, hbm, hMm, hSh⟩ := hK
  have t9 := hT.1
  have n9 := numF_R (tx := tx) hT.1
  have f9 := hO.2.2.1.1
  have m9 := hMm.1
  refine Mt.of (L0 := [some (vR 32), none, none, none, none]) rfl rfl rfl ?_
  refine gj_ldc2 dX9_digest_0 kX9_297 ?_
  refine gj_ls1 dX9_digest_3 rfl rfl ?_
  refine gj_iconst dX9_digest_4 ?_
  refine gj_is3 dX9_digest_5 rfl rfl ?_
  have loop6 : ∀ (k : Nat), ∀ (wa : AW), ∀ (a i : Int), (ModelC wa tx by0 ru fa fe fc lw br me mh ml mw mn fi fm ln it) → (∀ k : Nat, k < 32 → wa k = w k) → (0 ≤ i ∧ i ≤ 8) → (a = foZ (fun k h => 31 * h + cntA tx by0 fa fc mn br me fi k) i 17) → (8 - i).toNat < k → Gj l x iX9_digest d 0 0 50 (Wr (vL (digF tx by0 ru fa fe fc lw br me mh ml mw mn fi)) (fun w2 => ModelC w2 tx by0 ru fa fe fc lw br me mh ml mw mn fi fm ln it ∧ ∀ k : Nat, k < 32 → w2 k = w k)) 0 0 50 wa 6 [some (vR 32), some (vL a), none, some (vI i), none] [] := by
    intro k
    induction k with
    | zero => intro _ _ _ _ _ _ _ hm; exact absurd hm (Nat.not_lt_zero _)
    | succ k ih6 =>
      intro wa a i hCa fra hi ha hm6
      have hCz := hCa
      obtain ⟨a0, nr, le, bs, bl, bp, mo, sf, sz, im, mv, rd, se, fr, tr, sp, so, lu, bt, sg, q32, q33, q34, q35, q36, q37, q38, q39, q40, q41, q42, hse0, hse1, q43, q44, q45, q46, q47, q48, q49, hsg, hsh⟩ := hCz
      refine gj_il3 dX9_digest_6 ?_
      refine gj_bipush dX9_digest_7 rfl ?_
      refine gj_icmp_ge dX9_digest_9 (by omega) (fun h9 => ?_) (fun h9 => ?_)
      · refine gj_ldc2 dX9_digest_31 kX9_295 ?_
        refine gj_ll1 dX9_digest_34 ?_
        refine gj_lmul dX9_digest_35 ?_
        refine gj_al0 dX9_digest_36 ?_
        refine gj_cV0w dX9_digest_37 mX9_119 hX9_reads q32 rfl (by omega) rfl (tX9_reads  (by omega) q32 q37 q38 hT) (fun w37 P37 => ?_)
        obtain ⟨a37, r37, e32_37, e38_37, rt37, fr37⟩ := P37
        refine gj_i2l dX9_digest_40 (by have := fltF_R (tx := tx) hT.1.1; omega) ?_
        refine gj_ladd dX9_digest_41 ?_
        refine gj_ls1 dX9_digest_42 rfl rfl ?_
        refine gj_iconst dX9_digest_43 ?_
        refine gj_is3 dX9_digest_44 rfl rfl ?_
        have loop45 : ∀ (k : Nat), ∀ (b r : Int), (0 ≤ r ∧ r ≤ (numF tx by0)) → (b = foZ (fun r h => foZ (fun k h => 31 * h + rdA tx by0 r k) 3 h) r (31 * foZ (fun k h => 31 * h + cntA tx by0 fa fc mn br me fi k) 8 17 + fltF tx by0)) → ((numF tx by0) - r).toNat < k → Gj l x iX9_digest d 0 0 50 (Wr (vL (digF tx by0 ru fa fe fc lw br me mh ml mw mn fi)) (fun w2 => ModelC w2 tx by0 ru fa fe fc lw br me mh ml mw mn fi fm ln it ∧ ∀ k : Nat, k < 32 → w2 k = w k)) 0 0 50 w37 45 [some (vR 32), some (vL b), none, some (vI r), none] [] := by
          intro k
          induction k with
          | zero => intro _ _ _ _ hm; exact absurd hm (Nat.not_lt_zero _)
          | succ k ih45 =>
            intro b r  hr hb hm45
            refine gj_il3 dX9_digest_45 ?_
            refine gj_al0 dX9_digest_46 ?_
            refine gj_get dX9_digest_47 fX9_106 e32_37 rfl rfl ?_
            refine gj_icmp_ge dX9_digest_50 (by omega) (fun h50 => ?_) (fun h50 => ?_)
            · refine gj_iconst dX9_digest_93 ?_
              refine gj_is3 dX9_digest_94 rfl rfl ?_
              have loop95 : ∀ (k : Nat), ∀ (wb : AW), ∀ (a i : Int), (ModelR wb tx by0 ru fa fe fc lw br me mh ml mw mn fi fm ln it) → (∀ k : Nat, k < 32 → wb k = w k) → (0 ≤ i ∧ i ≤ 8) → (a = foZ (fun l0 h => dL1 (warB lw fa ru fe fc) br me l0 h) i (dRd tx by0 (31 * foZ (fun k h => 31 * h + cntA tx by0 fa fc mn br me fi k) 8 17 + fltF tx by0))) → (8 - i).toNat < k → Gj l x iX9_digest d 0 0 50 (Wr (vL (digF tx by0 ru fa fe fc lw br me mh ml mw mn fi)) (fun w2 => ModelC w2 tx by0 ru fa fe fc lw br me mh ml mw mn fi fm ln it ∧ ∀ k : Nat, k < 32 → w2 k = w k)) 0 0 50 wb 95 [some (vR 32), some (vL a), none, some (vI i), none] [] := by
                intro k
                induction k with
                | zero => intro _ _ _ _ _ _ _ hm; exact absurd hm (Nat.not_lt_zero _)
                | succ k ih95 =>
                  intro wb a i hCb frb hi ha hm95
                  have hCz := hCb
                  obtain ⟨a0, le, bs, bl, bp, mo, sf, sz, im, mv, rd, se, fr, tr, sp, so, lu, bt, sg, hrt, q32, q33, q34, q35, q36, q37, q38, q39, q40, q41, q42, hse0, hse1, q43, q44, q45, q46, q47, q48, q49, hsg, hsh⟩ := hCz
                  refine gj_il3 dX9_digest_95 ?_
                  refine gj_bipush dX9_digest_96 rfl ?_
                  refine gj_icmp_ge dX9_digest_98 (by omega) (fun h98 => ?_) (fun h98 => ?_)
                  · refine gj_iconst dX9_digest_114 ?_
                    refine gj_is3 dX9_digest_115 rfl rfl ?_
                    have loop116 : ∀ (k : Nat), ∀ (wc : AW), ∀ (a i : Int), (ModelR wc tx by0 ru fa fe fc lw br me mh ml mw mn fi fm ln it) → (∀ k : Nat, k < 32 → wc k = w k) → (1 ≤ i ∧ i ≤ 8) → (a = foZ (fun q h => dJ1 (warB lw fa ru fe fc) fa tx by0 (q + 1) h) (i - 1) (dLd (warB lw fa ru fe fc) br me (dRd tx by0 (31 * foZ (fun k h => 31 * h + cntA tx by0 fa fc mn br me fi k) 8 17 + fltF tx by0)))) → (8 - i).toNat < k → Gj l x iX9_digest d 0 0 50 (Wr (vL (digF tx by0 ru fa fe fc lw br me mh ml mw mn fi)) (fun w2 => ModelC w2 tx by0 ru fa fe fc lw br me mh ml mw mn fi fm ln it ∧ ∀ k : Nat, k < 32 → w2 k = w k)) 0 0 50 wc 116 [some (vR 32), some (vL a), none, some (vI i), none] [] := by
                      intro k
                      induction k with
                      | zero => intro _ _ _ _ _ _ _ hm; exact absurd hm (Nat.not_lt_zero _)
                      | succ k ih116 =>
                        intro wc a i hCc frc hi ha hm116
                        have hCz := hCc
                        obtain ⟨a0, le, bs, bl, bp, mo, sf, sz, im, mv, rd, se, fr, tr, sp, so, lu, bt, sg, hrt, q32, q33, q34, q35, q36, q37, q38, q39, q40, q41, q42, hse0, hse1, q43, q44, q45, q46, q47, q48, q49, hsg, hsh⟩ := hCz
                        refine gj_il3 dX9_digest_116 ?_
                        refine gj_bipush dX9_digest_117 rfl ?_
                        refine gj_icmp_ge dX9_digest_119 (by omega) (fun h119 => ?_) (fun h119 => ?_)
                        · refine gj_iconst dX9_digest_135 ?_
                          refine gj_is3 dX9_digest_136 rfl rfl ?_
                          have loop137 : ∀ (k : Nat), ∀ (a i : Int), (0 ≤ i ∧ i ≤ 16) → (a = foZ (fun k h => 31 * h + strA (warB lw fa ru fe fc) 30 0 (k / 4) (k % 4)) i (dJy (warB lw fa ru fe fc) fa tx by0 (dLd (warB lw fa ru fe fc) br me (dRd tx by0 (31 * foZ (fun k h => 31 * h + cntA tx by0 fa fc mn br me fi k) 8 17 + fltF tx by0))))) → (16 - i).toNat < k → Gj l x iX9_digest d 0 0 50 (Wr (vL (digF tx by0 ru fa fe fc lw br me mh ml mw mn fi)) (fun w2 => ModelC w2 tx by0 ru fa fe fc lw br me mh ml mw mn fi fm ln it ∧ ∀ k : Nat, k < 32 → w2 k = w k)) 0 0 50 wc 137 [some (vR 32), some (vL a), none, some (vI i), none] [] := by
                            intro k
                            induction k with
                            | zero => intro _ _ _ _ hm; exact absurd hm (Nat.not_lt_zero _)
                            | succ k ih137 =>
                              intro a i  hi ha hm137
                              refine gj_il3 dX9_digest_137 ?_
                              refine gj_bipush dX9_digest_138 rfl ?_
                              refine gj_icmp_ge dX9_digest_140 (by omega) (fun h140 => ?_) (fun h140 => ?_)
                              · refine gj_iconst dX9_digest_178 ?_
                                refine gj_is3 dX9_digest_179 rfl rfl ?_
                                have loop180 : ∀ (k : Nat), ∀ (a i : Int), (1 ≤ i ∧ i ≤ 4) → (a = foZ (fun q h => 31 * h + unlA ru 0 (q + 1)) (i - 1) (dKd (warB lw fa ru fe fc) (dJy (warB lw fa ru fe fc) fa tx by0 (dLd (warB lw fa ru fe fc) br me (dRd tx by0 (31 * foZ (fun k h => 31 * h + cntA tx by0 fa fc mn br me fi k) 8 17 + fltF tx by0)))))) → (4 - i).toNat < k → Gj l x iX9_digest d 0 0 50 (Wr (vL (digF tx by0 ru fa fe fc lw br me mh ml mw mn fi)) (fun w2 => ModelC w2 tx by0 ru fa fe fc lw br me mh ml mw mn fi fm ln it ∧ ∀ k : Nat, k < 32 → w2 k = w k)) 0 0 50 wc 180 [some (vR 32), some (vL a), none, some (vI i), none] [] := by
                                  intro k
                                  induction k with
                                  | zero => intro _ _ _ _ hm; exact absurd hm (Nat.not_lt_zero _)
                                  | succ k ih180 =>
                                    intro a i  hi ha hm180
                                    refine gj_il3 dX9_digest_180 ?_
                                    refine gj_iconst dX9_digest_181 ?_
                                    refine gj_icmp_ge dX9_digest_182 (by omega) (fun h182 => ?_) (fun h182 => ?_)
                                    · refine gj_iconst dX9_digest_205 ?_
                                      refine gj_is3 dX9_digest_206 rfl rfl ?_
                                      have loop207 : ∀ (k : Nat), ∀ (a i : Int), (0 ≤ i ∧ i ≤ 3) → (a = foZ (fun k h => 31 * h + agrA ru k) i (foZ (fun q h => 31 * h + unlA ru 0 (q + 1)) 3 (dKd (warB lw fa ru fe fc) (dJy (warB lw fa ru fe fc) fa tx by0 (dLd (warB lw fa ru fe fc) br me (dRd tx by0 (31 * foZ (fun k h => 31 * h + cntA tx by0 fa fc mn br me fi k) 8 17 + fltF tx by0))))))) → (3 - i).toNat < k → Gj l x iX9_digest d 0 0 50 (Wr (vL (digF tx by0 ru fa fe fc lw br me mh ml mw mn fi)) (fun w2 => ModelC w2 tx by0 ru fa fe fc lw br me mh ml mw mn fi fm ln it ∧ ∀ k : Nat, k < 32 → w2 k = w k)) 0 0 50 wc 207 [some (vR 32), some (vL a), none, some (vI i), none] [] := by
                                        intro k
                                        induction k with
                                        | zero => intro _ _ _ _ hm; exact absurd hm (Nat.not_lt_zero _)
                                        | succ k ih207 =>
                                          intro a i  hi ha hm207
                                          refine gj_il3 dX9_digest_207 ?_
                                          refine gj_iconst dX9_digest_208 ?_
                                          refine gj_icmp_ge dX9_digest_209 (by omega) (fun h209 => ?_) (fun h209 => ?_)
                                          · refine gj_iconst dX9_digest_231 ?_
                                            refine gj_is3 dX9_digest_232 rfl rfl ?_
                                            have loop233 : ∀ (k : Nat), ∀ (a i : Int), (0 ≤ i ∧ i ≤ 3) → (a = foZ (fun k h => 31 * h + midA ru k) i (foZ (fun k h => 31 * h + agrA ru k) 3 (foZ (fun q h => 31 * h + unlA ru 0 (q + 1)) 3 (dKd (warB lw fa ru fe fc) (dJy (warB lw fa ru fe fc) fa tx by0 (dLd (warB lw fa ru fe fc) br me (dRd tx by0 (31 * foZ (fun k h => 31 * h + cntA tx by0 fa fc mn br me fi k) 8 17 + fltF tx by0)))))))) → (3 - i).toNat < k → Gj l x iX9_digest d 0 0 50 (Wr (vL (digF tx by0 ru fa fe fc lw br me mh ml mw mn fi)) (fun w2 => ModelC w2 tx by0 ru fa fe fc lw br me mh ml mw mn fi fm ln it ∧ ∀ k : Nat, k < 32 → w2 k = w k)) 0 0 50 wc 233 [some (vR 32), some (vL a), none, some (vI i), none] [] := by
                                              intro k
                                              induction k with
                                              | zero => intro _ _ _ _ hm; exact absurd hm (Nat.not_lt_zero _)
                                              | succ k ih233 =>
                                                intro a i  hi ha hm233
                                                refine gj_il3 dX9_digest_233 ?_
                                                refine gj_iconst dX9_digest_234 ?_
                                                refine gj_icmp_ge dX9_digest_235 (by omega) (fun h235 => ?_) (fun h235 => ?_)
                                                · refine gj_ldc2 dX9_digest_257 kX9_295 ?_
                                                  refine gj_ll1 dX9_digest_260 ?_
                                                  refine gj_lmul dX9_digest_261 ?_
                                                  refine gj_al0 dX9_digest_262 ?_
                                                  refine gj_cV0r dX9_digest_263 mX9_288 hX9_whichNow q32 rfl (by omega) rfl (tX9_whichNow  (by omega) q32 q39 q40 q41 q49 hO hsg hMm) ?_
                                                  refine gj_i2l dX9_digest_266 (by exact wch_R _ _) ?_
                                                  refine gj_ladd dX9_digest_267 ?_
                                                  exact gj_lret dX9_digest_268 rfl (wr_l (by unfold digF dPa; rw [ha, show i = 3 by omega]) ⟨⟨_, _, _, _, _, _, _, _, _, _, _, _, _, _, _, _, _, _, _, _, q32, q33, q34, q35, q36, q37, q38, q39, q40, q41, q42, hse0, hse1, q43, q44, q45, q46, q47, q48, q49, hsg, hsh⟩, frc⟩)
                                                · refine gj_ldc2 dX9_digest_238 kX9_295 ?_
                                                  refine gj_ll1 dX9_digest_241 ?_
                                                  refine gj_lmul dX9_digest_242 ?_
                                                  refine gj_al0 dX9_digest_243 ?_
                                                  refine gj_il3 dX9_digest_244 ?_
                                                  refine gj_cV1r dX9_digest_245 mX9_282 hX9_middleOf q32 rfl (by omega) rfl (middleOfA  (by omega) ⟨⟨_, _, _, _, _, _, _, _, _, _, q32⟩, q39, q40, q41⟩ hO.2.1 (by omega)) ?_
                                                  refine gj_i2l dX9_digest_248 (by exact midA_R hO.2.1 _) ?_
                                                  refine gj_ladd dX9_digest_249 ?_
                                                  refine gj_ls1 dX9_digest_250 rfl rfl ?_
                                                  refine gj_ii3 dX9_digest_251 rfl rfl ?_
                                                  refine gj_goto dX9_digest_254 ?_
                                                  exact ih233 _ _ (by omega) (by rw [foZ_s _ _ hi.1, ← ha]) (by omega)
                                            exact loop233 _ _ _ (by omega) (by rw [ha, show i = 3 by omega]; rfl) (Nat.lt_succ_self _)
                                          · refine gj_ldc2 dX9_digest_212 kX9_295 ?_
                                            refine gj_ll1 dX9_digest_215 ?_
                                            refine gj_lmul dX9_digest_216 ?_
                                            refine gj_al0 dX9_digest_217 ?_
                                            refine gj_il3 dX9_digest_218 ?_
                                            refine gj_cV1r dX9_digest_219 mX9_270 hX9_agreeOf q32 rfl (by omega) rfl (agreeOfA  (by omega) ⟨⟨_, _, _, _, _, _, _, _, _, _, q32⟩, q39, q40, q41⟩ hO.2.1 (by omega)) ?_
                                            refine gj_i2l dX9_digest_222 (by exact agrA_R hO.2.1 _) ?_
                                            refine gj_ladd dX9_digest_223 ?_
                                            refine gj_ls1 dX9_digest_224 rfl rfl ?_
                                            refine gj_ii3 dX9_digest_225 rfl rfl ?_
                                            refine gj_goto dX9_digest_228 ?_
                                            exact ih207 _ _ (by omega) (by rw [foZ_s _ _ hi.1, ← ha]) (by omega)
                                      exact loop207 _ _ _ (by omega) (by rw [ha, show i - 1 = 3 by omega]; rfl) (Nat.lt_succ_self _)
                                    · refine gj_ldc2 dX9_digest_185 kX9_295 ?_
                                      refine gj_ll1 dX9_digest_188 ?_
                                      refine gj_lmul dX9_digest_189 ?_
                                      refine gj_al0 dX9_digest_190 ?_
                                      refine gj_iconst dX9_digest_191 ?_
                                      refine gj_il3 dX9_digest_192 ?_
                                      refine gj_cV2r dX9_digest_193 mX9_185 hX9_unlikeOf q32 rfl (by omega) rfl (unlikeOfA  (by omega) ⟨⟨_, _, _, _, _, _, _, _, _, _, q32⟩, q39, q40, q41⟩ hO.2.1 (by omega) (by omega)) ?_
                                      refine gj_i2l dX9_digest_196 (by exact unlA_R hO.2.1 _ _) ?_
                                      refine gj_ladd dX9_digest_197 ?_
                                      refine gj_ls1 dX9_digest_198 rfl rfl ?_
                                      refine gj_ii3 dX9_digest_199 rfl rfl ?_
                                      refine gj_goto dX9_digest_202 ?_
                                      exact ih180 _ _ (by omega) (by rw [show i + 1 - 1 = (i - 1) + 1 by omega, foZ_s _ _ (by omega), ← ha, show i - 1 + 1 = i by omega]) (by omega)
                                exact loop180 _ _ _ (by omega) (by rw [ha, show i = 16 by omega, kd_16 (fun x y h => 31 * h + strA (warB lw fa ru fe fc) 30 0 x y)]; rfl) (Nat.lt_succ_self _)
                              · refine gj_ldc2 dX9_digest_143 kX9_295 ?_
                                refine gj_ll1 dX9_digest_146 ?_
                                refine gj_lmul dX9_digest_147 ?_
                                refine gj_al0 dX9_digest_148 ?_
                                refine gj_bipush dX9_digest_149 rfl ?_
                                refine gj_iconst dX9_digest_151 ?_
                                refine gj_il3 dX9_digest_152 ?_
                                refine gj_iconst dX9_digest_153 ?_
                                refine gj_idiv dX9_digest_154 (by omega) (by omega) ?_
                                refine gj_il3 dX9_digest_155 ?_
                                refine gj_iconst dX9_digest_156 ?_
                                refine gj_irem dX9_digest_157 (by omega) (by omega) ?_
                                refine gj_cV4r dX9_digest_158 mX9_172 hX9_strikesNow q32 rfl (by omega) rfl (tX9_strikesNow  (by omega) ⟨⟨_, _, _, _, _, _, _, _, _, _, q32⟩, q39, q40, q41⟩ hO (by omega) (by omega) (by omega) (by omega)) ?_
                                refine gj_ifB_eq dX9_digest_161 (fun h161 => ?_) (fun h161 => ?_)
                                · refine gj_iconst dX9_digest_168 ?_
                                  refine gj_i2l dX9_digest_169 (by omega) ?_
                                  refine gj_ladd dX9_digest_170 ?_
                                  refine gj_ls1 dX9_digest_171 rfl rfl ?_
                                  refine gj_ii3 dX9_digest_172 rfl rfl ?_
                                  refine gj_goto dX9_digest_175 ?_
                                  exact ih137 _ _ (by omega) (by rw [foZ_s _ _ hi.1, ← ha, str_y (by omega) (by omega) (by omega) (by omega), b2i_f h161]) (by omega)
                                · refine gj_iconst dX9_digest_164 ?_
                                  refine gj_goto dX9_digest_165 ?_
                                  refine gj_i2l dX9_digest_169 (by omega) ?_
                                  refine gj_ladd dX9_digest_170 ?_
                                  refine gj_ls1 dX9_digest_171 rfl rfl ?_
                                  refine gj_ii3 dX9_digest_172 rfl rfl ?_
                                  refine gj_goto dX9_digest_175 ?_
                                  exact ih137 _ _ (by omega) (by rw [foZ_s _ _ hi.1, ← ha, str_y (by omega) (by omega) (by omega) (by omega), b2i_t h161]) (by omega)
                          exact loop137 _ _ _ (by omega) (by rw [ha, show i - 1 = 7 by omega]; rfl) (Nat.lt_succ_self _)
                        · refine gj_al0 dX9_digest_122 ?_
                          refine gj_ll1 dX9_digest_123 ?_
                          refine gj_il3 dX9_digest_124 ?_
                          refine gj_cV2w dX9_digest_125 mX9_306 hX9_tellsWays q32 rfl (by omega) rfl (tX9_tellsWays  (by omega) hCc hK0 (by omega)) (fun w125 P125 => ?_)
                          obtain ⟨cc125, fr125⟩ := P125
                          refine gj_ls1 dX9_digest_128 rfl rfl ?_
                          refine gj_ii3 dX9_digest_129 rfl rfl ?_
                          refine gj_goto dX9_digest_132 ?_
                          exact ih116 _ _ _ cc125 (fun k hk => (fr125 k hk).trans (frc k hk)) (by omega) (by rw [show i + 1 - 1 = (i - 1) + 1 by omega, foZ_s _ _ (by omega), ← ha, show i - 1 + 1 = i by omega]) (by omega)
                    exact loop116 _ _ _ _ hCb frb (by omega) (by rw [ha, show i = 8 by omega]; rfl) (Nat.lt_succ_self _)
                  · refine gj_al0 dX9_digest_101 ?_
                    refine gj_ll1 dX9_digest_102 ?_
                    refine gj_il3 dX9_digest_103 ?_
                    refine gj_cV2w dX9_digest_104 mX9_302 hX9_tellsLand q32 rfl (by omega) rfl (tX9_tellsLand  (by omega) hCb hK0 (by omega)) (fun w104 P104 => ?_)
                    obtain ⟨cc104, fr104⟩ := P104
                    refine gj_ls1 dX9_digest_107 rfl rfl ?_
                    refine gj_ii3 dX9_digest_108 rfl rfl ?_
                    refine gj_goto dX9_digest_111 ?_
                    exact ih95 _ _ _ cc104 (fun k hk => (fr104 k hk).trans (frb k hk)) (by omega) (by rw [foZ_s _ _ hi.1, ← ha]) (by omega)
              exact loop95 _ _ _ _ ⟨_, _, _, _, _, _, _, _, _, _, _, _, _, _, _, _, _, _, _, rt37, e32_37, ((fr37 33 (by decide)).trans q33), ((fr37 34 (by decide)).trans q34), ((fr37 35 (by decide)).trans q35), ((fr37 36 (by decide)).trans q36), ((fr37 37 (by decide)).trans q37), e38_37, ((fr37 39 (by decide)).trans q39), ((fr37 40 (by decide)).trans q40), ((fr37 41 (by decide)).trans q41), ((fr37 42 (by decide)).trans q42), hse0, hse1, ((fr37 43 (by decide)).trans q43), ((fr37 44 (by decide)).trans q44), ((fr37 45 (by decide)).trans q45), ((fr37 46 (by decide)).trans q46), ((fr37 47 (by decide)).trans q47), ((fr37 48 (by decide)).trans q48), ((fr37 49 (by decide)).trans q49), hsg, hsh⟩ (fun k hk => (fr37 k (by omega)).trans (fra k hk)) (by omega) (by rw [hb, show r = (numF tx by0) by omega]; rfl) (Nat.lt_succ_self _)
            · refine gj_iconst dX9_digest_53 ?_
              refine gj_is4 dX9_digest_54 rfl rfl ?_
              have loop56 : ∀ (k : Nat), ∀ (c q : Int), (0 ≤ q ∧ q ≤ 3) → (c = foZ (fun k h => 31 * h + rdA tx by0 r k) q b) → (3 - q).toNat < k → Gj l x iX9_digest d 0 0 50 (Wr (vL (digF tx by0 ru fa fe fc lw br me mh ml mw mn fi)) (fun w2 => ModelC w2 tx by0 ru fa fe fc lw br me mh ml mw mn fi fm ln it ∧ ∀ k : Nat, k < 32 → w2 k = w k)) 0 0 50 w37 56 [some (vR 32), some (vL c), none, some (vI r), some (vI q)] [] := by
                intro k
                induction k with
                | zero => intro _ _ _ _ hm; exact absurd hm (Nat.not_lt_zero _)
                | succ k ih56 =>
                  intro c q  hq hc hm56
                  refine gj_il4 dX9_digest_56 ?_
                  refine gj_iconst dX9_digest_58 ?_
                  refine gj_icmp_ge dX9_digest_59 (by omega) (fun h59 => ?_) (fun h59 => ?_)
                  · refine gj_ii3 dX9_digest_87 rfl rfl ?_
                    refine gj_goto dX9_digest_90 ?_
                    refine gj_dr4 ?_
                    exact ih45 _ _ (by omega) (by rw [foZ_s _ _ hr.1, ← hb, hc, show q = 3 by omega]) (by omega)
                  · refine gj_ldc2 dX9_digest_62 kX9_295 ?_
                    refine gj_ll1 dX9_digest_65 ?_
                    refine gj_lmul dX9_digest_66 ?_
                    refine gj_al0 dX9_digest_67 ?_
                    refine gj_get dX9_digest_68 fX9_25 e32_37 rfl rfl ?_
                    refine gj_iconst dX9_digest_71 ?_
                    refine gj_il3 dX9_digest_72 ?_
                    refine gj_imul dX9_digest_73 ?_
                    refine gj_il4 dX9_digest_74 ?_
                    refine gj_iadd dX9_digest_76 ?_
                    refine gj_iald dX9_digest_77 e38_37 rfl rfl (by omega) ?_
                    rw [rd_A rt37 (by omega) (by omega)]
                    refine gj_i2l dX9_digest_78 (by exact rdA_R hT _ _) ?_
                    refine gj_ladd dX9_digest_79 ?_
                    refine gj_ls1 dX9_digest_80 rfl rfl ?_
                    refine gj_ii4 dX9_digest_81 rfl rfl ?_
                    refine gj_goto dX9_digest_84 ?_
                    exact ih56 _ _ (by omega) (by rw [foZ_s _ _ hq.1, ← hc]) (by omega)
              exact loop56 _ _ _ (by omega) rfl (Nat.lt_succ_self _)
        exact loop45 _ _ _ (by omega) (by rw [ha, show i = 8 by omega]; rfl) (Nat.lt_succ_self _)
      · refine gj_ldc2 dX9_digest_12 kX9_295 ?_
        refine gj_ll1 dX9_digest_15 ?_
        refine gj_lmul dX9_digest_16 ?_
        refine gj_al0 dX9_digest_17 ?_
        refine gj_il3 dX9_digest_18 ?_
        refine gj_cV1w dX9_digest_19 mX9_299 hX9_count q32 rfl (by omega) rfl (tX9_count  (by omega) hCa hK0 (by omega)) (fun w19 P19 => ?_)
        obtain ⟨cc19, fr19⟩ := P19
        refine gj_i2l dX9_digest_22 (by exact cntA_R hT hO.1 (by omega) (by omega) (by omega) (by omega) _ (by omega)) ?_
        refine gj_ladd dX9_digest_23 ?_
        refine gj_ls1 dX9_digest_24 rfl rfl ?_
        refine gj_ii3 dX9_digest_25 rfl rfl ?_
        refine gj_goto dX9_digest_28 ?_
        exact ih6 _ _ _ cc19 (fun k hk => (fr19 k hk).trans (fra k hk)) (by omega) (by rw [foZ_s _ _ hi.1, ← ha]) (by omega)
  exact loop6 _ _ _ _ hC (fun (k : Nat) (_ : k < 32) => rfl) (by omega) rfl (Nat.lt_succ_self _)
