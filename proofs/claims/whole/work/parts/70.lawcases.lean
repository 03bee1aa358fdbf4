/-! the law's cases: the class and the model answer alike, and both go on alike -/
def LInv (w : AW) : Prop := ∃ (tx : Int → Int) (by0 : Int) (ru fa fe : Int → Int) (fc lw br me : Int) (mh ml mw : Int → Int) (mn fi : Int) (fm ln : Int → Int) (it : Int → Int → Int), ClassC w tx by0 ru fa fe fc lw br me mh ml mw mn fi fm ln it ∧ ModelC w tx by0 ru fa fe fc lw br me mh ml mw mn fi fm ln it
theorem ClassC.fr {w w2 : AW} {tx : Int → Int} {by0 : Int} {ru fa fe : Int → Int} {fc lw br me : Int} {mh ml mw : Int → Int} {mn fi : Int} {fm ln : Int → Int} {it : Int → Int → Int} (h : ClassC w tx by0 ru fa fe fc lw br me mh ml mw mn fi fm ln it) (fr : ∀ k : Nat, k < 32 → w2 k = w k) : ClassC w2 tx by0 ru fa fe fc lw br me mh ml mw mn fi fm ln it := by
  obtain ⟨q0, ⟨on, ot, ho, wy, nu, fl, ⟨q1, q2, q3, q4, q5, q6⟩, hRd⟩, ⟨fd, ⟨q9, q10, q11⟩, ⟨q7, q8⟩, hO⟩, ⟨la, be, ne, q12, q13, q14⟩, ⟨sl, q15⟩, hbm, ⟨go, st, bn, B, ra, rb, q16, q17, q18⟩, ⟨⟨q19, q20, q21, q22⟩, hMm⟩, hSh⟩ := h
  exact ⟨(fr 0 (by omega)).trans q0, ⟨on, ot, ho, wy, nu, fl, ⟨(fr 1 (by omega)).trans q1, (fr 2 (by omega)).trans q2, (fr 3 (by omega)).trans q3, (fr 4 (by omega)).trans q4, (fr 5 (by omega)).trans q5, (fr 6 (by omega)).trans q6⟩, hRd⟩, ⟨fd, ⟨(fr 9 (by omega)).trans q9, (fr 10 (by omega)).trans q10, (fr 11 (by omega)).trans q11⟩, ⟨(fr 7 (by omega)).trans q7, (fr 8 (by omega)).trans q8⟩, hO⟩, ⟨la, be, ne, (fr 12 (by omega)).trans q12, (fr 13 (by omega)).trans q13, (fr 14 (by omega)).trans q14⟩, ⟨sl, (fr 15 (by omega)).trans q15⟩, hbm, ⟨go, st, bn, B, ra, rb, (fr 16 (by omega)).trans q16, (fr 17 (by omega)).trans q17, (fr 18 (by omega)).trans q18⟩, ⟨⟨(fr 19 (by omega)).trans q19, (fr 20 (by omega)).trans q20, (fr 21 (by omega)).trans q21, (fr 22 (by omega)).trans q22⟩, hMm⟩, hSh.fr (fun k g1 g2 => fr k (by omega))⟩
theorem ModelC.fr {w w2 : AW} {tx : Int → Int} {by0 : Int} {ru fa fe : Int → Int} {fc lw br me : Int} {mh ml mw : Int → Int} {mn fi : Int} {fm ln : Int → Int} {it : Int → Int → Int} (h : ModelC w tx by0 ru fa fe fc lw br me mh ml mw mn fi fm ln it) (fr : ∀ k : Nat, 32 ≤ k → w2 k = w k) : ModelC w2 tx by0 ru fa fe fc lw br me mh ml mw mn fi fm ln it := by
  obtain ⟨a0, nr, le, bs, bl, bp, mo, sf, sz, im, mv, rd, se, f9, tr, sp, so, lu, bt, sg, q32, q33, q34, q35, q36, q37, q38, q39, q40, q41, q42, hse0, hse1, q43, q44, q45, q46, q47, q48, q49, hsg, hsh⟩ := h
  exact ⟨a0, nr, le, bs, bl, bp, mo, sf, sz, im, mv, rd, se, f9, tr, sp, so, lu, bt, sg, (fr 32 (by omega)).trans q32, (fr 33 (by omega)).trans q33, (fr 34 (by omega)).trans q34, (fr 35 (by omega)).trans q35, (fr 36 (by omega)).trans q36, (fr 37 (by omega)).trans q37, (fr 38 (by omega)).trans q38, (fr 39 (by omega)).trans q39, (fr 40 (by omega)).trans q40, (fr 41 (by omega)).trans q41, (fr 42 (by omega)).trans q42, hse0, hse1, (fr 43 (by omega)).trans q43, (fr 44 (by omega)).trans q44, (fr 45 (by omega)).trans q45, (fr 46 (by omega)).trans q46, (fr 47 (by omega)).trans q47, (fr 48 (by omega)).trans q48, (fr 49 (by omega)).trans q49, hsg, hsh⟩
theorem ModelC.o {w : AW} {tx : Int → Int} {by0 : Int} {ru fa fe : Int → Int} {fc lw br me : Int} {mh ml mw : Int → Int} {mn fi : Int} {fm ln : Int → Int} {it : Int → Int → Int} (h : ModelC w tx by0 ru fa fe fc lw br me mh ml mw mn fi fm ln it) : ∃ fs : List AV, w 32 = cO 9 fs := by
  obtain ⟨a0, nr, le, bs, bl, bp, mo, sf, sz, im, mv, rd, se, f9, tr, sp, so, lu, bt, sg, q32, -⟩ := h
  exact ⟨_, q32⟩
theorem LInv.mk {w2 w3 : AW} {tx : Int → Int} {by0 : Int} {ru fa fe : Int → Int} {fc lw br me : Int} {mh ml mw : Int → Int} {mn fi : Int} {fm ln : Int → Int} {it : Int → Int → Int} (c : ClassC w2 tx by0 ru fa fe fc lw br me mh ml mw mn fi fm ln it) (m : ModelC w3 tx by0 ru fa fe fc lw br me mh ml mw mn fi fm ln it) (fr : ∀ k : Nat, k < 32 → w3 k = w2 k) : LInv w3 := ⟨tx, by0, ru, fa, fe, fc, lw, br, me, mh, ml, mw, mn, fi, fm, ln, it, c.fr fr, m⟩
set_option maxHeartbeats 4000000 in
theorem law_type {l : Launch} {x : Cx} {bb LL : Nat} {xs : Nat → Int32} {w : AW} {tx : Int → Int} {by0 : Int} {ru fa fe : Int → Int} {fc lw br me : Int} {mh ml mw : Int → Int} {mn fi : Int} {fm ln : Int → Int} {it : Int → Int → Int} {i : Int} (hC : ClassC w tx by0 ru fa fe fc lw br me mh ml mw mn fi fm ln it) (hM : ModelC w tx by0 ru fa fe fc lw br me mh ml mw mn fi fm ln it) (hi : 0 ≤ i ∧ i + 6 ≤ (LL : Int)) (hLL : LL ≤ 3072) (K : ∀ w3, LInv w3 → Lj l x bb LL xs 1110 50 w3 1408 (LRi x bb i) []) : Lj l x bb LL xs 1110 50 w 196 (LRi x bb i) [] := by
  have hK := hC.par
  refine lj_al1 dL_196 ?_
  refine lj_scr (k := 1) dL_197 dL_198 dL_199 dL_200 dL_201 (by omega) hLL ?_
  refine lj_callV (As := [vI (xs (i + 1).toNat).toInt]) (S := []) dL_202 mL_13 hX8_type hC.1 rfl rfl rfl rfl rfl (tX8_type (by omega) hC (iZ_R _)) (fun v w2 P => ?_)
  have fr2 : ∀ k : Nat, 32 ≤ k → w2 k = w k := by
    rcases P with ⟨-, -, -, -, fc⟩ | ⟨-, -, -, rfl⟩ | ⟨-, -, rfl⟩
    · exact fc
    · exact fun _ _ => rfl
    · exact fun _ _ => rfl
  have hM2 := hM.fr fr2
  obtain ⟨fs9, h32⟩ := hM2.o
  refine lj_al2 dL_205 ?_
  refine lj_scr (k := 1) dL_206 dL_207 dL_208 dL_209 dL_210 (by omega) hLL ?_
  refine lj_callV (As := [vI (xs (i + 1).toNat).toInt]) (S := v.toList ++ []) dL_211 mL_17 hX9_type h32 rfl (wS_opt v) rfl rfl rfl (tX9_type (by omega) hM2 hK (iZ_R _)) (fun v3 w3 P3 => ?_)
  obtain ⟨a, rfl, rfl, hI⟩ : ∃ a : Int, v = some (vI a) ∧ v3 = some (vI a) ∧ LInv w3 := by
    rcases P with ⟨k1, k2, rfl, kc, kf⟩ | ⟨k1, k2, rfl, rfl⟩ | ⟨k1, rfl, rfl⟩
    · rcases P3 with ⟨m1, m2, rfl, mc, mf⟩ | ⟨m1, m2, rfl, rfl⟩ | ⟨m1, rfl, rfl⟩
      · exact ⟨_, rfl, rfl, LInv.mk kc mc mf⟩
      · exfalso; omega
      · exfalso; omega
    · rcases P3 with ⟨m1, m2, rfl, mc, mf⟩ | ⟨m1, m2, rfl, rfl⟩ | ⟨m1, rfl, rfl⟩
      · exfalso; omega
      · exact ⟨_, rfl, rfl, LInv.mk hC hM2 (fun _ _ => rfl)⟩
      · exfalso; omega
    · rcases P3 with ⟨m1, m2, rfl, mc, mf⟩ | ⟨m1, m2, rfl, rfl⟩ | ⟨m1, rfl, rfl⟩
      · exfalso; omega
      · exfalso; omega
      · exact ⟨_, rfl, rfl, LInv.mk hC hM2 (fun _ _ => rfl)⟩
  simp only [Option.toList, List.cons_append, List.nil_append]
  exact lj_same dL_214 rfl (K w3 hI)
set_option maxHeartbeats 4000000 in
theorem law_wipe {l : Launch} {x : Cx} {bb LL : Nat} {xs : Nat → Int32} {w : AW} {tx : Int → Int} {by0 : Int} {ru fa fe : Int → Int} {fc lw br me : Int} {mh ml mw : Int → Int} {mn fi : Int} {fm ln : Int → Int} {it : Int → Int → Int} {i : Int} (hC : ClassC w tx by0 ru fa fe fc lw br me mh ml mw mn fi fm ln it) (hM : ModelC w tx by0 ru fa fe fc lw br me mh ml mw mn fi fm ln it) (hi : 0 ≤ i ∧ i + 6 ≤ (LL : Int)) (hLL : LL ≤ 3072) (K : ∀ w3, LInv w3 → Lj l x bb LL xs 1110 50 w3 1408 (LRi x bb i) []) : Lj l x bb LL xs 1110 50 w 219 (LRi x bb i) [] := by
  have hK := hC.par
  refine lj_al1 dL_219 ?_
  refine lj_callV (As := []) (S := []) dL_220 mL_18 hX8_wipe hC.1 rfl rfl rfl rfl rfl (tX8_wipe (by omega) hC) (fun v w2 P => ?_)
  have fr2 : ∀ k : Nat, 32 ≤ k → w2 k = w k := by
    obtain ⟨-, -, fc⟩ := P
    exact fc
  have hM2 := hM.fr fr2
  obtain ⟨fs9, h32⟩ := hM2.o
  refine lj_al2 dL_223 ?_
  refine lj_callV (As := []) (S := v.toList ++ []) dL_224 mL_22 hX9_wipe h32 rfl (wS_opt v) rfl rfl rfl (tX9_wipe (by omega) hM2 hK) (fun v3 w3 P3 => ?_)
  obtain ⟨a, rfl, rfl, hI⟩ : ∃ a : Int, v = some (vI a) ∧ v3 = some (vI a) ∧ LInv w3 := by
    obtain ⟨rfl, kc, kf⟩ := P
    obtain ⟨rfl, mc, mf⟩ := P3
    exact ⟨_, rfl, rfl, LInv.mk kc mc mf⟩
  simp only [Option.toList, List.cons_append, List.nil_append]
  exact lj_same dL_227 rfl (K w3 hI)
set_option maxHeartbeats 4000000 in
theorem law_undo {l : Launch} {x : Cx} {bb LL : Nat} {xs : Nat → Int32} {w : AW} {tx : Int → Int} {by0 : Int} {ru fa fe : Int → Int} {fc lw br me : Int} {mh ml mw : Int → Int} {mn fi : Int} {fm ln : Int → Int} {it : Int → Int → Int} {i : Int} (hC : ClassC w tx by0 ru fa fe fc lw br me mh ml mw mn fi fm ln it) (hM : ModelC w tx by0 ru fa fe fc lw br me mh ml mw mn fi fm ln it) (hi : 0 ≤ i ∧ i + 6 ≤ (LL : Int)) (hLL : LL ≤ 3072) (K : ∀ w3, LInv w3 → Lj l x bb LL xs 1110 50 w3 1408 (LRi x bb i) []) : Lj l x bb LL xs 1110 50 w 232 (LRi x bb i) [] := by
  have hK := hC.par
  refine lj_al1 dL_232 ?_
  refine lj_callV (As := []) (S := []) dL_233 mL_23 hX8_undo hC.1 rfl rfl rfl rfl rfl (tX8_undo (by omega) hC) (fun v w2 P => ?_)
  have fr2 : ∀ k : Nat, 32 ≤ k → w2 k = w k := by
    rcases P with ⟨-, -, -, fc⟩ | ⟨-, -, rfl⟩
    · exact fc
    · exact fun _ _ => rfl
  have hM2 := hM.fr fr2
  obtain ⟨fs9, h32⟩ := hM2.o
  refine lj_al2 dL_236 ?_
  refine lj_callV (As := []) (S := v.toList ++ []) dL_237 mL_26 hX9_undo h32 rfl (wS_opt v) rfl rfl rfl (tX9_undo (by omega) hM2 hK) (fun v3 w3 P3 => ?_)
  obtain ⟨a, rfl, rfl, hI⟩ : ∃ a : Int, v = some (vI a) ∧ v3 = some (vI a) ∧ LInv w3 := by
    rcases P with ⟨k1, rfl, kc, kf⟩ | ⟨k1, rfl, rfl⟩
    · rcases P3 with ⟨m1, rfl, mc, mf⟩ | ⟨m1, rfl, rfl⟩
      · exact ⟨_, rfl, rfl, LInv.mk kc mc mf⟩
      · exfalso; omega
    · rcases P3 with ⟨m1, rfl, mc, mf⟩ | ⟨m1, rfl, rfl⟩
      · exfalso; omega
      · exact ⟨_, rfl, rfl, LInv.mk hC hM2 (fun _ _ => rfl)⟩
  simp only [Option.toList, List.cons_append, List.nil_append]
  exact lj_same dL_240 rfl (K w3 hI)
set_option maxHeartbeats 4000000 in
theorem law_fault {l : Launch} {x : Cx} {bb LL : Nat} {xs : Nat → Int32} {w : AW} {tx : Int → Int} {by0 : Int} {ru fa fe : Int → Int} {fc lw br me : Int} {mh ml mw : Int → Int} {mn fi : Int} {fm ln : Int → Int} {it : Int → Int → Int} {i : Int} (hC : ClassC w tx by0 ru fa fe fc lw br me mh ml mw mn fi fm ln it) (hM : ModelC w tx by0 ru fa fe fc lw br me mh ml mw mn fi fm ln it) (hi : 0 ≤ i ∧ i + 6 ≤ (LL : Int)) (hLL : LL ≤ 3072) (K : ∀ w3, LInv w3 → Lj l x bb LL xs 1110 50 w3 1408 (LRi x bb i) []) : Lj l x bb LL xs 1110 50 w 245 (LRi x bb i) [] := by
  have hK := hC.par
  refine lj_al1 dL_245 ?_
  refine lj_callV (As := []) (S := []) dL_246 mL_27 hX8_fault hC.1 rfl rfl rfl rfl rfl (tX8_fault (by omega) hC) (fun v w2 P => ?_)
  have fr2 : ∀ k : Nat, 32 ≤ k → w2 k = w k := by
    obtain ⟨-, rfl⟩ := P
    exact fun _ _ => rfl
  have hM2 := hM.fr fr2
  obtain ⟨fs9, h32⟩ := hM2.o
  refine lj_al2 dL_249 ?_
  refine lj_callV (As := []) (S := v.toList ++ []) dL_250 mL_30 hX9_fault h32 rfl (wS_opt v) rfl rfl rfl (tX9_fault (by omega) hM2 hK) (fun v3 w3 P3 => ?_)
  obtain ⟨a, rfl, rfl, hI⟩ : ∃ a : Int, v = some (vI a) ∧ v3 = some (vI a) ∧ LInv w3 := by
    obtain ⟨rfl, rfl⟩ := P
    obtain ⟨rfl, mc, mf⟩ := P3
    exact ⟨_, rfl, rfl, LInv.mk hC mc mf⟩
  simp only [Option.toList, List.cons_append, List.nil_append]
  exact lj_same dL_253 rfl (K w3 hI)
set_option maxHeartbeats 4000000 in
theorem law_road {l : Launch} {x : Cx} {bb LL : Nat} {xs : Nat → Int32} {w : AW} {tx : Int → Int} {by0 : Int} {ru fa fe : Int → Int} {fc lw br me : Int} {mh ml mw : Int → Int} {mn fi : Int} {fm ln : Int → Int} {it : Int → Int → Int} {i : Int} (hC : ClassC w tx by0 ru fa fe fc lw br me mh ml mw mn fi fm ln it) (hM : ModelC w tx by0 ru fa fe fc lw br me mh ml mw mn fi fm ln it) (hi : 0 ≤ i ∧ i + 6 ≤ (LL : Int)) (hLL : LL ≤ 3072) (K : ∀ w3, LInv w3 → Lj l x bb LL xs 1110 50 w3 1408 (LRi x bb i) []) : Lj l x bb LL xs 1110 50 w 258 (LRi x bb i) [] := by
  have hK := hC.par
  refine lj_al1 dL_258 ?_
  refine lj_scr (k := 1) dL_259 dL_260 dL_261 dL_262 dL_263 (by omega) hLL ?_
  refine lj_scr (k := 2) dL_264 dL_265 dL_266 dL_267 dL_268 (by omega) hLL ?_
  refine lj_callV (As := [vI (xs (i + 1).toNat).toInt, vI (xs (i + 2).toNat).toInt]) (S := []) dL_269 mL_31 hX8_road hC.1 rfl rfl rfl rfl rfl (tX8_road (by omega) hC (iZ_R _) (iZ_R _)) (fun v w2 P => ?_)
  have fr2 : ∀ k : Nat, 32 ≤ k → w2 k = w k := by
    obtain ⟨-, rfl⟩ := P
    exact fun _ _ => rfl
  have hM2 := hM.fr fr2
  obtain ⟨fs9, h32⟩ := hM2.o
  refine lj_al2 dL_272 ?_
  refine lj_scr (k := 1) dL_273 dL_274 dL_275 dL_276 dL_277 (by omega) hLL ?_
  refine lj_scr (k := 2) dL_278 dL_279 dL_280 dL_281 dL_282 (by omega) hLL ?_
  refine lj_callV (As := [vI (xs (i + 1).toNat).toInt, vI (xs (i + 2).toNat).toInt]) (S := v.toList ++ []) dL_283 mL_35 hX9_road h32 rfl (wS_opt v) rfl rfl rfl (tX9_road (by omega) hM2 hK (iZ_R _) (iZ_R _)) (fun v3 w3 P3 => ?_)
  obtain ⟨a, rfl, rfl, hI⟩ : ∃ a : Int, v = some (vI a) ∧ v3 = some (vI a) ∧ LInv w3 := by
    obtain ⟨rfl, rfl⟩ := P
    obtain ⟨rfl, mc, mf⟩ := P3
    exact ⟨_, rfl, rfl, LInv.mk hC mc mf⟩
  simp only [Option.toList, List.cons_append, List.nil_append]
  exact lj_same dL_286 rfl (K w3 hI)
set_option maxHeartbeats 4000000 in
theorem law_land {l : Launch} {x : Cx} {bb LL : Nat} {xs : Nat → Int32} {w : AW} {tx : Int → Int} {by0 : Int} {ru fa fe : Int → Int} {fc lw br me : Int} {mh ml mw : Int → Int} {mn fi : Int} {fm ln : Int → Int} {it : Int → Int → Int} {i : Int} (hC : ClassC w tx by0 ru fa fe fc lw br me mh ml mw mn fi fm ln it) (hM : ModelC w tx by0 ru fa fe fc lw br me mh ml mw mn fi fm ln it) (hi : 0 ≤ i ∧ i + 6 ≤ (LL : Int)) (hLL : LL ≤ 3072) (K : ∀ w3, LInv w3 → Lj l x bb LL xs 1110 50 w3 1408 (LRi x bb i) []) : Lj l x bb LL xs 1110 50 w 291 (LRi x bb i) [] := by
  have hK := hC.par
  refine lj_al1 dL_291 ?_
  refine lj_scr (k := 1) dL_292 dL_293 dL_294 dL_295 dL_296 (by omega) hLL ?_
  refine lj_scr (k := 2) dL_297 dL_298 dL_299 dL_300 dL_301 (by omega) hLL ?_
  refine lj_scr (k := 3) dL_302 dL_303 dL_304 dL_305 dL_306 (by omega) hLL ?_
  refine lj_callV (As := [vI (xs (i + 1).toNat).toInt, vI (xs (i + 2).toNat).toInt, vI (xs (i + 3).toNat).toInt]) (S := []) dL_307 mL_36 hX8_land hC.1 rfl rfl rfl rfl rfl (tX8_land (by omega) hC (iZ_R _) (iZ_R _) (iZ_R _)) (fun v w2 P => ?_)
  have fr2 : ∀ k : Nat, 32 ≤ k → w2 k = w k := by
    rcases P with ⟨-, -, -, fc⟩ | ⟨-, -, rfl⟩
    · exact fc
    · exact fun _ _ => rfl
  have hM2 := hM.fr fr2
  obtain ⟨fs9, h32⟩ := hM2.o
  refine lj_al2 dL_310 ?_
  refine lj_scr (k := 1) dL_311 dL_312 dL_313 dL_314 dL_315 (by omega) hLL ?_
  refine lj_scr (k := 2) dL_316 dL_317 dL_318 dL_319 dL_320 (by omega) hLL ?_
  refine lj_scr (k := 3) dL_321 dL_322 dL_323 dL_324 dL_325 (by omega) hLL ?_
  refine lj_callV (As := [vI (xs (i + 1).toNat).toInt, vI (xs (i + 2).toNat).toInt, vI (xs (i + 3).toNat).toInt]) (S := v.toList ++ []) dL_326 mL_40 hX9_land h32 rfl (wS_opt v) rfl rfl rfl (tX9_land (by omega) hM2 hK (iZ_R _) (iZ_R _) (iZ_R _)) (fun v3 w3 P3 => ?_)
  obtain ⟨a, rfl, rfl, hI⟩ : ∃ a : Int, v = some (vI a) ∧ v3 = some (vI a) ∧ LInv w3 := by
    rcases P with ⟨k1, rfl, kc, kf⟩ | ⟨k1, rfl, rfl⟩
    · rcases P3 with ⟨m1, rfl, mc, mf⟩ | ⟨m1, rfl, rfl⟩
      · exact ⟨_, rfl, rfl, LInv.mk kc mc mf⟩
      · exfalso; omega
    · rcases P3 with ⟨m1, rfl, mc, mf⟩ | ⟨m1, rfl, rfl⟩
      · exfalso; omega
      · exact ⟨_, rfl, rfl, LInv.mk hC hM2 (fun _ _ => rfl)⟩
  simp only [Option.toList, List.cons_append, List.nil_append]
  exact lj_same dL_329 rfl (K w3 hI)
set_option maxHeartbeats 4000000 in
theorem law_bell {l : Launch} {x : Cx} {bb LL : Nat} {xs : Nat → Int32} {w : AW} {tx : Int → Int} {by0 : Int} {ru fa fe : Int → Int} {fc lw br me : Int} {mh ml mw : Int → Int} {mn fi : Int} {fm ln : Int → Int} {it : Int → Int → Int} {i : Int} (hC : ClassC w tx by0 ru fa fe fc lw br me mh ml mw mn fi fm ln it) (hM : ModelC w tx by0 ru fa fe fc lw br me mh ml mw mn fi fm ln it) (hi : 0 ≤ i ∧ i + 6 ≤ (LL : Int)) (hLL : LL ≤ 3072) (K : ∀ w3, LInv w3 → Lj l x bb LL xs 1110 50 w3 1408 (LRi x bb i) []) : Lj l x bb LL xs 1110 50 w 334 (LRi x bb i) [] := by
  have hK := hC.par
  refine lj_al1 dL_334 ?_
  refine lj_scr (k := 1) dL_335 dL_336 dL_337 dL_338 dL_339 (by omega) hLL ?_
  refine lj_scr (k := 2) dL_340 dL_341 dL_342 dL_343 dL_344 (by omega) hLL ?_
  refine lj_scr (k := 3) dL_345 dL_346 dL_347 dL_348 dL_349 (by omega) hLL ?_
  refine lj_callV (As := [vI (xs (i + 1).toNat).toInt, vI (xs (i + 2).toNat).toInt, vI (xs (i + 3).toNat).toInt]) (S := []) dL_350 mL_41 hX8_bell hC.1 rfl rfl rfl rfl rfl (tX8_bell (by omega) hC (iZ_R _) (iZ_R _) (iZ_R _)) (fun v w2 P => ?_)
  have fr2 : ∀ k : Nat, 32 ≤ k → w2 k = w k := by
    rcases P with ⟨-, -, -, fc⟩ | ⟨-, -, rfl⟩
    · exact fc
    · exact fun _ _ => rfl
  have hM2 := hM.fr fr2
  obtain ⟨fs9, h32⟩ := hM2.o
  refine lj_al2 dL_353 ?_
  refine lj_scr (k := 1) dL_354 dL_355 dL_356 dL_357 dL_358 (by omega) hLL ?_
  refine lj_scr (k := 2) dL_359 dL_360 dL_361 dL_362 dL_363 (by omega) hLL ?_
  refine lj_scr (k := 3) dL_364 dL_365 dL_366 dL_367 dL_368 (by omega) hLL ?_
  refine lj_callV (As := [vI (xs (i + 1).toNat).toInt, vI (xs (i + 2).toNat).toInt, vI (xs (i + 3).toNat).toInt]) (S := v.toList ++ []) dL_369 mL_44 hX9_bell h32 rfl (wS_opt v) rfl rfl rfl (tX9_bell (by omega) hM2 hK (iZ_R _) (iZ_R _) (iZ_R _)) (fun v3 w3 P3 => ?_)
  obtain ⟨a, rfl, rfl, hI⟩ : ∃ a : Int, v = some (vI a) ∧ v3 = some (vI a) ∧ LInv w3 := by
    rcases P with ⟨k1, rfl, kc, kf⟩ | ⟨k1, rfl, rfl⟩
    · rcases P3 with ⟨m1, rfl, mc, mf⟩ | ⟨m1, rfl, rfl⟩
      · exact ⟨_, rfl, rfl, LInv.mk kc mc mf⟩
      · exfalso; omega
    · rcases P3 with ⟨m1, rfl, mc, mf⟩ | ⟨m1, rfl, rfl⟩
      · exfalso; omega
      · exact ⟨_, rfl, rfl, LInv.mk hC hM2 (fun _ _ => rfl)⟩
  simp only [Option.toList, List.cons_append, List.nil_append]
  exact lj_same dL_372 rfl (K w3 hI)
set_option maxHeartbeats 4000000 in
theorem law_read {l : Launch} {x : Cx} {bb LL : Nat} {xs : Nat → Int32} {w : AW} {tx : Int → Int} {by0 : Int} {ru fa fe : Int → Int} {fc lw br me : Int} {mh ml mw : Int → Int} {mn fi : Int} {fm ln : Int → Int} {it : Int → Int → Int} {i : Int} (hC : ClassC w tx by0 ru fa fe fc lw br me mh ml mw mn fi fm ln it) (hM : ModelC w tx by0 ru fa fe fc lw br me mh ml mw mn fi fm ln it) (hi : 0 ≤ i ∧ i + 6 ≤ (LL : Int)) (hLL : LL ≤ 3072) (K : ∀ w3, LInv w3 → Lj l x bb LL xs 1110 50 w3 1408 (LRi x bb i) []) : Lj l x bb LL xs 1110 50 w 377 (LRi x bb i) [] := by
  have hK := hC.par
  refine lj_al1 dL_377 ?_
  refine lj_scr (k := 1) dL_378 dL_379 dL_380 dL_381 dL_382 (by omega) hLL ?_
  refine lj_callV (As := [vI (xs (i + 1).toNat).toInt]) (S := []) dL_383 mL_45 hX8_read hC.1 rfl rfl rfl rfl rfl (tRead (by omega) hC (iZ_R _)) (fun v w2 P => ?_)
  have fr2 : ∀ k : Nat, 32 ≤ k → w2 k = w k := by
    rcases P with ⟨-, -, -, -, fc⟩ | ⟨-, -, -, -, fc⟩ | ⟨-, -, rfl⟩
    · exact fc
    · exact fc
    · exact fun _ _ => rfl
  have hM2 := hM.fr fr2
  obtain ⟨fs9, h32⟩ := hM2.o
  refine lj_al2 dL_386 ?_
  refine lj_scr (k := 1) dL_387 dL_388 dL_389 dL_390 dL_391 (by omega) hLL ?_
  refine lj_callV (As := [vI (xs (i + 1).toNat).toInt]) (S := v.toList ++ []) dL_392 mL_48 hX9_read h32 rfl (wS_opt v) rfl rfl rfl (tX9_read (by omega) hM2 hK (iZ_R _)) (fun v3 w3 P3 => ?_)
  obtain ⟨a, rfl, rfl, hI⟩ : ∃ a : Int, v = some (vI a) ∧ v3 = some (vI a) ∧ LInv w3 := by
    rcases P with ⟨k1, k2, rfl, kc, kf⟩ | ⟨k1, k2, rfl, kc, kf⟩ | ⟨k1, rfl, rfl⟩
    · rcases P3 with ⟨m1, m2, rfl, mc, mf⟩ | ⟨m1, m2, rfl, mc, mf⟩ | ⟨m1, rfl, rfl⟩
      · exact ⟨_, rfl, rfl, LInv.mk kc mc mf⟩
      · exfalso; omega
      · exfalso; omega
    · rcases P3 with ⟨m1, m2, rfl, mc, mf⟩ | ⟨m1, m2, rfl, mc, mf⟩ | ⟨m1, rfl, rfl⟩
      · exfalso; omega
      · exact ⟨_, rfl, rfl, LInv.mk kc mc mf⟩
      · exfalso; omega
    · rcases P3 with ⟨m1, m2, rfl, mc, mf⟩ | ⟨m1, m2, rfl, mc, mf⟩ | ⟨m1, rfl, rfl⟩
      · exfalso; omega
      · exfalso; omega
      · exact ⟨_, rfl, rfl, LInv.mk hC hM2 (fun _ _ => rfl)⟩
  simp only [Option.toList, List.cons_append, List.nil_append]
  exact lj_same dL_395 rfl (K w3 hI)
set_option maxHeartbeats 4000000 in
theorem law_feast {l : Launch} {x : Cx} {bb LL : Nat} {xs : Nat → Int32} {w : AW} {tx : Int → Int} {by0 : Int} {ru fa fe : Int → Int} {fc lw br me : Int} {mh ml mw : Int → Int} {mn fi : Int} {fm ln : Int → Int} {it : Int → Int → Int} {i : Int} (hC : ClassC w tx by0 ru fa fe fc lw br me mh ml mw mn fi fm ln it) (hM : ModelC w tx by0 ru fa fe fc lw br me mh ml mw mn fi fm ln it) (hi : 0 ≤ i ∧ i + 6 ≤ (LL : Int)) (hLL : LL ≤ 3072) (K : ∀ w3, LInv w3 → Lj l x bb LL xs 1110 50 w3 1408 (LRi x bb i) []) : Lj l x bb LL xs 1110 50 w 400 (LRi x bb i) [] := by
  have hK := hC.par
  refine lj_al1 dL_400 ?_
  refine lj_scr (k := 1) dL_401 dL_402 dL_403 dL_404 dL_405 (by omega) hLL ?_
  refine lj_callV (As := [vI (xs (i + 1).toNat).toInt]) (S := []) dL_406 mL_49 hX8_feast hC.1 rfl rfl rfl rfl rfl (tX8_feast (by omega) hC (iZ_R _)) (fun v w2 P => ?_)
  have fr2 : ∀ k : Nat, 32 ≤ k → w2 k = w k := by
    rcases P with ⟨-, -, -, -, fc⟩ | ⟨-, -, -, rfl⟩ | ⟨-, -, rfl⟩
    · exact fc
    · exact fun _ _ => rfl
    · exact fun _ _ => rfl
  have hM2 := hM.fr fr2
  obtain ⟨fs9, h32⟩ := hM2.o
  refine lj_al2 dL_409 ?_
  refine lj_scr (k := 1) dL_410 dL_411 dL_412 dL_413 dL_414 (by omega) hLL ?_
  refine lj_callV (As := [vI (xs (i + 1).toNat).toInt]) (S := v.toList ++ []) dL_415 mL_52 hX9_feast h32 rfl (wS_opt v) rfl rfl rfl (tX9_feast (by omega) hM2 hK (iZ_R _)) (fun v3 w3 P3 => ?_)
  obtain ⟨a, rfl, rfl, hI⟩ : ∃ a : Int, v = some (vI a) ∧ v3 = some (vI a) ∧ LInv w3 := by
    rcases P with ⟨k1, k2, rfl, kc, kf⟩ | ⟨k1, k2, rfl, rfl⟩ | ⟨k1, rfl, rfl⟩
    · rcases P3 with ⟨m1, m2, rfl, mc, mf⟩ | ⟨m1, m2, rfl, rfl⟩ | ⟨m1, rfl, rfl⟩
      · exact ⟨_, rfl, rfl, LInv.mk kc mc mf⟩
      · exfalso; omega
      · exfalso; omega
    · rcases P3 with ⟨m1, m2, rfl, mc, mf⟩ | ⟨m1, m2, rfl, rfl⟩ | ⟨m1, rfl, rfl⟩
      · exfalso; omega
      · exact ⟨_, rfl, rfl, LInv.mk hC hM2 (fun _ _ => rfl)⟩
      · exfalso; omega
    · rcases P3 with ⟨m1, m2, rfl, mc, mf⟩ | ⟨m1, m2, rfl, rfl⟩ | ⟨m1, rfl, rfl⟩
      · exfalso; omega
      · exfalso; omega
      · exact ⟨_, rfl, rfl, LInv.mk hC hM2 (fun _ _ => rfl)⟩
  simp only [Option.toList, List.cons_append, List.nil_append]
  exact lj_same dL_418 rfl (K w3 hI)
set_option maxHeartbeats 4000000 in
theorem law_back {l : Launch} {x : Cx} {bb LL : Nat} {xs : Nat → Int32} {w : AW} {tx : Int → Int} {by0 : Int} {ru fa fe : Int → Int} {fc lw br me : Int} {mh ml mw : Int → Int} {mn fi : Int} {fm ln : Int → Int} {it : Int → Int → Int} {i : Int} (hC : ClassC w tx by0 ru fa fe fc lw br me mh ml mw mn fi fm ln it) (hM : ModelC w tx by0 ru fa fe fc lw br me mh ml mw mn fi fm ln it) (hi : 0 ≤ i ∧ i + 6 ≤ (LL : Int)) (hLL : LL ≤ 3072) (K : ∀ w3, LInv w3 → Lj l x bb LL xs 1110 50 w3 1408 (LRi x bb i) []) : Lj l x bb LL xs 1110 50 w 423 (LRi x bb i) [] := by
  have hK := hC.par
  refine lj_al1 dL_423 ?_
  refine lj_callV (As := []) (S := []) dL_424 mL_53 hX8_back hC.1 rfl rfl rfl rfl rfl (tX8_back (by omega) hC) (fun v w2 P => ?_)
  have fr2 : ∀ k : Nat, 32 ≤ k → w2 k = w k := by
    rcases P with ⟨-, -, -, fc⟩ | ⟨-, -, rfl⟩
    · exact fc
    · exact fun _ _ => rfl
  have hM2 := hM.fr fr2
  obtain ⟨fs9, h32⟩ := hM2.o
  refine lj_al2 dL_427 ?_
  refine lj_callV (As := []) (S := v.toList ++ []) dL_428 mL_56 hX9_back h32 rfl (wS_opt v) rfl rfl rfl (tX9_back (by omega) hM2 hK) (fun v3 w3 P3 => ?_)
  obtain ⟨a, rfl, rfl, hI⟩ : ∃ a : Int, v = some (vI a) ∧ v3 = some (vI a) ∧ LInv w3 := by
    rcases P with ⟨k1, rfl, kc, kf⟩ | ⟨k1, rfl, rfl⟩
    · rcases P3 with ⟨m1, rfl, mc, mf⟩ | ⟨m1, rfl, rfl⟩
      · exact ⟨_, rfl, rfl, LInv.mk kc mc mf⟩
      · exfalso; omega
    · rcases P3 with ⟨m1, rfl, mc, mf⟩ | ⟨m1, rfl, rfl⟩
      · exfalso; omega
      · exact ⟨_, rfl, rfl, LInv.mk hC hM2 (fun _ _ => rfl)⟩
  simp only [Option.toList, List.cons_append, List.nil_append]
  exact lj_same dL_431 rfl (K w3 hI)
set_option maxHeartbeats 4000000 in
theorem law_lent {l : Launch} {x : Cx} {bb LL : Nat} {xs : Nat → Int32} {w : AW} {tx : Int → Int} {by0 : Int} {ru fa fe : Int → Int} {fc lw br me : Int} {mh ml mw : Int → Int} {mn fi : Int} {fm ln : Int → Int} {it : Int → Int → Int} {i : Int} (hC : ClassC w tx by0 ru fa fe fc lw br me mh ml mw mn fi fm ln it) (hM : ModelC w tx by0 ru fa fe fc lw br me mh ml mw mn fi fm ln it) (hi : 0 ≤ i ∧ i + 6 ≤ (LL : Int)) (hLL : LL ≤ 3072) (K : ∀ w3, LInv w3 → Lj l x bb LL xs 1110 50 w3 1408 (LRi x bb i) []) : Lj l x bb LL xs 1110 50 w 436 (LRi x bb i) [] := by
  have hK := hC.par
  refine lj_al1 dL_436 ?_
  refine lj_scr (k := 1) dL_437 dL_438 dL_439 dL_440 dL_441 (by omega) hLL ?_
  refine lj_callV (As := [vI (xs (i + 1).toNat).toInt]) (S := []) dL_442 mL_57 hX8_lent hC.1 rfl rfl rfl rfl rfl (tX8_lent (by omega) hC (iZ_R _)) (fun v w2 P => ?_)
  have fr2 : ∀ k : Nat, 32 ≤ k → w2 k = w k := by
    rcases P with ⟨-, -, -, fc⟩ | ⟨-, -, rfl⟩
    · exact fc
    · exact fun _ _ => rfl
  have hM2 := hM.fr fr2
  obtain ⟨fs9, h32⟩ := hM2.o
  refine lj_al2 dL_445 ?_
  refine lj_scr (k := 1) dL_446 dL_447 dL_448 dL_449 dL_450 (by omega) hLL ?_
  refine lj_callV (As := [vI (xs (i + 1).toNat).toInt]) (S := v.toList ++ []) dL_451 mL_60 hX9_lent h32 rfl (wS_opt v) rfl rfl rfl (tX9_lent (by omega) hM2 hK (iZ_R _)) (fun v3 w3 P3 => ?_)
  obtain ⟨a, rfl, rfl, hI⟩ : ∃ a : Int, v = some (vI a) ∧ v3 = some (vI a) ∧ LInv w3 := by
    rcases P with ⟨k1, rfl, kc, kf⟩ | ⟨k1, rfl, rfl⟩
    · rcases P3 with ⟨m1, rfl, mc, mf⟩ | ⟨m1, rfl, rfl⟩
      · exact ⟨_, rfl, rfl, LInv.mk kc mc mf⟩
      · exfalso; omega
    · rcases P3 with ⟨m1, rfl, mc, mf⟩ | ⟨m1, rfl, rfl⟩
      · exfalso; omega
      · exact ⟨_, rfl, rfl, LInv.mk hC hM2 (fun _ _ => rfl)⟩
  simp only [Option.toList, List.cons_append, List.nil_append]
  exact lj_same dL_454 rfl (K w3 hI)
set_option maxHeartbeats 4000000 in
theorem law_war {l : Launch} {x : Cx} {bb LL : Nat} {xs : Nat → Int32} {w : AW} {tx : Int → Int} {by0 : Int} {ru fa fe : Int → Int} {fc lw br me : Int} {mh ml mw : Int → Int} {mn fi : Int} {fm ln : Int → Int} {it : Int → Int → Int} {i : Int} (hC : ClassC w tx by0 ru fa fe fc lw br me mh ml mw mn fi fm ln it) (hM : ModelC w tx by0 ru fa fe fc lw br me mh ml mw mn fi fm ln it) (hi : 0 ≤ i ∧ i + 6 ≤ (LL : Int)) (hLL : LL ≤ 3072) (K : ∀ w3, LInv w3 → Lj l x bb LL xs 1110 50 w3 1408 (LRi x bb i) []) : Lj l x bb LL xs 1110 50 w 459 (LRi x bb i) [] := by
  have hK := hC.par
  refine lj_al1 dL_459 ?_
  refine lj_scr (k := 1) dL_460 dL_461 dL_462 dL_463 dL_464 (by omega) hLL ?_
  refine lj_scr (k := 2) dL_465 dL_466 dL_467 dL_468 dL_469 (by omega) hLL ?_
  refine lj_callV (As := [vI (xs (i + 1).toNat).toInt, vI (xs (i + 2).toNat).toInt]) (S := []) dL_470 mL_61 hX8_war hC.1 rfl rfl rfl rfl rfl (tX8_war (by omega) hC (iZ_R _) (iZ_R _)) (fun v w2 P => ?_)
  have fr2 : ∀ k : Nat, 32 ≤ k → w2 k = w k := by
    obtain ⟨-, rfl⟩ := P
    exact fun _ _ => rfl
  have hM2 := hM.fr fr2
  obtain ⟨fs9, h32⟩ := hM2.o
  refine lj_al2 dL_473 ?_
  refine lj_scr (k := 1) dL_474 dL_475 dL_476 dL_477 dL_478 (by omega) hLL ?_
  refine lj_scr (k := 2) dL_479 dL_480 dL_481 dL_482 dL_483 (by omega) hLL ?_
  refine lj_callV (As := [vI (xs (i + 1).toNat).toInt, vI (xs (i + 2).toNat).toInt]) (S := v.toList ++ []) dL_484 mL_64 hX9_war h32 rfl (wS_opt v) rfl rfl rfl (pX9_war (by omega) hM2 hK (iZ_R _) (iZ_R _)) (fun v3 w3 P3 => ?_)
  obtain ⟨a, rfl, rfl, hI⟩ : ∃ a : Int, v = some (vI a) ∧ v3 = some (vI a) ∧ LInv w3 := by
    obtain ⟨rfl, rfl⟩ := P
    obtain ⟨rfl, rfl⟩ := P3
    exact ⟨_, rfl, rfl, LInv.mk hC hM2 (fun _ _ => rfl)⟩
  simp only [Option.toList, List.cons_append, List.nil_append]
  exact lj_same dL_487 rfl (K w3 hI)
set_option maxHeartbeats 4000000 in
theorem law_strikes {l : Launch} {x : Cx} {bb LL : Nat} {xs : Nat → Int32} {w : AW} {tx : Int → Int} {by0 : Int} {ru fa fe : Int → Int} {fc lw br me : Int} {mh ml mw : Int → Int} {mn fi : Int} {fm ln : Int → Int} {it : Int → Int → Int} {i : Int} (hC : ClassC w tx by0 ru fa fe fc lw br me mh ml mw mn fi fm ln it) (hM : ModelC w tx by0 ru fa fe fc lw br me mh ml mw mn fi fm ln it) (hi : 0 ≤ i ∧ i + 6 ≤ (LL : Int)) (hLL : LL ≤ 3072) (K : ∀ w3, LInv w3 → Lj l x bb LL xs 1110 50 w3 1408 (LRi x bb i) []) : Lj l x bb LL xs 1110 50 w 492 (LRi x bb i) [] := by
  have hK := hC.par
  refine lj_al1 dL_492 ?_
  refine lj_scr (k := 1) dL_493 dL_494 dL_495 dL_496 dL_497 (by omega) hLL ?_
  refine lj_scr (k := 2) dL_498 dL_499 dL_500 dL_501 dL_502 (by omega) hLL ?_
  refine lj_scr (k := 3) dL_503 dL_504 dL_505 dL_506 dL_507 (by omega) hLL ?_
  refine lj_scr (k := 4) dL_508 dL_509 dL_510 dL_511 dL_512 (by omega) hLL ?_
  refine lj_callV (As := [vI (xs (i + 1).toNat).toInt, vI (xs (i + 2).toNat).toInt, vI (xs (i + 3).toNat).toInt, vI (xs (i + 4).toNat).toInt]) (S := []) dL_513 mL_65 hX8_strikes hC.1 rfl rfl rfl rfl rfl (tX8_strikes (by omega) hC (iZ_R _) (iZ_R _) (iZ_R _) (iZ_R _)) (fun v w2 P => ?_)
  have fr2 : ∀ k : Nat, 32 ≤ k → w2 k = w k := by
    obtain ⟨-, rfl⟩ := P
    exact fun _ _ => rfl
  have hM2 := hM.fr fr2
  obtain ⟨fs9, h32⟩ := hM2.o
  refine lj_al2 dL_516 ?_
  refine lj_scr (k := 1) dL_517 dL_518 dL_519 dL_520 dL_521 (by omega) hLL ?_
  refine lj_scr (k := 2) dL_522 dL_523 dL_524 dL_525 dL_526 (by omega) hLL ?_
  refine lj_scr (k := 3) dL_527 dL_528 dL_529 dL_530 dL_531 (by omega) hLL ?_
  refine lj_scr (k := 4) dL_532 dL_533 dL_534 dL_535 dL_536 (by omega) hLL ?_
  refine lj_callV (As := [vI (xs (i + 1).toNat).toInt, vI (xs (i + 2).toNat).toInt, vI (xs (i + 3).toNat).toInt, vI (xs (i + 4).toNat).toInt]) (S := v.toList ++ []) dL_537 mL_69 hX9_strikes h32 rfl (wS_opt v) rfl rfl rfl (pX9_strikes (by omega) hM2 hK (iZ_R _) (iZ_R _) (iZ_R _) (iZ_R _)) (fun v3 w3 P3 => ?_)
  obtain ⟨a, rfl, rfl, hI⟩ : ∃ a : Int, v = some (vI a) ∧ v3 = some (vI a) ∧ LInv w3 := by
    obtain ⟨rfl, rfl⟩ := P
    obtain ⟨rfl, rfl⟩ := P3
    exact ⟨_, rfl, rfl, LInv.mk hC hM2 (fun _ _ => rfl)⟩
  simp only [Option.toList, List.cons_append, List.nil_append]
  exact lj_same dL_540 rfl (K w3 hI)
set_option maxHeartbeats 4000000 in
theorem law_next {l : Launch} {x : Cx} {bb LL : Nat} {xs : Nat → Int32} {w : AW} {tx : Int → Int} {by0 : Int} {ru fa fe : Int → Int} {fc lw br me : Int} {mh ml mw : Int → Int} {mn fi : Int} {fm ln : Int → Int} {it : Int → Int → Int} {i : Int} (hC : ClassC w tx by0 ru fa fe fc lw br me mh ml mw mn fi fm ln it) (hM : ModelC w tx by0 ru fa fe fc lw br me mh ml mw mn fi fm ln it) (hi : 0 ≤ i ∧ i + 6 ≤ (LL : Int)) (hLL : LL ≤ 3072) (K : ∀ w3, LInv w3 → Lj l x bb LL xs 1110 50 w3 1408 (LRi x bb i) []) : Lj l x bb LL xs 1110 50 w 545 (LRi x bb i) [] := by
  have hK := hC.par
  refine lj_al1 dL_545 ?_
  refine lj_scr (k := 1) dL_546 dL_547 dL_548 dL_549 dL_550 (by omega) hLL ?_
  refine lj_scr (k := 2) dL_551 dL_552 dL_553 dL_554 dL_555 (by omega) hLL ?_
  refine lj_scr (k := 3) dL_556 dL_557 dL_558 dL_559 dL_560 (by omega) hLL ?_
  refine lj_callV (As := [vI (xs (i + 1).toNat).toInt, vI (xs (i + 2).toNat).toInt, vI (xs (i + 3).toNat).toInt]) (S := []) dL_561 mL_70 hX8_next hC.1 rfl rfl rfl rfl rfl (tX8_next (by omega) hC (iZ_R _) (iZ_R _) (iZ_R _)) (fun v w2 P => ?_)
  have fr2 : ∀ k : Nat, 32 ≤ k → w2 k = w k := by
    obtain ⟨-, rfl⟩ := P
    exact fun _ _ => rfl
  have hM2 := hM.fr fr2
  obtain ⟨fs9, h32⟩ := hM2.o
  refine lj_al2 dL_564 ?_
  refine lj_scr (k := 1) dL_565 dL_566 dL_567 dL_568 dL_569 (by omega) hLL ?_
  refine lj_scr (k := 2) dL_570 dL_571 dL_572 dL_573 dL_574 (by omega) hLL ?_
  refine lj_scr (k := 3) dL_575 dL_576 dL_577 dL_578 dL_579 (by omega) hLL ?_
  refine lj_callV (As := [vI (xs (i + 1).toNat).toInt, vI (xs (i + 2).toNat).toInt, vI (xs (i + 3).toNat).toInt]) (S := v.toList ++ []) dL_580 mL_73 hX9_next h32 rfl (wS_opt v) rfl rfl rfl (pX9_next (by omega) hM2 hK (iZ_R _) (iZ_R _) (iZ_R _)) (fun v3 w3 P3 => ?_)
  obtain ⟨a, rfl, rfl, hI⟩ : ∃ a : Int, v = some (vI a) ∧ v3 = some (vI a) ∧ LInv w3 := by
    obtain ⟨rfl, rfl⟩ := P
    obtain ⟨rfl, rfl⟩ := P3
    exact ⟨_, rfl, rfl, LInv.mk hC hM2 (fun _ _ => rfl)⟩
  simp only [Option.toList, List.cons_append, List.nil_append]
  exact lj_same dL_583 rfl (K w3 hI)
set_option maxHeartbeats 4000000 in
theorem law_left {l : Launch} {x : Cx} {bb LL : Nat} {xs : Nat → Int32} {w : AW} {tx : Int → Int} {by0 : Int} {ru fa fe : Int → Int} {fc lw br me : Int} {mh ml mw : Int → Int} {mn fi : Int} {fm ln : Int → Int} {it : Int → Int → Int} {i : Int} (hC : ClassC w tx by0 ru fa fe fc lw br me mh ml mw mn fi fm ln it) (hM : ModelC w tx by0 ru fa fe fc lw br me mh ml mw mn fi fm ln it) (hi : 0 ≤ i ∧ i + 6 ≤ (LL : Int)) (hLL : LL ≤ 3072) (K : ∀ w3, LInv w3 → Lj l x bb LL xs 1110 50 w3 1408 (LRi x bb i) []) : Lj l x bb LL xs 1110 50 w 588 (LRi x bb i) [] := by
  have hK := hC.par
  refine lj_al1 dL_588 ?_
  refine lj_scr (k := 1) dL_589 dL_590 dL_591 dL_592 dL_593 (by omega) hLL ?_
  refine lj_scr (k := 2) dL_594 dL_595 dL_596 dL_597 dL_598 (by omega) hLL ?_
  refine lj_callV (As := [vI (xs (i + 1).toNat).toInt, vI (xs (i + 2).toNat).toInt]) (S := []) dL_599 mL_74 hX8_left hC.1 rfl rfl rfl rfl rfl (tX8_left (by omega) hC (iZ_R _) (iZ_R _)) (fun v w2 P => ?_)
  have fr2 : ∀ k : Nat, 32 ≤ k → w2 k = w k := by
    obtain ⟨-, rfl⟩ := P
    exact fun _ _ => rfl
  have hM2 := hM.fr fr2
  obtain ⟨fs9, h32⟩ := hM2.o
  refine lj_al2 dL_602 ?_
  refine lj_scr (k := 1) dL_603 dL_604 dL_605 dL_606 dL_607 (by omega) hLL ?_
  refine lj_scr (k := 2) dL_608 dL_609 dL_610 dL_611 dL_612 (by omega) hLL ?_
  refine lj_callV (As := [vI (xs (i + 1).toNat).toInt, vI (xs (i + 2).toNat).toInt]) (S := v.toList ++ []) dL_613 mL_77 hX9_left h32 rfl (wS_opt v) rfl rfl rfl (pX9_left (by omega) hM2 hK (iZ_R _) (iZ_R _)) (fun v3 w3 P3 => ?_)
  obtain ⟨a, rfl, rfl, hI⟩ : ∃ a : Int, v = some (vI a) ∧ v3 = some (vI a) ∧ LInv w3 := by
    obtain ⟨rfl, rfl⟩ := P
    obtain ⟨rfl, rfl⟩ := P3
    exact ⟨_, rfl, rfl, LInv.mk hC hM2 (fun _ _ => rfl)⟩
  simp only [Option.toList, List.cons_append, List.nil_append]
  exact lj_same dL_616 rfl (K w3 hI)
set_option maxHeartbeats 4000000 in
theorem law_best {l : Launch} {x : Cx} {bb LL : Nat} {xs : Nat → Int32} {w : AW} {tx : Int → Int} {by0 : Int} {ru fa fe : Int → Int} {fc lw br me : Int} {mh ml mw : Int → Int} {mn fi : Int} {fm ln : Int → Int} {it : Int → Int → Int} {i : Int} (hC : ClassC w tx by0 ru fa fe fc lw br me mh ml mw mn fi fm ln it) (hM : ModelC w tx by0 ru fa fe fc lw br me mh ml mw mn fi fm ln it) (hi : 0 ≤ i ∧ i + 6 ≤ (LL : Int)) (hLL : LL ≤ 3072) (K : ∀ w3, LInv w3 → Lj l x bb LL xs 1110 50 w3 1408 (LRi x bb i) []) : Lj l x bb LL xs 1110 50 w 621 (LRi x bb i) [] := by
  have hK := hC.par
  refine lj_al1 dL_621 ?_
  refine lj_scr (k := 1) dL_622 dL_623 dL_624 dL_625 dL_626 (by omega) hLL ?_
  refine lj_callV (As := [vI (xs (i + 1).toNat).toInt]) (S := []) dL_627 mL_78 hX8_best hC.1 rfl rfl rfl rfl rfl (tX8_best (by omega) hC (iZ_R _)) (fun v w2 P => ?_)
  have fr2 : ∀ k : Nat, 32 ≤ k → w2 k = w k := by
    obtain ⟨-, rfl⟩ := P
    exact fun _ _ => rfl
  have hM2 := hM.fr fr2
  obtain ⟨fs9, h32⟩ := hM2.o
  refine lj_al2 dL_630 ?_
  refine lj_scr (k := 1) dL_631 dL_632 dL_633 dL_634 dL_635 (by omega) hLL ?_
  refine lj_callV (As := [vI (xs (i + 1).toNat).toInt]) (S := v.toList ++ []) dL_636 mL_81 hX9_best h32 rfl (wS_opt v) rfl rfl rfl (pX9_best (by omega) hM2 hK (iZ_R _)) (fun v3 w3 P3 => ?_)
  obtain ⟨a, rfl, rfl, hI⟩ : ∃ a : Int, v = some (vI a) ∧ v3 = some (vI a) ∧ LInv w3 := by
    obtain ⟨rfl, rfl⟩ := P
    obtain ⟨rfl, rfl⟩ := P3
    exact ⟨_, rfl, rfl, LInv.mk hC hM2 (fun _ _ => rfl)⟩
  simp only [Option.toList, List.cons_append, List.nil_append]
  exact lj_same dL_639 rfl (K w3 hI)
set_option maxHeartbeats 4000000 in
theorem law_unlike {l : Launch} {x : Cx} {bb LL : Nat} {xs : Nat → Int32} {w : AW} {tx : Int → Int} {by0 : Int} {ru fa fe : Int → Int} {fc lw br me : Int} {mh ml mw : Int → Int} {mn fi : Int} {fm ln : Int → Int} {it : Int → Int → Int} {i : Int} (hC : ClassC w tx by0 ru fa fe fc lw br me mh ml mw mn fi fm ln it) (hM : ModelC w tx by0 ru fa fe fc lw br me mh ml mw mn fi fm ln it) (hi : 0 ≤ i ∧ i + 6 ≤ (LL : Int)) (hLL : LL ≤ 3072) (K : ∀ w3, LInv w3 → Lj l x bb LL xs 1110 50 w3 1408 (LRi x bb i) []) : Lj l x bb LL xs 1110 50 w 644 (LRi x bb i) [] := by
  have hK := hC.par
  refine lj_al1 dL_644 ?_
  refine lj_scr (k := 1) dL_645 dL_646 dL_647 dL_648 dL_649 (by omega) hLL ?_
  refine lj_scr (k := 2) dL_650 dL_651 dL_652 dL_653 dL_654 (by omega) hLL ?_
  refine lj_callV (As := [vI (xs (i + 1).toNat).toInt, vI (xs (i + 2).toNat).toInt]) (S := []) dL_655 mL_82 hX8_unlike hC.1 rfl rfl rfl rfl rfl (tX8_unlike (by omega) hC (iZ_R _) (iZ_R _)) (fun v w2 P => ?_)
  have fr2 : ∀ k : Nat, 32 ≤ k → w2 k = w k := by
    obtain ⟨-, rfl⟩ := P
    exact fun _ _ => rfl
  have hM2 := hM.fr fr2
  obtain ⟨fs9, h32⟩ := hM2.o
  refine lj_al2 dL_658 ?_
  refine lj_scr (k := 1) dL_659 dL_660 dL_661 dL_662 dL_663 (by omega) hLL ?_
  refine lj_scr (k := 2) dL_664 dL_665 dL_666 dL_667 dL_668 (by omega) hLL ?_
  refine lj_callV (As := [vI (xs (i + 1).toNat).toInt, vI (xs (i + 2).toNat).toInt]) (S := v.toList ++ []) dL_669 mL_85 hX9_unlike h32 rfl (wS_opt v) rfl rfl rfl (pX9_unlike (by omega) hM2 hK (iZ_R _) (iZ_R _)) (fun v3 w3 P3 => ?_)
  obtain ⟨a, rfl, rfl, hI⟩ : ∃ a : Int, v = some (vI a) ∧ v3 = some (vI a) ∧ LInv w3 := by
    obtain ⟨rfl, rfl⟩ := P
    obtain ⟨rfl, rfl⟩ := P3
    exact ⟨_, rfl, rfl, LInv.mk hC hM2 (fun _ _ => rfl)⟩
  simp only [Option.toList, List.cons_append, List.nil_append]
  exact lj_same dL_672 rfl (K w3 hI)
set_option maxHeartbeats 4000000 in
theorem law_way {l : Launch} {x : Cx} {bb LL : Nat} {xs : Nat → Int32} {w : AW} {tx : Int → Int} {by0 : Int} {ru fa fe : Int → Int} {fc lw br me : Int} {mh ml mw : Int → Int} {mn fi : Int} {fm ln : Int → Int} {it : Int → Int → Int} {i : Int} (hC : ClassC w tx by0 ru fa fe fc lw br me mh ml mw mn fi fm ln it) (hM : ModelC w tx by0 ru fa fe fc lw br me mh ml mw mn fi fm ln it) (hi : 0 ≤ i ∧ i + 6 ≤ (LL : Int)) (hLL : LL ≤ 3072) (K : ∀ w3, LInv w3 → Lj l x bb LL xs 1110 50 w3 1408 (LRi x bb i) []) : Lj l x bb LL xs 1110 50 w 677 (LRi x bb i) [] := by
  have hK := hC.par
  refine lj_al1 dL_677 ?_
  refine lj_scr (k := 1) dL_678 dL_679 dL_680 dL_681 dL_682 (by omega) hLL ?_
  refine lj_scr (k := 2) dL_683 dL_684 dL_685 dL_686 dL_687 (by omega) hLL ?_
  refine lj_scr (k := 3) dL_688 dL_689 dL_690 dL_691 dL_692 (by omega) hLL ?_
  refine lj_callV (As := [vI (xs (i + 1).toNat).toInt, vI (xs (i + 2).toNat).toInt, vI (xs (i + 3).toNat).toInt]) (S := []) dL_693 mL_86 hX8_way hC.1 rfl rfl rfl rfl rfl (tX8_way (by omega) hC (iZ_R _) (iZ_R _) (iZ_R _)) (fun v w2 P => ?_)
  have fr2 : ∀ k : Nat, 32 ≤ k → w2 k = w k := by
    obtain ⟨-, rfl⟩ := P
    exact fun _ _ => rfl
  have hM2 := hM.fr fr2
  obtain ⟨fs9, h32⟩ := hM2.o
  refine lj_al2 dL_696 ?_
  refine lj_scr (k := 1) dL_697 dL_698 dL_699 dL_700 dL_701 (by omega) hLL ?_
  refine lj_scr (k := 2) dL_702 dL_703 dL_704 dL_705 dL_706 (by omega) hLL ?_
  refine lj_scr (k := 3) dL_707 dL_708 dL_709 dL_710 dL_711 (by omega) hLL ?_
  refine lj_callV (As := [vI (xs (i + 1).toNat).toInt, vI (xs (i + 2).toNat).toInt, vI (xs (i + 3).toNat).toInt]) (S := v.toList ++ []) dL_712 mL_89 hX9_way h32 rfl (wS_opt v) rfl rfl rfl (tX9_way (by omega) hM2 hK (iZ_R _) (iZ_R _) (iZ_R _)) (fun v3 w3 P3 => ?_)
  obtain ⟨a, rfl, rfl, hI⟩ : ∃ a : Int, v = some (vI a) ∧ v3 = some (vI a) ∧ LInv w3 := by
    obtain ⟨rfl, rfl⟩ := P
    obtain ⟨rfl, mc, mf⟩ := P3
    exact ⟨_, rfl, rfl, LInv.mk hC mc mf⟩
  simp only [Option.toList, List.cons_append, List.nil_append]
  exact lj_same dL_715 rfl (K w3 hI)
set_option maxHeartbeats 4000000 in
theorem law_raid {l : Launch} {x : Cx} {bb LL : Nat} {xs : Nat → Int32} {w : AW} {tx : Int → Int} {by0 : Int} {ru fa fe : Int → Int} {fc lw br me : Int} {mh ml mw : Int → Int} {mn fi : Int} {fm ln : Int → Int} {it : Int → Int → Int} {i : Int} (hC : ClassC w tx by0 ru fa fe fc lw br me mh ml mw mn fi fm ln it) (hM : ModelC w tx by0 ru fa fe fc lw br me mh ml mw mn fi fm ln it) (hi : 0 ≤ i ∧ i + 6 ≤ (LL : Int)) (hLL : LL ≤ 3072) (K : ∀ w3, LInv w3 → Lj l x bb LL xs 1110 50 w3 1408 (LRi x bb i) []) : Lj l x bb LL xs 1110 50 w 720 (LRi x bb i) [] := by
  have hK := hC.par
  refine lj_al1 dL_720 ?_
  refine lj_scr (k := 1) dL_721 dL_722 dL_723 dL_724 dL_725 (by omega) hLL ?_
  refine lj_scr (k := 2) dL_726 dL_727 dL_728 dL_729 dL_730 (by omega) hLL ?_
  refine lj_scr (k := 3) dL_731 dL_732 dL_733 dL_734 dL_735 (by omega) hLL ?_
  refine lj_scr (k := 4) dL_736 dL_737 dL_738 dL_739 dL_740 (by omega) hLL ?_
  refine lj_callV (As := [vI (xs (i + 1).toNat).toInt, vI (xs (i + 2).toNat).toInt, vI (xs (i + 3).toNat).toInt, vI (xs (i + 4).toNat).toInt]) (S := []) dL_741 mL_90 hX8_raid hC.1 rfl rfl rfl rfl rfl (tX8_raid (by omega) hC (iZ_R _) (iZ_R _) (iZ_R _) (iZ_R _)) (fun v w2 P => ?_)
  have fr2 : ∀ k : Nat, 32 ≤ k → w2 k = w k := by
    obtain ⟨-, -, fc⟩ := P
    exact fc
  have hM2 := hM.fr fr2
  obtain ⟨fs9, h32⟩ := hM2.o
  refine lj_al2 dL_744 ?_
  refine lj_scr (k := 1) dL_745 dL_746 dL_747 dL_748 dL_749 (by omega) hLL ?_
  refine lj_scr (k := 2) dL_750 dL_751 dL_752 dL_753 dL_754 (by omega) hLL ?_
  refine lj_scr (k := 3) dL_755 dL_756 dL_757 dL_758 dL_759 (by omega) hLL ?_
  refine lj_scr (k := 4) dL_760 dL_761 dL_762 dL_763 dL_764 (by omega) hLL ?_
  refine lj_callV (As := [vI (xs (i + 1).toNat).toInt, vI (xs (i + 2).toNat).toInt, vI (xs (i + 3).toNat).toInt, vI (xs (i + 4).toNat).toInt]) (S := v.toList ++ []) dL_765 mL_93 hX9_raid h32 rfl (wS_opt v) rfl rfl rfl (tX9_raid (by omega) hM2 hK (iZ_R _) (iZ_R _) (iZ_R _) (iZ_R _)) (fun v3 w3 P3 => ?_)
  obtain ⟨a, rfl, rfl, hI⟩ : ∃ a : Int, v = some (vI a) ∧ v3 = some (vI a) ∧ LInv w3 := by
    obtain ⟨rfl, kc, kf⟩ := P
    obtain ⟨rfl, mc, mf⟩ := P3
    exact ⟨_, rfl, rfl, LInv.mk kc mc mf⟩
  simp only [Option.toList, List.cons_append, List.nil_append]
  exact lj_same dL_768 rfl (K w3 hI)
set_option maxHeartbeats 4000000 in
theorem law_set {l : Launch} {x : Cx} {bb LL : Nat} {xs : Nat → Int32} {w : AW} {tx : Int → Int} {by0 : Int} {ru fa fe : Int → Int} {fc lw br me : Int} {mh ml mw : Int → Int} {mn fi : Int} {fm ln : Int → Int} {it : Int → Int → Int} {i : Int} (hC : ClassC w tx by0 ru fa fe fc lw br me mh ml mw mn fi fm ln it) (hM : ModelC w tx by0 ru fa fe fc lw br me mh ml mw mn fi fm ln it) (hi : 0 ≤ i ∧ i + 6 ≤ (LL : Int)) (hLL : LL ≤ 3072) (K : ∀ w3, LInv w3 → Lj l x bb LL xs 1110 50 w3 1408 (LRi x bb i) []) : Lj l x bb LL xs 1110 50 w 773 (LRi x bb i) [] := by
  have hK := hC.par
  refine lj_al1 dL_773 ?_
  refine lj_scr (k := 1) dL_774 dL_775 dL_776 dL_777 dL_778 (by omega) hLL ?_
  refine lj_scr (k := 2) dL_779 dL_780 dL_781 dL_782 dL_783 (by omega) hLL ?_
  refine lj_callV (As := [vI (xs (i + 1).toNat).toInt, vI (xs (i + 2).toNat).toInt]) (S := []) dL_784 mL_94 hX8_set hC.1 rfl rfl rfl rfl rfl (tX8_set (by omega) hC (iZ_R _) (iZ_R _)) (fun v w2 P => ?_)
  have fr2 : ∀ k : Nat, 32 ≤ k → w2 k = w k := by
    rcases P with ⟨-, -, -, -, fc⟩ | ⟨-, -, -, -, fc⟩ | ⟨-, -, rfl⟩
    · exact fc
    · exact fc
    · exact fun _ _ => rfl
  have hM2 := hM.fr fr2
  obtain ⟨fs9, h32⟩ := hM2.o
  refine lj_al2 dL_787 ?_
  refine lj_scr (k := 1) dL_788 dL_789 dL_790 dL_791 dL_792 (by omega) hLL ?_
  refine lj_scr (k := 2) dL_793 dL_794 dL_795 dL_796 dL_797 (by omega) hLL ?_
  refine lj_callV (As := [vI (xs (i + 1).toNat).toInt, vI (xs (i + 2).toNat).toInt]) (S := v.toList ++ []) dL_798 mL_97 hX9_set h32 rfl (wS_opt v) rfl rfl rfl (tX9_set (by omega) hM2 hK (iZ_R _) (iZ_R _)) (fun v3 w3 P3 => ?_)
  obtain ⟨a, rfl, rfl, hI⟩ : ∃ a : Int, v = some (vI a) ∧ v3 = some (vI a) ∧ LInv w3 := by
    rcases P with ⟨k1, k2, rfl, kc, kf⟩ | ⟨k1, k2, rfl, kc, kf⟩ | ⟨k1, rfl, rfl⟩
    · rcases P3 with ⟨m1, m2, rfl, mc, mf⟩ | ⟨m1, m2, rfl, mc, mf⟩ | ⟨m1, rfl, rfl⟩
      · exact ⟨_, rfl, rfl, LInv.mk kc mc mf⟩
      · exfalso; omega
      · exfalso; omega
    · rcases P3 with ⟨m1, m2, rfl, mc, mf⟩ | ⟨m1, m2, rfl, mc, mf⟩ | ⟨m1, rfl, rfl⟩
      · exfalso; omega
      · exact ⟨_, rfl, rfl, LInv.mk kc mc mf⟩
      · exfalso; omega
    · rcases P3 with ⟨m1, m2, rfl, mc, mf⟩ | ⟨m1, m2, rfl, mc, mf⟩ | ⟨m1, rfl, rfl⟩
      · exfalso; omega
      · exfalso; omega
      · exact ⟨_, rfl, rfl, LInv.mk hC hM2 (fun _ _ => rfl)⟩
  simp only [Option.toList, List.cons_append, List.nil_append]
  exact lj_same dL_801 rfl (K w3 hI)
set_option maxHeartbeats 4000000 in
theorem law_siege {l : Launch} {x : Cx} {bb LL : Nat} {xs : Nat → Int32} {w : AW} {tx : Int → Int} {by0 : Int} {ru fa fe : Int → Int} {fc lw br me : Int} {mh ml mw : Int → Int} {mn fi : Int} {fm ln : Int → Int} {it : Int → Int → Int} {i : Int} (hC : ClassC w tx by0 ru fa fe fc lw br me mh ml mw mn fi fm ln it) (hM : ModelC w tx by0 ru fa fe fc lw br me mh ml mw mn fi fm ln it) (hi : 0 ≤ i ∧ i + 6 ≤ (LL : Int)) (hLL : LL ≤ 3072) (K : ∀ w3, LInv w3 → Lj l x bb LL xs 1110 50 w3 1408 (LRi x bb i) []) : Lj l x bb LL xs 1110 50 w 806 (LRi x bb i) [] := by
  have hK := hC.par
  refine lj_al1 dL_806 ?_
  refine lj_scr (k := 1) dL_807 dL_808 dL_809 dL_810 dL_811 (by omega) hLL ?_
  refine lj_scr (k := 2) dL_812 dL_813 dL_814 dL_815 dL_816 (by omega) hLL ?_
  refine lj_scr (k := 3) dL_817 dL_818 dL_819 dL_820 dL_821 (by omega) hLL ?_
  refine lj_scr (k := 4) dL_822 dL_823 dL_824 dL_825 dL_826 (by omega) hLL ?_
  refine lj_callV (As := [vI (xs (i + 1).toNat).toInt, vI (xs (i + 2).toNat).toInt, vI (xs (i + 3).toNat).toInt, vI (xs (i + 4).toNat).toInt]) (S := []) dL_827 mL_98 hX8_siege hC.1 rfl rfl rfl rfl rfl (tX8_siege (by omega) hC (iZ_R _) (iZ_R _) (iZ_R _) (iZ_R _)) (fun v w2 P => ?_)
  have fr2 : ∀ k : Nat, 32 ≤ k → w2 k = w k := by
    obtain ⟨-, -, fc⟩ := P
    exact fc
  have hM2 := hM.fr fr2
  obtain ⟨fs9, h32⟩ := hM2.o
  refine lj_al2 dL_830 ?_
  refine lj_scr (k := 1) dL_831 dL_832 dL_833 dL_834 dL_835 (by omega) hLL ?_
  refine lj_scr (k := 2) dL_836 dL_837 dL_838 dL_839 dL_840 (by omega) hLL ?_
  refine lj_scr (k := 3) dL_841 dL_842 dL_843 dL_844 dL_845 (by omega) hLL ?_
  refine lj_scr (k := 4) dL_846 dL_847 dL_848 dL_849 dL_850 (by omega) hLL ?_
  refine lj_callV (As := [vI (xs (i + 1).toNat).toInt, vI (xs (i + 2).toNat).toInt, vI (xs (i + 3).toNat).toInt, vI (xs (i + 4).toNat).toInt]) (S := v.toList ++ []) dL_851 mL_101 hX9_siege h32 rfl (wS_opt v) rfl rfl rfl (tX9_siege (by omega) hM2 hK (iZ_R _) (iZ_R _) (iZ_R _) (iZ_R _)) (fun v3 w3 P3 => ?_)
  obtain ⟨a, rfl, rfl, hI⟩ : ∃ a : Int, v = some (vI a) ∧ v3 = some (vI a) ∧ LInv w3 := by
    obtain ⟨rfl, kc, kf⟩ := P
    obtain ⟨rfl, mc, mf⟩ := P3
    exact ⟨_, rfl, rfl, LInv.mk kc mc mf⟩
  simp only [Option.toList, List.cons_append, List.nil_append]
  exact lj_same dL_854 rfl (K w3 hI)
set_option maxHeartbeats 4000000 in
theorem law_holds {l : Launch} {x : Cx} {bb LL : Nat} {xs : Nat → Int32} {w : AW} {tx : Int → Int} {by0 : Int} {ru fa fe : Int → Int} {fc lw br me : Int} {mh ml mw : Int → Int} {mn fi : Int} {fm ln : Int → Int} {it : Int → Int → Int} {i : Int} (hC : ClassC w tx by0 ru fa fe fc lw br me mh ml mw mn fi fm ln it) (hM : ModelC w tx by0 ru fa fe fc lw br me mh ml mw mn fi fm ln it) (hi : 0 ≤ i ∧ i + 6 ≤ (LL : Int)) (hLL : LL ≤ 3072) (K : ∀ w3, LInv w3 → Lj l x bb LL xs 1110 50 w3 1408 (LRi x bb i) []) : Lj l x bb LL xs 1110 50 w 859 (LRi x bb i) [] := by
  have hK := hC.par
  refine lj_al1 dL_859 ?_
  refine lj_scr (k := 1) dL_860 dL_861 dL_862 dL_863 dL_864 (by omega) hLL ?_
  refine lj_scr (k := 2) dL_865 dL_866 dL_867 dL_868 dL_869 (by omega) hLL ?_
  refine lj_scr (k := 3) dL_870 dL_871 dL_872 dL_873 dL_874 (by omega) hLL ?_
  refine lj_callV (As := [vI (xs (i + 1).toNat).toInt, vI (xs (i + 2).toNat).toInt, vI (xs (i + 3).toNat).toInt]) (S := []) dL_875 mL_102 hX8_holds hC.1 rfl rfl rfl rfl rfl (tX8_holds (by omega) hC (iZ_R _) (iZ_R _) (iZ_R _)) (fun v w2 P => ?_)
  have fr2 : ∀ k : Nat, 32 ≤ k → w2 k = w k := by
    obtain ⟨-, -, fc⟩ := P
    exact fc
  have hM2 := hM.fr fr2
  obtain ⟨fs9, h32⟩ := hM2.o
  refine lj_al2 dL_878 ?_
  refine lj_scr (k := 1) dL_879 dL_880 dL_881 dL_882 dL_883 (by omega) hLL ?_
  refine lj_scr (k := 2) dL_884 dL_885 dL_886 dL_887 dL_888 (by omega) hLL ?_
  refine lj_scr (k := 3) dL_889 dL_890 dL_891 dL_892 dL_893 (by omega) hLL ?_
  refine lj_callV (As := [vI (xs (i + 1).toNat).toInt, vI (xs (i + 2).toNat).toInt, vI (xs (i + 3).toNat).toInt]) (S := v.toList ++ []) dL_894 mL_105 hX9_holds h32 rfl (wS_opt v) rfl rfl rfl (tX9_holds (by omega) hM2 hK (iZ_R _) (iZ_R _) (iZ_R _)) (fun v3 w3 P3 => ?_)
  obtain ⟨a, rfl, rfl, hI⟩ : ∃ a : Int, v = some (vI a) ∧ v3 = some (vI a) ∧ LInv w3 := by
    obtain ⟨rfl, kc, kf⟩ := P
    obtain ⟨rfl, mc, mf⟩ := P3
    exact ⟨_, rfl, rfl, LInv.mk kc mc mf⟩
  simp only [Option.toList, List.cons_append, List.nil_append]
  exact lj_same dL_897 rfl (K w3 hI)
set_option maxHeartbeats 4000000 in
theorem law_home {l : Launch} {x : Cx} {bb LL : Nat} {xs : Nat → Int32} {w : AW} {tx : Int → Int} {by0 : Int} {ru fa fe : Int → Int} {fc lw br me : Int} {mh ml mw : Int → Int} {mn fi : Int} {fm ln : Int → Int} {it : Int → Int → Int} {i : Int} (hC : ClassC w tx by0 ru fa fe fc lw br me mh ml mw mn fi fm ln it) (hM : ModelC w tx by0 ru fa fe fc lw br me mh ml mw mn fi fm ln it) (hi : 0 ≤ i ∧ i + 6 ≤ (LL : Int)) (hLL : LL ≤ 3072) (K : ∀ w3, LInv w3 → Lj l x bb LL xs 1110 50 w3 1408 (LRi x bb i) []) : Lj l x bb LL xs 1110 50 w 902 (LRi x bb i) [] := by
  have hK := hC.par
  refine lj_al1 dL_902 ?_
  refine lj_scr (k := 1) dL_903 dL_904 dL_905 dL_906 dL_907 (by omega) hLL ?_
  refine lj_scr (k := 2) dL_908 dL_909 dL_910 dL_911 dL_912 (by omega) hLL ?_
  refine lj_scr (k := 3) dL_913 dL_914 dL_915 dL_916 dL_917 (by omega) hLL ?_
  refine lj_scr (k := 4) dL_918 dL_919 dL_920 dL_921 dL_922 (by omega) hLL ?_
  refine lj_callV (As := [vI (xs (i + 1).toNat).toInt, vI (xs (i + 2).toNat).toInt, vI (xs (i + 3).toNat).toInt, vI (xs (i + 4).toNat).toInt]) (S := []) dL_923 mL_106 hX8_home hC.1 rfl rfl rfl rfl rfl (tX8_home (by omega) hC (iZ_R _) (iZ_R _) (iZ_R _) (iZ_R _)) (fun v w2 P => ?_)
  have fr2 : ∀ k : Nat, 32 ≤ k → w2 k = w k := by
    obtain ⟨-, -, fc⟩ := P
    exact fc
  have hM2 := hM.fr fr2
  obtain ⟨fs9, h32⟩ := hM2.o
  refine lj_al2 dL_926 ?_
  refine lj_scr (k := 1) dL_927 dL_928 dL_929 dL_930 dL_931 (by omega) hLL ?_
  refine lj_scr (k := 2) dL_932 dL_933 dL_934 dL_935 dL_936 (by omega) hLL ?_
  refine lj_scr (k := 3) dL_937 dL_938 dL_939 dL_940 dL_941 (by omega) hLL ?_
  refine lj_scr (k := 4) dL_942 dL_943 dL_944 dL_945 dL_946 (by omega) hLL ?_
  refine lj_callV (As := [vI (xs (i + 1).toNat).toInt, vI (xs (i + 2).toNat).toInt, vI (xs (i + 3).toNat).toInt, vI (xs (i + 4).toNat).toInt]) (S := v.toList ++ []) dL_947 mL_109 hX9_home h32 rfl (wS_opt v) rfl rfl rfl (tX9_home (by omega) hM2 hK (iZ_R _) (iZ_R _) (iZ_R _) (iZ_R _)) (fun v3 w3 P3 => ?_)
  obtain ⟨a, rfl, rfl, hI⟩ : ∃ a : Int, v = some (vI a) ∧ v3 = some (vI a) ∧ LInv w3 := by
    obtain ⟨rfl, kc, kf⟩ := P
    obtain ⟨rfl, mc, mf⟩ := P3
    exact ⟨_, rfl, rfl, LInv.mk kc mc mf⟩
  simp only [Option.toList, List.cons_append, List.nil_append]
  exact lj_same dL_950 rfl (K w3 hI)
set_option maxHeartbeats 4000000 in
theorem law_agree {l : Launch} {x : Cx} {bb LL : Nat} {xs : Nat → Int32} {w : AW} {tx : Int → Int} {by0 : Int} {ru fa fe : Int → Int} {fc lw br me : Int} {mh ml mw : Int → Int} {mn fi : Int} {fm ln : Int → Int} {it : Int → Int → Int} {i : Int} (hC : ClassC w tx by0 ru fa fe fc lw br me mh ml mw mn fi fm ln it) (hM : ModelC w tx by0 ru fa fe fc lw br me mh ml mw mn fi fm ln it) (hi : 0 ≤ i ∧ i + 6 ≤ (LL : Int)) (hLL : LL ≤ 3072) (K : ∀ w3, LInv w3 → Lj l x bb LL xs 1110 50 w3 1408 (LRi x bb i) []) : Lj l x bb LL xs 1110 50 w 955 (LRi x bb i) [] := by
  have hK := hC.par
  refine lj_al1 dL_955 ?_
  refine lj_scr (k := 1) dL_956 dL_957 dL_958 dL_959 dL_960 (by omega) hLL ?_
  refine lj_callV (As := [vI (xs (i + 1).toNat).toInt]) (S := []) dL_961 mL_110 hX8_agree hC.1 rfl rfl rfl rfl rfl (tX8_agree (by omega) hC (iZ_R _)) (fun v w2 P => ?_)
  have fr2 : ∀ k : Nat, 32 ≤ k → w2 k = w k := by
    obtain ⟨-, rfl⟩ := P
    exact fun _ _ => rfl
  have hM2 := hM.fr fr2
  obtain ⟨fs9, h32⟩ := hM2.o
  refine lj_al2 dL_964 ?_
  refine lj_scr (k := 1) dL_965 dL_966 dL_967 dL_968 dL_969 (by omega) hLL ?_
  refine lj_callV (As := [vI (xs (i + 1).toNat).toInt]) (S := v.toList ++ []) dL_970 mL_113 hX9_agree h32 rfl (wS_opt v) rfl rfl rfl (pX9_agree (by omega) hM2 hK (iZ_R _)) (fun v3 w3 P3 => ?_)
  obtain ⟨a, rfl, rfl, hI⟩ : ∃ a : Int, v = some (vI a) ∧ v3 = some (vI a) ∧ LInv w3 := by
    obtain ⟨rfl, rfl⟩ := P
    obtain ⟨rfl, rfl⟩ := P3
    exact ⟨_, rfl, rfl, LInv.mk hC hM2 (fun _ _ => rfl)⟩
  simp only [Option.toList, List.cons_append, List.nil_append]
  exact lj_same dL_973 rfl (K w3 hI)
set_option maxHeartbeats 4000000 in
theorem law_middle {l : Launch} {x : Cx} {bb LL : Nat} {xs : Nat → Int32} {w : AW} {tx : Int → Int} {by0 : Int} {ru fa fe : Int → Int} {fc lw br me : Int} {mh ml mw : Int → Int} {mn fi : Int} {fm ln : Int → Int} {it : Int → Int → Int} {i : Int} (hC : ClassC w tx by0 ru fa fe fc lw br me mh ml mw mn fi fm ln it) (hM : ModelC w tx by0 ru fa fe fc lw br me mh ml mw mn fi fm ln it) (hi : 0 ≤ i ∧ i + 6 ≤ (LL : Int)) (hLL : LL ≤ 3072) (K : ∀ w3, LInv w3 → Lj l x bb LL xs 1110 50 w3 1408 (LRi x bb i) []) : Lj l x bb LL xs 1110 50 w 978 (LRi x bb i) [] := by
  have hK := hC.par
  refine lj_al1 dL_978 ?_
  refine lj_scr (k := 1) dL_979 dL_980 dL_981 dL_982 dL_983 (by omega) hLL ?_
  refine lj_callV (As := [vI (xs (i + 1).toNat).toInt]) (S := []) dL_984 mL_114 hX8_middle hC.1 rfl rfl rfl rfl rfl (tX8_middle (by omega) hC (iZ_R _)) (fun v w2 P => ?_)
  have fr2 : ∀ k : Nat, 32 ≤ k → w2 k = w k := by
    obtain ⟨-, rfl⟩ := P
    exact fun _ _ => rfl
  have hM2 := hM.fr fr2
  obtain ⟨fs9, h32⟩ := hM2.o
  refine lj_al2 dL_987 ?_
  refine lj_scr (k := 1) dL_988 dL_989 dL_990 dL_991 dL_992 (by omega) hLL ?_
  refine lj_callV (As := [vI (xs (i + 1).toNat).toInt]) (S := v.toList ++ []) dL_993 mL_117 hX9_middle h32 rfl (wS_opt v) rfl rfl rfl (pX9_middle (by omega) hM2 hK (iZ_R _)) (fun v3 w3 P3 => ?_)
  obtain ⟨a, rfl, rfl, hI⟩ : ∃ a : Int, v = some (vI a) ∧ v3 = some (vI a) ∧ LInv w3 := by
    obtain ⟨rfl, rfl⟩ := P
    obtain ⟨rfl, rfl⟩ := P3
    exact ⟨_, rfl, rfl, LInv.mk hC hM2 (fun _ _ => rfl)⟩
  simp only [Option.toList, List.cons_append, List.nil_append]
  exact lj_same dL_996 rfl (K w3 hI)
set_option maxHeartbeats 4000000 in
theorem law_seen {l : Launch} {x : Cx} {bb LL : Nat} {xs : Nat → Int32} {w : AW} {tx : Int → Int} {by0 : Int} {ru fa fe : Int → Int} {fc lw br me : Int} {mh ml mw : Int → Int} {mn fi : Int} {fm ln : Int → Int} {it : Int → Int → Int} {i : Int} (hC : ClassC w tx by0 ru fa fe fc lw br me mh ml mw mn fi fm ln it) (hM : ModelC w tx by0 ru fa fe fc lw br me mh ml mw mn fi fm ln it) (hi : 0 ≤ i ∧ i + 6 ≤ (LL : Int)) (hLL : LL ≤ 3072) (K : ∀ w3, LInv w3 → Lj l x bb LL xs 1110 50 w3 1408 (LRi x bb i) []) : Lj l x bb LL xs 1110 50 w 1001 (LRi x bb i) [] := by
  have hK := hC.par
  refine lj_al1 dL_1001 ?_
  refine lj_scr (k := 1) dL_1002 dL_1003 dL_1004 dL_1005 dL_1006 (by omega) hLL ?_
  refine lj_scr (k := 2) dL_1007 dL_1008 dL_1009 dL_1010 dL_1011 (by omega) hLL ?_
  refine lj_scr (k := 3) dL_1012 dL_1013 dL_1014 dL_1015 dL_1016 (by omega) hLL ?_
  refine lj_callV (As := [vI (xs (i + 1).toNat).toInt, vI (xs (i + 2).toNat).toInt, vI (xs (i + 3).toNat).toInt]) (S := []) dL_1017 mL_118 hX8_seen hC.1 rfl rfl rfl rfl rfl (tX8_seen (by omega) hC (iZ_R _) (iZ_R _) (iZ_R _)) (fun v w2 P => ?_)
  have fr2 : ∀ k : Nat, 32 ≤ k → w2 k = w k := by
    rcases P with ⟨-, -, -, -, fc⟩ | ⟨-, -, -, rfl⟩ | ⟨-, -, rfl⟩
    · exact fc
    · exact fun _ _ => rfl
    · exact fun _ _ => rfl
  have hM2 := hM.fr fr2
  obtain ⟨fs9, h32⟩ := hM2.o
  refine lj_al2 dL_1020 ?_
  refine lj_scr (k := 1) dL_1021 dL_1022 dL_1023 dL_1024 dL_1025 (by omega) hLL ?_
  refine lj_scr (k := 2) dL_1026 dL_1027 dL_1028 dL_1029 dL_1030 (by omega) hLL ?_
  refine lj_scr (k := 3) dL_1031 dL_1032 dL_1033 dL_1034 dL_1035 (by omega) hLL ?_
  refine lj_callV (As := [vI (xs (i + 1).toNat).toInt, vI (xs (i + 2).toNat).toInt, vI (xs (i + 3).toNat).toInt]) (S := v.toList ++ []) dL_1036 mL_121 hX9_seen h32 rfl (wS_opt v) rfl rfl rfl (tX9_seen (by omega) hM2 hK (iZ_R _) (iZ_R _) (iZ_R _)) (fun v3 w3 P3 => ?_)
  obtain ⟨a, rfl, rfl, hI⟩ : ∃ a : Int, v = some (vI a) ∧ v3 = some (vI a) ∧ LInv w3 := by
    rcases P with ⟨k1, k2, rfl, kc, kf⟩ | ⟨k1, k2, rfl, rfl⟩ | ⟨k1, rfl, rfl⟩
    · rcases P3 with ⟨m1, m2, rfl, mc, mf⟩ | ⟨m1, m2, rfl, rfl⟩ | ⟨m1, rfl, rfl⟩
      · exact ⟨_, rfl, rfl, LInv.mk kc mc mf⟩
      · exfalso; omega
      · exfalso; omega
    · rcases P3 with ⟨m1, m2, rfl, mc, mf⟩ | ⟨m1, m2, rfl, rfl⟩ | ⟨m1, rfl, rfl⟩
      · exfalso; omega
      · exact ⟨_, rfl, rfl, LInv.mk hC hM2 (fun _ _ => rfl)⟩
      · exfalso; omega
    · rcases P3 with ⟨m1, m2, rfl, mc, mf⟩ | ⟨m1, m2, rfl, rfl⟩ | ⟨m1, rfl, rfl⟩
      · exfalso; omega
      · exfalso; omega
      · exact ⟨_, rfl, rfl, LInv.mk hC hM2 (fun _ _ => rfl)⟩
  simp only [Option.toList, List.cons_append, List.nil_append]
  exact lj_same dL_1039 rfl (K w3 hI)
set_option maxHeartbeats 4000000 in
theorem law_forget {l : Launch} {x : Cx} {bb LL : Nat} {xs : Nat → Int32} {w : AW} {tx : Int → Int} {by0 : Int} {ru fa fe : Int → Int} {fc lw br me : Int} {mh ml mw : Int → Int} {mn fi : Int} {fm ln : Int → Int} {it : Int → Int → Int} {i : Int} (hC : ClassC w tx by0 ru fa fe fc lw br me mh ml mw mn fi fm ln it) (hM : ModelC w tx by0 ru fa fe fc lw br me mh ml mw mn fi fm ln it) (hi : 0 ≤ i ∧ i + 6 ≤ (LL : Int)) (hLL : LL ≤ 3072) (K : ∀ w3, LInv w3 → Lj l x bb LL xs 1110 50 w3 1408 (LRi x bb i) []) : Lj l x bb LL xs 1110 50 w 1044 (LRi x bb i) [] := by
  have hK := hC.par
  refine lj_al1 dL_1044 ?_
  refine lj_callV (As := []) (S := []) dL_1045 mL_122 hX8_forget hC.1 rfl rfl rfl rfl rfl (tX8_forget (by omega) hC) (fun v w2 P => ?_)
  have fr2 : ∀ k : Nat, 32 ≤ k → w2 k = w k := by
    obtain ⟨-, -, fc⟩ := P
    exact fc
  have hM2 := hM.fr fr2
  obtain ⟨fs9, h32⟩ := hM2.o
  refine lj_al2 dL_1048 ?_
  refine lj_callV (As := []) (S := v.toList ++ []) dL_1049 mL_125 hX9_forget h32 rfl (wS_opt v) rfl rfl rfl (tX9_forget (by omega) hM2 hK) (fun v3 w3 P3 => ?_)
  obtain ⟨a, rfl, rfl, hI⟩ : ∃ a : Int, v = some (vI a) ∧ v3 = some (vI a) ∧ LInv w3 := by
    obtain ⟨rfl, kc, kf⟩ := P
    obtain ⟨rfl, mc, mf⟩ := P3
    exact ⟨_, rfl, rfl, LInv.mk kc mc mf⟩
  simp only [Option.toList, List.cons_append, List.nil_append]
  exact lj_same dL_1052 rfl (K w3 hI)
set_option maxHeartbeats 4000000 in
theorem law_which {l : Launch} {x : Cx} {bb LL : Nat} {xs : Nat → Int32} {w : AW} {tx : Int → Int} {by0 : Int} {ru fa fe : Int → Int} {fc lw br me : Int} {mh ml mw : Int → Int} {mn fi : Int} {fm ln : Int → Int} {it : Int → Int → Int} {i : Int} (hC : ClassC w tx by0 ru fa fe fc lw br me mh ml mw mn fi fm ln it) (hM : ModelC w tx by0 ru fa fe fc lw br me mh ml mw mn fi fm ln it) (hi : 0 ≤ i ∧ i + 6 ≤ (LL : Int)) (hLL : LL ≤ 3072) (K : ∀ w3, LInv w3 → Lj l x bb LL xs 1110 50 w3 1408 (LRi x bb i) []) : Lj l x bb LL xs 1110 50 w 1057 (LRi x bb i) [] := by
  have hK := hC.par
  refine lj_al1 dL_1057 ?_
  refine lj_callV (As := []) (S := []) dL_1058 mL_126 hX8_which hC.1 rfl rfl rfl rfl rfl (tX8_which (by omega) hC) (fun v w2 P => ?_)
  have fr2 : ∀ k : Nat, 32 ≤ k → w2 k = w k := by
    obtain ⟨-, rfl⟩ := P
    exact fun _ _ => rfl
  have hM2 := hM.fr fr2
  obtain ⟨fs9, h32⟩ := hM2.o
  refine lj_al2 dL_1061 ?_
  refine lj_callV (As := []) (S := v.toList ++ []) dL_1062 mL_129 hX9_which h32 rfl (wS_opt v) rfl rfl rfl (tX9_which (by omega) hM2 hK) (fun v3 w3 P3 => ?_)
  obtain ⟨a, rfl, rfl, hI⟩ : ∃ a : Int, v = some (vI a) ∧ v3 = some (vI a) ∧ LInv w3 := by
    obtain ⟨rfl, rfl⟩ := P
    obtain ⟨rfl, rfl⟩ := P3
    exact ⟨_, rfl, rfl, LInv.mk hC hM2 (fun _ _ => rfl)⟩
  simp only [Option.toList, List.cons_append, List.nil_append]
  exact lj_same dL_1065 rfl (K w3 hI)
set_option maxHeartbeats 4000000 in
theorem law_season {l : Launch} {x : Cx} {bb LL : Nat} {xs : Nat → Int32} {w : AW} {tx : Int → Int} {by0 : Int} {ru fa fe : Int → Int} {fc lw br me : Int} {mh ml mw : Int → Int} {mn fi : Int} {fm ln : Int → Int} {it : Int → Int → Int} {i : Int} (hC : ClassC w tx by0 ru fa fe fc lw br me mh ml mw mn fi fm ln it) (hM : ModelC w tx by0 ru fa fe fc lw br me mh ml mw mn fi fm ln it) (hi : 0 ≤ i ∧ i + 6 ≤ (LL : Int)) (hLL : LL ≤ 3072) (K : ∀ w3, LInv w3 → Lj l x bb LL xs 1110 50 w3 1408 (LRi x bb i) []) : Lj l x bb LL xs 1110 50 w 1070 (LRi x bb i) [] := by
  have hK := hC.par
  refine lj_al1 dL_1070 ?_
  refine lj_scr (k := 1) dL_1071 dL_1072 dL_1073 dL_1074 dL_1075 (by omega) hLL ?_
  refine lj_scr (k := 2) dL_1076 dL_1077 dL_1078 dL_1079 dL_1080 (by omega) hLL ?_
  refine lj_callV (As := [vI (xs (i + 1).toNat).toInt, vI (xs (i + 2).toNat).toInt]) (S := []) dL_1081 mL_130 hX8_season hC.1 rfl rfl rfl rfl rfl (tX8_season (by omega) hC (iZ_R _) (iZ_R _)) (fun v w2 P => ?_)
  have fr2 : ∀ k : Nat, 32 ≤ k → w2 k = w k := by
    obtain ⟨-, rfl⟩ := P
    exact fun _ _ => rfl
  have hM2 := hM.fr fr2
  obtain ⟨fs9, h32⟩ := hM2.o
  refine lj_al2 dL_1084 ?_
  refine lj_scr (k := 1) dL_1085 dL_1086 dL_1087 dL_1088 dL_1089 (by omega) hLL ?_
  refine lj_scr (k := 2) dL_1090 dL_1091 dL_1092 dL_1093 dL_1094 (by omega) hLL ?_
  refine lj_callV (As := [vI (xs (i + 1).toNat).toInt, vI (xs (i + 2).toNat).toInt]) (S := v.toList ++ []) dL_1095 mL_133 hX9_season h32 rfl (wS_opt v) rfl rfl rfl (tX9_season (by omega) hM2 hK (iZ_R _) (iZ_R _)) (fun v3 w3 P3 => ?_)
  obtain ⟨a, rfl, rfl, hI⟩ : ∃ a : Int, v = some (vI a) ∧ v3 = some (vI a) ∧ LInv w3 := by
    obtain ⟨rfl, rfl⟩ := P
    obtain ⟨rfl, mc, mf⟩ := P3
    exact ⟨_, rfl, rfl, LInv.mk hC mc mf⟩
  simp only [Option.toList, List.cons_append, List.nil_append]
  exact lj_same dL_1098 rfl (K w3 hI)
set_option maxHeartbeats 4000000 in
theorem law_sheet {l : Launch} {x : Cx} {bb LL : Nat} {xs : Nat → Int32} {w : AW} {tx : Int → Int} {by0 : Int} {ru fa fe : Int → Int} {fc lw br me : Int} {mh ml mw : Int → Int} {mn fi : Int} {fm ln : Int → Int} {it : Int → Int → Int} {i : Int} (hC : ClassC w tx by0 ru fa fe fc lw br me mh ml mw mn fi fm ln it) (hM : ModelC w tx by0 ru fa fe fc lw br me mh ml mw mn fi fm ln it) (hi : 0 ≤ i ∧ i + 6 ≤ (LL : Int)) (hLL : LL ≤ 3072) (K : ∀ w3, LInv w3 → Lj l x bb LL xs 1110 50 w3 1408 (LRi x bb i) []) : Lj l x bb LL xs 1110 50 w 1103 (LRi x bb i) [] := by
  have hK := hC.par
  refine lj_al1 dL_1103 ?_
  refine lj_scr (k := 1) dL_1104 dL_1105 dL_1106 dL_1107 dL_1108 (by omega) hLL ?_
  refine lj_scr (k := 2) dL_1109 dL_1110 dL_1111 dL_1112 dL_1113 (by omega) hLL ?_
  refine lj_scr (k := 3) dL_1114 dL_1115 dL_1116 dL_1117 dL_1118 (by omega) hLL ?_
  refine lj_callV (As := [vI (xs (i + 1).toNat).toInt, vI (xs (i + 2).toNat).toInt, vI (xs (i + 3).toNat).toInt]) (S := []) dL_1119 mL_134 hX8_sheet hC.1 rfl rfl rfl rfl rfl (tSheet (by omega) hC (iZ_R _) (iZ_R _) (iZ_R _)) (fun v w2 P => ?_)
  have fr2 : ∀ k : Nat, 32 ≤ k → w2 k = w k := by
    rcases P with ⟨-, -, -, -, fc⟩ | ⟨-, -, -, -, fc⟩ | ⟨-, -, rfl⟩
    · exact fc
    · exact fc
    · exact fun _ _ => rfl
  have hM2 := hM.fr fr2
  obtain ⟨fs9, h32⟩ := hM2.o
  refine lj_al2 dL_1122 ?_
  refine lj_scr (k := 1) dL_1123 dL_1124 dL_1125 dL_1126 dL_1127 (by omega) hLL ?_
  refine lj_scr (k := 2) dL_1128 dL_1129 dL_1130 dL_1131 dL_1132 (by omega) hLL ?_
  refine lj_scr (k := 3) dL_1133 dL_1134 dL_1135 dL_1136 dL_1137 (by omega) hLL ?_
  refine lj_callV (As := [vI (xs (i + 1).toNat).toInt, vI (xs (i + 2).toNat).toInt, vI (xs (i + 3).toNat).toInt]) (S := v.toList ++ []) dL_1138 mL_137 hX9_sheet h32 rfl (wS_opt v) rfl rfl rfl (tX9_sheet (by omega) hM2 hK (iZ_R _) (iZ_R _) (iZ_R _)) (fun v3 w3 P3 => ?_)
  obtain ⟨a, rfl, rfl, hI⟩ : ∃ a : Int, v = some (vI a) ∧ v3 = some (vI a) ∧ LInv w3 := by
    rcases P with ⟨k1, k2, rfl, kc, kf⟩ | ⟨k1, k2, rfl, kc, kf⟩ | ⟨k1, rfl, rfl⟩
    · rcases P3 with ⟨m1, m2, rfl, mc, mf⟩ | ⟨m1, m2, rfl, mc, mf⟩ | ⟨m1, rfl, rfl⟩
      · exact ⟨_, rfl, rfl, LInv.mk kc mc mf⟩
      · exfalso; omega
      · exfalso; omega
    · rcases P3 with ⟨m1, m2, rfl, mc, mf⟩ | ⟨m1, m2, rfl, mc, mf⟩ | ⟨m1, rfl, rfl⟩
      · exfalso; omega
      · exact ⟨_, rfl, rfl, LInv.mk kc mc mf⟩
      · exfalso; omega
    · rcases P3 with ⟨m1, m2, rfl, mc, mf⟩ | ⟨m1, m2, rfl, mc, mf⟩ | ⟨m1, rfl, rfl⟩
      · exfalso; omega
      · exfalso; omega
      · exact ⟨_, rfl, rfl, LInv.mk hC hM2 (fun _ _ => rfl)⟩
  simp only [Option.toList, List.cons_append, List.nil_append]
  exact lj_same dL_1141 rfl (K w3 hI)
set_option maxHeartbeats 4000000 in
theorem law_lose {l : Launch} {x : Cx} {bb LL : Nat} {xs : Nat → Int32} {w : AW} {tx : Int → Int} {by0 : Int} {ru fa fe : Int → Int} {fc lw br me : Int} {mh ml mw : Int → Int} {mn fi : Int} {fm ln : Int → Int} {it : Int → Int → Int} {i : Int} (hC : ClassC w tx by0 ru fa fe fc lw br me mh ml mw mn fi fm ln it) (hM : ModelC w tx by0 ru fa fe fc lw br me mh ml mw mn fi fm ln it) (hi : 0 ≤ i ∧ i + 6 ≤ (LL : Int)) (hLL : LL ≤ 3072) (K : ∀ w3, LInv w3 → Lj l x bb LL xs 1110 50 w3 1408 (LRi x bb i) []) : Lj l x bb LL xs 1110 50 w 1146 (LRi x bb i) [] := by
  have hK := hC.par
  refine lj_al1 dL_1146 ?_
  refine lj_scr (k := 1) dL_1147 dL_1148 dL_1149 dL_1150 dL_1151 (by omega) hLL ?_
  refine lj_callV (As := [vI (xs (i + 1).toNat).toInt]) (S := []) dL_1152 mL_138 hX8_lose hC.1 rfl rfl rfl rfl rfl (tLose (by omega) hC (iZ_R _)) (fun v w2 P => ?_)
  have fr2 : ∀ k : Nat, 32 ≤ k → w2 k = w k := by
    rcases P with ⟨-, -, -, -, fc⟩ | ⟨-, -, -, -, fc⟩ | ⟨-, -, rfl⟩
    · exact fc
    · exact fc
    · exact fun _ _ => rfl
  have hM2 := hM.fr fr2
  obtain ⟨fs9, h32⟩ := hM2.o
  refine lj_al2 dL_1155 ?_
  refine lj_scr (k := 1) dL_1156 dL_1157 dL_1158 dL_1159 dL_1160 (by omega) hLL ?_
  refine lj_callV (As := [vI (xs (i + 1).toNat).toInt]) (S := v.toList ++ []) dL_1161 mL_141 hX9_lose h32 rfl (wS_opt v) rfl rfl rfl (tX9_lose (by omega) hM2 hK (iZ_R _)) (fun v3 w3 P3 => ?_)
  obtain ⟨a, rfl, rfl, hI⟩ : ∃ a : Int, v = some (vI a) ∧ v3 = some (vI a) ∧ LInv w3 := by
    rcases P with ⟨k1, k2, rfl, kc, kf⟩ | ⟨k1, k2, rfl, kc, kf⟩ | ⟨k1, rfl, rfl⟩
    · rcases P3 with ⟨m1, m2, rfl, mc, mf⟩ | ⟨m1, m2, rfl, mc, mf⟩ | ⟨m1, rfl, rfl⟩
      · exact ⟨_, rfl, rfl, LInv.mk kc mc mf⟩
      · exfalso; omega
      · exfalso; omega
    · rcases P3 with ⟨m1, m2, rfl, mc, mf⟩ | ⟨m1, m2, rfl, mc, mf⟩ | ⟨m1, rfl, rfl⟩
      · exfalso; omega
      · exact ⟨_, rfl, rfl, LInv.mk kc mc mf⟩
      · exfalso; omega
    · rcases P3 with ⟨m1, m2, rfl, mc, mf⟩ | ⟨m1, m2, rfl, mc, mf⟩ | ⟨m1, rfl, rfl⟩
      · exfalso; omega
      · exfalso; omega
      · exact ⟨_, rfl, rfl, LInv.mk hC hM2 (fun _ _ => rfl)⟩
  simp only [Option.toList, List.cons_append, List.nil_append]
  exact lj_same dL_1164 rfl (K w3 hI)
set_option maxHeartbeats 4000000 in
theorem law_lay {l : Launch} {x : Cx} {bb LL : Nat} {xs : Nat → Int32} {w : AW} {tx : Int → Int} {by0 : Int} {ru fa fe : Int → Int} {fc lw br me : Int} {mh ml mw : Int → Int} {mn fi : Int} {fm ln : Int → Int} {it : Int → Int → Int} {i : Int} (hC : ClassC w tx by0 ru fa fe fc lw br me mh ml mw mn fi fm ln it) (hM : ModelC w tx by0 ru fa fe fc lw br me mh ml mw mn fi fm ln it) (hi : 0 ≤ i ∧ i + 6 ≤ (LL : Int)) (hLL : LL ≤ 3072) (K : ∀ w3, LInv w3 → Lj l x bb LL xs 1110 50 w3 1408 (LRi x bb i) []) : Lj l x bb LL xs 1110 50 w 1169 (LRi x bb i) [] := by
  have hK := hC.par
  refine lj_al1 dL_1169 ?_
  refine lj_scr (k := 1) dL_1170 dL_1171 dL_1172 dL_1173 dL_1174 (by omega) hLL ?_
  refine lj_scr (k := 2) dL_1175 dL_1176 dL_1177 dL_1178 dL_1179 (by omega) hLL ?_
  refine lj_scr (k := 3) dL_1180 dL_1181 dL_1182 dL_1183 dL_1184 (by omega) hLL ?_
  refine lj_scr (k := 4) dL_1185 dL_1186 dL_1187 dL_1188 dL_1189 (by omega) hLL ?_
  refine lj_callV (As := [vI (xs (i + 1).toNat).toInt, vI (xs (i + 2).toNat).toInt, vI (xs (i + 3).toNat).toInt, vI (xs (i + 4).toNat).toInt]) (S := []) dL_1190 mL_142 hX8_lay hC.1 rfl rfl rfl rfl rfl (tLay (by omega) hC (iZ_R _) (iZ_R _) (iZ_R _) (iZ_R _)) (fun v w2 P => ?_)
  have fr2 : ∀ k : Nat, 32 ≤ k → w2 k = w k := by
    rcases P with ⟨-, -, -, -, fc⟩ | ⟨-, -, -, -, fc⟩ | ⟨-, -, rfl⟩
    · exact fc
    · exact fc
    · exact fun _ _ => rfl
  have hM2 := hM.fr fr2
  obtain ⟨fs9, h32⟩ := hM2.o
  refine lj_al2 dL_1193 ?_
  refine lj_scr (k := 1) dL_1194 dL_1195 dL_1196 dL_1197 dL_1198 (by omega) hLL ?_
  refine lj_scr (k := 2) dL_1199 dL_1200 dL_1201 dL_1202 dL_1203 (by omega) hLL ?_
  refine lj_scr (k := 3) dL_1204 dL_1205 dL_1206 dL_1207 dL_1208 (by omega) hLL ?_
  refine lj_scr (k := 4) dL_1209 dL_1210 dL_1211 dL_1212 dL_1213 (by omega) hLL ?_
  refine lj_callV (As := [vI (xs (i + 1).toNat).toInt, vI (xs (i + 2).toNat).toInt, vI (xs (i + 3).toNat).toInt, vI (xs (i + 4).toNat).toInt]) (S := v.toList ++ []) dL_1214 mL_145 hX9_lay h32 rfl (wS_opt v) rfl rfl rfl (tX9_lay (by omega) hM2 hK (iZ_R _) (iZ_R _) (iZ_R _) (iZ_R _)) (fun v3 w3 P3 => ?_)
  obtain ⟨a, rfl, rfl, hI⟩ : ∃ a : Int, v = some (vI a) ∧ v3 = some (vI a) ∧ LInv w3 := by
    rcases P with ⟨k1, k2, rfl, kc, kf⟩ | ⟨k1, k2, rfl, kc, kf⟩ | ⟨k1, rfl, rfl⟩
    · rcases P3 with ⟨m1, m2, rfl, mc, mf⟩ | ⟨m1, m2, rfl, mc, mf⟩ | ⟨m1, rfl, rfl⟩
      · exact ⟨_, rfl, rfl, LInv.mk kc mc mf⟩
      · exfalso; omega
      · exfalso; omega
    · rcases P3 with ⟨m1, m2, rfl, mc, mf⟩ | ⟨m1, m2, rfl, mc, mf⟩ | ⟨m1, rfl, rfl⟩
      · exfalso; omega
      · exact ⟨_, rfl, rfl, LInv.mk kc mc mf⟩
      · exfalso; omega
    · rcases P3 with ⟨m1, m2, rfl, mc, mf⟩ | ⟨m1, m2, rfl, mc, mf⟩ | ⟨m1, rfl, rfl⟩
      · exfalso; omega
      · exfalso; omega
      · exact ⟨_, rfl, rfl, LInv.mk hC hM2 (fun _ _ => rfl)⟩
  simp only [Option.toList, List.cons_append, List.nil_append]
  exact lj_same dL_1217 rfl (K w3 hI)
set_option maxHeartbeats 4000000 in
theorem law_get {l : Launch} {x : Cx} {bb LL : Nat} {xs : Nat → Int32} {w : AW} {tx : Int → Int} {by0 : Int} {ru fa fe : Int → Int} {fc lw br me : Int} {mh ml mw : Int → Int} {mn fi : Int} {fm ln : Int → Int} {it : Int → Int → Int} {i : Int} (hC : ClassC w tx by0 ru fa fe fc lw br me mh ml mw mn fi fm ln it) (hM : ModelC w tx by0 ru fa fe fc lw br me mh ml mw mn fi fm ln it) (hi : 0 ≤ i ∧ i + 6 ≤ (LL : Int)) (hLL : LL ≤ 3072) (K : ∀ w3, LInv w3 → Lj l x bb LL xs 1110 50 w3 1408 (LRi x bb i) []) : Lj l x bb LL xs 1110 50 w 1222 (LRi x bb i) [] := by
  have hK := hC.par
  refine lj_al1 dL_1222 ?_
  refine lj_scr (k := 1) dL_1223 dL_1224 dL_1225 dL_1226 dL_1227 (by omega) hLL ?_
  refine lj_scr (k := 2) dL_1228 dL_1229 dL_1230 dL_1231 dL_1232 (by omega) hLL ?_
  refine lj_scr (k := 3) dL_1233 dL_1234 dL_1235 dL_1236 dL_1237 (by omega) hLL ?_
  refine lj_callV (As := [vI (xs (i + 1).toNat).toInt, vI (xs (i + 2).toNat).toInt, vI (xs (i + 3).toNat).toInt]) (S := []) dL_1238 mL_146 hX8_get hC.1 rfl rfl rfl rfl rfl (tGet (by omega) hC (iZ_R _) (iZ_R _) (iZ_R _)) (fun v w2 P => ?_)
  have fr2 : ∀ k : Nat, 32 ≤ k → w2 k = w k := by
    rcases P with ⟨-, -, -, rfl⟩ | ⟨-, -, -, -, fc⟩ | ⟨-, -, rfl⟩
    · exact fun _ _ => rfl
    · exact fc
    · exact fun _ _ => rfl
  have hM2 := hM.fr fr2
  obtain ⟨fs9, h32⟩ := hM2.o
  refine lj_al2 dL_1241 ?_
  refine lj_scr (k := 1) dL_1242 dL_1243 dL_1244 dL_1245 dL_1246 (by omega) hLL ?_
  refine lj_scr (k := 2) dL_1247 dL_1248 dL_1249 dL_1250 dL_1251 (by omega) hLL ?_
  refine lj_scr (k := 3) dL_1252 dL_1253 dL_1254 dL_1255 dL_1256 (by omega) hLL ?_
  refine lj_callV (As := [vI (xs (i + 1).toNat).toInt, vI (xs (i + 2).toNat).toInt, vI (xs (i + 3).toNat).toInt]) (S := v.toList ++ []) dL_1257 mL_149 hX9_get h32 rfl (wS_opt v) rfl rfl rfl (tX9_get (by omega) hM2 hK (iZ_R _) (iZ_R _) (iZ_R _)) (fun v3 w3 P3 => ?_)
  obtain ⟨a, rfl, rfl, hI⟩ : ∃ a : Int, v = some (vI a) ∧ v3 = some (vI a) ∧ LInv w3 := by
    rcases P with ⟨k1, k2, rfl, rfl⟩ | ⟨k1, k2, rfl, kc, kf⟩ | ⟨k1, rfl, rfl⟩
    · rcases P3 with ⟨m1, m2, rfl, rfl⟩ | ⟨m1, m2, rfl, mc, mf⟩ | ⟨m1, rfl, rfl⟩
      · exact ⟨_, rfl, rfl, LInv.mk hC hM2 (fun _ _ => rfl)⟩
      · exfalso; omega
      · exfalso; omega
    · rcases P3 with ⟨m1, m2, rfl, rfl⟩ | ⟨m1, m2, rfl, mc, mf⟩ | ⟨m1, rfl, rfl⟩
      · exfalso; omega
      · exact ⟨_, rfl, rfl, LInv.mk kc mc mf⟩
      · exfalso; omega
    · rcases P3 with ⟨m1, m2, rfl, rfl⟩ | ⟨m1, m2, rfl, mc, mf⟩ | ⟨m1, rfl, rfl⟩
      · exfalso; omega
      · exfalso; omega
      · exact ⟨_, rfl, rfl, LInv.mk hC hM2 (fun _ _ => rfl)⟩
  simp only [Option.toList, List.cons_append, List.nil_append]
  exact lj_same dL_1260 rfl (K w3 hI)
set_option maxHeartbeats 4000000 in
theorem law_copy {l : Launch} {x : Cx} {bb LL : Nat} {xs : Nat → Int32} {w : AW} {tx : Int → Int} {by0 : Int} {ru fa fe : Int → Int} {fc lw br me : Int} {mh ml mw : Int → Int} {mn fi : Int} {fm ln : Int → Int} {it : Int → Int → Int} {i : Int} (hC : ClassC w tx by0 ru fa fe fc lw br me mh ml mw mn fi fm ln it) (hM : ModelC w tx by0 ru fa fe fc lw br me mh ml mw mn fi fm ln it) (hi : 0 ≤ i ∧ i + 6 ≤ (LL : Int)) (hLL : LL ≤ 3072) (K : ∀ w3, LInv w3 → Lj l x bb LL xs 1110 50 w3 1408 (LRi x bb i) []) : Lj l x bb LL xs 1110 50 w 1265 (LRi x bb i) [] := by
  have hK := hC.par
  refine lj_al1 dL_1265 ?_
  refine lj_scr (k := 1) dL_1266 dL_1267 dL_1268 dL_1269 dL_1270 (by omega) hLL ?_
  refine lj_scr (k := 2) dL_1271 dL_1272 dL_1273 dL_1274 dL_1275 (by omega) hLL ?_
  refine lj_scr (k := 3) dL_1276 dL_1277 dL_1278 dL_1279 dL_1280 (by omega) hLL ?_
  refine lj_scr (k := 4) dL_1281 dL_1282 dL_1283 dL_1284 dL_1285 (by omega) hLL ?_
  refine lj_scr (k := 5) dL_1286 dL_1287 dL_1288 dL_1289 dL_1290 (by omega) hLL ?_
  refine lj_callV (As := [vI (xs (i + 1).toNat).toInt, vI (xs (i + 2).toNat).toInt, vI (xs (i + 3).toNat).toInt, vI (xs (i + 4).toNat).toInt, vI (xs (i + 5).toNat).toInt]) (S := []) dL_1291 mL_150 hX8_copy hC.1 rfl rfl rfl rfl rfl (tCopy (by omega) hC (iZ_R _) (iZ_R _) (iZ_R _) (iZ_R _) (iZ_R _)) (fun v w2 P => ?_)
  have fr2 : ∀ k : Nat, 32 ≤ k → w2 k = w k := by
    rcases P with ⟨-, -, -, -, -, -, fc⟩ | ⟨-, -, -, -, -, -, fc⟩ | ⟨-, -, -, -, -, fc⟩ | ⟨-, -, -, -, fc⟩ | ⟨-, -, rfl⟩
    · exact fc
    · exact fc
    · exact fc
    · exact fc
    · exact fun _ _ => rfl
  have hM2 := hM.fr fr2
  obtain ⟨fs9, h32⟩ := hM2.o
  refine lj_al2 dL_1294 ?_
  refine lj_scr (k := 1) dL_1295 dL_1296 dL_1297 dL_1298 dL_1299 (by omega) hLL ?_
  refine lj_scr (k := 2) dL_1300 dL_1301 dL_1302 dL_1303 dL_1304 (by omega) hLL ?_
  refine lj_scr (k := 3) dL_1305 dL_1306 dL_1307 dL_1308 dL_1309 (by omega) hLL ?_
  refine lj_scr (k := 4) dL_1310 dL_1311 dL_1312 dL_1313 dL_1314 (by omega) hLL ?_
  refine lj_scr (k := 5) dL_1315 dL_1316 dL_1317 dL_1318 dL_1319 (by omega) hLL ?_
  refine lj_callV (As := [vI (xs (i + 1).toNat).toInt, vI (xs (i + 2).toNat).toInt, vI (xs (i + 3).toNat).toInt, vI (xs (i + 4).toNat).toInt, vI (xs (i + 5).toNat).toInt]) (S := v.toList ++ []) dL_1320 mL_154 hX9_copy h32 rfl (wS_opt v) rfl rfl rfl (tX9_copy (by omega) hM2 hK (iZ_R _) (iZ_R _) (iZ_R _) (iZ_R _) (iZ_R _)) (fun v3 w3 P3 => ?_)
  obtain ⟨a, rfl, rfl, hI⟩ : ∃ a : Int, v = some (vI a) ∧ v3 = some (vI a) ∧ LInv w3 := by
    rcases P with ⟨k1, k2, k3, k4, rfl, kc, kf⟩ | ⟨k1, k2, k3, k4, rfl, kc, kf⟩ | ⟨k1, k2, k3, rfl, kc, kf⟩ | ⟨k1, k2, rfl, kc, kf⟩ | ⟨k1, rfl, rfl⟩
    · rcases P3 with ⟨m1, m2, m3, m4, rfl, mc, mf⟩ | ⟨m1, m2, m3, m4, rfl, mc, mf⟩ | ⟨m1, m2, m3, rfl, mc, mf⟩ | ⟨m1, m2, rfl, mc, mf⟩ | ⟨m1, rfl, rfl⟩
      · exact ⟨_, rfl, rfl, LInv.mk kc mc mf⟩
      · exfalso; omega
      · exfalso; omega
      · exfalso; omega
      · exfalso; omega
    · rcases P3 with ⟨m1, m2, m3, m4, rfl, mc, mf⟩ | ⟨m1, m2, m3, m4, rfl, mc, mf⟩ | ⟨m1, m2, m3, rfl, mc, mf⟩ | ⟨m1, m2, rfl, mc, mf⟩ | ⟨m1, rfl, rfl⟩
      · exfalso; omega
      · exact ⟨_, rfl, rfl, LInv.mk kc mc mf⟩
      · exfalso; omega
      · exfalso; omega
      · exfalso; omega
    · rcases P3 with ⟨m1, m2, m3, m4, rfl, mc, mf⟩ | ⟨m1, m2, m3, m4, rfl, mc, mf⟩ | ⟨m1, m2, m3, rfl, mc, mf⟩ | ⟨m1, m2, rfl, mc, mf⟩ | ⟨m1, rfl, rfl⟩
      · exfalso; omega
      · exfalso; omega
      · exact ⟨_, rfl, rfl, LInv.mk kc mc mf⟩
      · exfalso; omega
      · exfalso; omega
    · rcases P3 with ⟨m1, m2, m3, m4, rfl, mc, mf⟩ | ⟨m1, m2, m3, m4, rfl, mc, mf⟩ | ⟨m1, m2, m3, rfl, mc, mf⟩ | ⟨m1, m2, rfl, mc, mf⟩ | ⟨m1, rfl, rfl⟩
      · exfalso; omega
      · exfalso; omega
      · exfalso; omega
      · exact ⟨_, rfl, rfl, LInv.mk kc mc mf⟩
      · exfalso; omega
    · rcases P3 with ⟨m1, m2, m3, m4, rfl, mc, mf⟩ | ⟨m1, m2, m3, m4, rfl, mc, mf⟩ | ⟨m1, m2, m3, rfl, mc, mf⟩ | ⟨m1, m2, rfl, mc, mf⟩ | ⟨m1, rfl, rfl⟩
      · exfalso; omega
      · exfalso; omega
      · exfalso; omega
      · exfalso; omega
      · exact ⟨_, rfl, rfl, LInv.mk hC hM2 (fun _ _ => rfl)⟩
  simp only [Option.toList, List.cons_append, List.nil_append]
  exact lj_same dL_1323 rfl (K w3 hI)
set_option maxHeartbeats 4000000 in
theorem law_write {l : Launch} {x : Cx} {bb LL : Nat} {xs : Nat → Int32} {w : AW} {tx : Int → Int} {by0 : Int} {ru fa fe : Int → Int} {fc lw br me : Int} {mh ml mw : Int → Int} {mn fi : Int} {fm ln : Int → Int} {it : Int → Int → Int} {i : Int} (hC : ClassC w tx by0 ru fa fe fc lw br me mh ml mw mn fi fm ln it) (hM : ModelC w tx by0 ru fa fe fc lw br me mh ml mw mn fi fm ln it) (hi : 0 ≤ i ∧ i + 6 ≤ (LL : Int)) (hLL : LL ≤ 3072) (K : ∀ w3, LInv w3 → Lj l x bb LL xs 1110 50 w3 1408 (LRi x bb i) []) : Lj l x bb LL xs 1110 50 w 1328 (LRi x bb i) [] := by
  have hK := hC.par
  refine lj_al1 dL_1328 ?_
  refine lj_scr (k := 1) dL_1329 dL_1330 dL_1331 dL_1332 dL_1333 (by omega) hLL ?_
  refine lj_scr (k := 2) dL_1334 dL_1335 dL_1336 dL_1337 dL_1338 (by omega) hLL ?_
  refine lj_scr (k := 3) dL_1339 dL_1340 dL_1341 dL_1342 dL_1343 (by omega) hLL ?_
  refine lj_callV (As := [vI (xs (i + 1).toNat).toInt, vI (xs (i + 2).toNat).toInt, vI (xs (i + 3).toNat).toInt]) (S := []) dL_1344 mL_155 hX8_write hC.1 rfl rfl rfl rfl rfl (tWrite (by omega) hC (iZ_R _) (iZ_R _) (iZ_R _)) (fun v w2 P => ?_)
  have fr2 : ∀ k : Nat, 32 ≤ k → w2 k = w k := by
    rcases P with ⟨-, -, -, -, fc⟩ | ⟨-, -, -, -, fc⟩ | ⟨-, -, rfl⟩
    · exact fc
    · exact fc
    · exact fun _ _ => rfl
  have hM2 := hM.fr fr2
  obtain ⟨fs9, h32⟩ := hM2.o
  refine lj_al2 dL_1347 ?_
  refine lj_scr (k := 1) dL_1348 dL_1349 dL_1350 dL_1351 dL_1352 (by omega) hLL ?_
  refine lj_scr (k := 2) dL_1353 dL_1354 dL_1355 dL_1356 dL_1357 (by omega) hLL ?_
  refine lj_scr (k := 3) dL_1358 dL_1359 dL_1360 dL_1361 dL_1362 (by omega) hLL ?_
  refine lj_callV (As := [vI (xs (i + 1).toNat).toInt, vI (xs (i + 2).toNat).toInt, vI (xs (i + 3).toNat).toInt]) (S := v.toList ++ []) dL_1363 mL_158 hX9_write h32 rfl (wS_opt v) rfl rfl rfl (tX9_write (by omega) hM2 hK (iZ_R _) (iZ_R _) (iZ_R _)) (fun v3 w3 P3 => ?_)
  obtain ⟨a, rfl, rfl, hI⟩ : ∃ a : Int, v = some (vI a) ∧ v3 = some (vI a) ∧ LInv w3 := by
    rcases P with ⟨k1, k2, rfl, kc, kf⟩ | ⟨k1, k2, rfl, kc, kf⟩ | ⟨k1, rfl, rfl⟩
    · rcases P3 with ⟨m1, m2, rfl, mc, mf⟩ | ⟨m1, m2, rfl, mc, mf⟩ | ⟨m1, rfl, rfl⟩
      · exact ⟨_, rfl, rfl, LInv.mk kc mc mf⟩
      · exfalso; omega
      · exfalso; omega
    · rcases P3 with ⟨m1, m2, rfl, mc, mf⟩ | ⟨m1, m2, rfl, mc, mf⟩ | ⟨m1, rfl, rfl⟩
      · exfalso; omega
      · exact ⟨_, rfl, rfl, LInv.mk kc mc mf⟩
      · exfalso; omega
    · rcases P3 with ⟨m1, m2, rfl, mc, mf⟩ | ⟨m1, m2, rfl, mc, mf⟩ | ⟨m1, rfl, rfl⟩
      · exfalso; omega
      · exfalso; omega
      · exact ⟨_, rfl, rfl, LInv.mk hC hM2 (fun _ _ => rfl)⟩
  simp only [Option.toList, List.cons_append, List.nil_append]
  exact lj_same dL_1366 rfl (K w3 hI)
set_option maxHeartbeats 4000000 in
theorem law_count {l : Launch} {x : Cx} {bb LL : Nat} {xs : Nat → Int32} {w : AW} {tx : Int → Int} {by0 : Int} {ru fa fe : Int → Int} {fc lw br me : Int} {mh ml mw : Int → Int} {mn fi : Int} {fm ln : Int → Int} {it : Int → Int → Int} {i : Int} (hC : ClassC w tx by0 ru fa fe fc lw br me mh ml mw mn fi fm ln it) (hM : ModelC w tx by0 ru fa fe fc lw br me mh ml mw mn fi fm ln it) (hi : 0 ≤ i ∧ i + 6 ≤ (LL : Int)) (hLL : LL ≤ 3072) (K : ∀ w3, LInv w3 → Lj l x bb LL xs 1110 50 w3 1408 (LRi x bb i) []) : Lj l x bb LL xs 1110 50 w 1371 (LRi x bb i) [] := by
  have hK := hC.par
  refine lj_al1 dL_1371 ?_
  refine lj_scr (k := 1) dL_1372 dL_1373 dL_1374 dL_1375 dL_1376 (by omega) hLL ?_
  refine lj_callV (As := [vI (xs (i + 1).toNat).toInt]) (S := []) dL_1377 mL_159 hX8_count hC.1 rfl rfl rfl rfl rfl (tX8_count (by omega) hC (iZ_R _)) (fun v w2 P => ?_)
  have fr2 : ∀ k : Nat, 32 ≤ k → w2 k = w k := by
    obtain ⟨-, rfl⟩ := P
    exact fun _ _ => rfl
  have hM2 := hM.fr fr2
  obtain ⟨fs9, h32⟩ := hM2.o
  refine lj_al2 dL_1380 ?_
  refine lj_scr (k := 1) dL_1381 dL_1382 dL_1383 dL_1384 dL_1385 (by omega) hLL ?_
  refine lj_callV (As := [vI (xs (i + 1).toNat).toInt]) (S := v.toList ++ []) dL_1386 mL_162 hX9_count h32 rfl (wS_opt v) rfl rfl rfl (tX9_count (by omega) hM2 hK (iZ_R _)) (fun v3 w3 P3 => ?_)
  obtain ⟨a, rfl, rfl, hI⟩ : ∃ a : Int, v = some (vI a) ∧ v3 = some (vI a) ∧ LInv w3 := by
    obtain ⟨rfl, rfl⟩ := P
    obtain ⟨rfl, mc, mf⟩ := P3
    exact ⟨_, rfl, rfl, LInv.mk hC mc mf⟩
  simp only [Option.toList, List.cons_append, List.nil_append]
  exact lj_same dL_1389 rfl (K w3 hI)
set_option maxHeartbeats 4000000 in
theorem law_digest {l : Launch} {x : Cx} {bb LL : Nat} {xs : Nat → Int32} {w : AW} {tx : Int → Int} {by0 : Int} {ru fa fe : Int → Int} {fc lw br me : Int} {mh ml mw : Int → Int} {mn fi : Int} {fm ln : Int → Int} {it : Int → Int → Int} {i : Int} (hC : ClassC w tx by0 ru fa fe fc lw br me mh ml mw mn fi fm ln it) (hM : ModelC w tx by0 ru fa fe fc lw br me mh ml mw mn fi fm ln it) (hi : 0 ≤ i ∧ i + 6 ≤ (LL : Int)) (hLL : LL ≤ 3072) (K : ∀ w3, LInv w3 → Lj l x bb LL xs 1110 50 w3 1408 (LRi x bb i) []) : Lj l x bb LL xs 1110 50 w 1394 (LRi x bb i) [] := by
  have hK := hC.par
  refine lj_al1 dL_1394 ?_
  refine lj_callV (As := []) (S := []) dL_1395 mL_163 hX8_digest hC.1 rfl rfl rfl rfl rfl (tX8_digest (by omega) hC) (fun v w2 P => ?_)
  have fr2 : ∀ k : Nat, 32 ≤ k → w2 k = w k := by
    obtain ⟨-, -, fc⟩ := P
    exact fc
  have hM2 := hM.fr fr2
  obtain ⟨fs9, h32⟩ := hM2.o
  refine lj_al2 dL_1398 ?_
  refine lj_callV (As := []) (S := v.toList ++ []) dL_1399 mL_167 hX9_digest h32 rfl (wS_opt v) rfl rfl rfl (tX9_digest (by omega) hM2 hK) (fun v3 w3 P3 => ?_)
  obtain ⟨a, rfl, rfl, hI⟩ : ∃ a : Int, v = some (vL a) ∧ v3 = some (vL a) ∧ LInv w3 := by
    obtain ⟨rfl, kc, kf⟩ := P
    obtain ⟨rfl, mc, mf⟩ := P3
    exact ⟨_, rfl, rfl, LInv.mk kc mc mf⟩
  simp only [Option.toList, List.cons_append, List.nil_append]
  exact lj_lsame dL_1402 dL_1403 rfl (K w3 hI)
