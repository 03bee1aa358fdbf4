/-! the law's loop over its script; its start -/
set_option maxHeartbeats 4000000 in
theorem law_loop {l : Launch} {x : Cx} {bb LL : Nat} {xs : Nat → Int32} (hLL : LL ≤ 3072) : ∀ (k : Nat) (i : Int) (w : AW), 0 ≤ i → i ≤ 3078 → (3100 - i).toNat < k → LInv w → Lj l x bb LL xs 1110 50 w 18 (LRi x bb i) [] := by
  intro k
  induction k with
  | zero => intro i w _ _ hk; exact absurd hk (Nat.not_lt_zero _)
  | succ k ih =>
    intro i w h0 h1 hk hI
    refine lj_il3 dL_18 ?_
    refine lj_len dL_19 dL_20 ?_
    refine lj_bipush dL_21 (by omega) ?_
    refine lj_isub dL_23 ?_
    refine lj_icmp_gt dL_24 (by omega) (fun _ => ?_) (fun h24 => ?_)
    · exact lj_end dL_1414 dL_1415 rfl rfl
    · have K : ∀ w3, LInv w3 → Lj l x bb LL xs 1110 50 w3 1408 (LRi x bb i) [] := fun w3 hI3 => lj_inc dL_1408 (lj_goto dL_1411 (ih (i + 6) w3 (by omega) (by omega) (by omega) hI3))
      obtain ⟨tx, by0, ru, fa, fe, fc, lw, br, me, mh, ml, mw, mn, fi, fm, ln, it, hC, hM⟩ := hI
      have hi : 0 ≤ i ∧ i + 6 ≤ (LL : Int) := by omega
      refine lj_scr0 dL_27 dL_28 dL_29 (by omega) hLL ?_
      refine lj_bipush dL_30 (by omega) ?_
      refine lj_iand dL_32 ?_
      have hr := bAnd_R (xs i.toNat).toInt 63
      generalize bAnd (xs i.toNat).toInt 63 = z at hr ⊢
      by_cases c0 : z = 0
      · exact lj_tswI (off := 163) (tg := 196) dL_33 0 hr (by omega) (by omega) rfl (by decide) (law_type hC hM hi hLL K)
      by_cases c1 : z = 1
      · exact lj_tswI (off := 186) (tg := 219) dL_33 1 hr (by omega) (by omega) rfl (by decide) (law_wipe hC hM hi hLL K)
      by_cases c2 : z = 2
      · exact lj_tswI (off := 199) (tg := 232) dL_33 2 hr (by omega) (by omega) rfl (by decide) (law_undo hC hM hi hLL K)
      by_cases c3 : z = 3
      · exact lj_tswI (off := 212) (tg := 245) dL_33 3 hr (by omega) (by omega) rfl (by decide) (law_fault hC hM hi hLL K)
      by_cases c4 : z = 4
      · exact lj_tswI (off := 225) (tg := 258) dL_33 4 hr (by omega) (by omega) rfl (by decide) (law_road hC hM hi hLL K)
      by_cases c5 : z = 5
      · exact lj_tswI (off := 258) (tg := 291) dL_33 5 hr (by omega) (by omega) rfl (by decide) (law_land hC hM hi hLL K)
      by_cases c6 : z = 6
      · exact lj_tswI (off := 301) (tg := 334) dL_33 6 hr (by omega) (by omega) rfl (by decide) (law_bell hC hM hi hLL K)
      by_cases c7 : z = 7
      · exact lj_tswI (off := 344) (tg := 377) dL_33 7 hr (by omega) (by omega) rfl (by decide) (law_read hC hM hi hLL K)
      by_cases c8 : z = 8
      · exact lj_tswI (off := 367) (tg := 400) dL_33 8 hr (by omega) (by omega) rfl (by decide) (law_feast hC hM hi hLL K)
      by_cases c9 : z = 9
      · exact lj_tswI (off := 390) (tg := 423) dL_33 9 hr (by omega) (by omega) rfl (by decide) (law_back hC hM hi hLL K)
      by_cases c10 : z = 10
      · exact lj_tswI (off := 403) (tg := 436) dL_33 10 hr (by omega) (by omega) rfl (by decide) (law_lent hC hM hi hLL K)
      by_cases c11 : z = 11
      · exact lj_tswI (off := 426) (tg := 459) dL_33 11 hr (by omega) (by omega) rfl (by decide) (law_war hC hM hi hLL K)
      by_cases c12 : z = 12
      · exact lj_tswI (off := 459) (tg := 492) dL_33 12 hr (by omega) (by omega) rfl (by decide) (law_strikes hC hM hi hLL K)
      by_cases c13 : z = 13
      · exact lj_tswI (off := 512) (tg := 545) dL_33 13 hr (by omega) (by omega) rfl (by decide) (law_next hC hM hi hLL K)
      by_cases c14 : z = 14
      · exact lj_tswI (off := 555) (tg := 588) dL_33 14 hr (by omega) (by omega) rfl (by decide) (law_left hC hM hi hLL K)
      by_cases c15 : z = 15
      · exact lj_tswI (off := 588) (tg := 621) dL_33 15 hr (by omega) (by omega) rfl (by decide) (law_best hC hM hi hLL K)
      by_cases c16 : z = 16
      · exact lj_tswI (off := 611) (tg := 644) dL_33 16 hr (by omega) (by omega) rfl (by decide) (law_unlike hC hM hi hLL K)
      by_cases c17 : z = 17
      · exact lj_tswI (off := 644) (tg := 677) dL_33 17 hr (by omega) (by omega) rfl (by decide) (law_way hC hM hi hLL K)
      by_cases c18 : z = 18
      · exact lj_tswI (off := 687) (tg := 720) dL_33 18 hr (by omega) (by omega) rfl (by decide) (law_raid hC hM hi hLL K)
      by_cases c19 : z = 19
      · exact lj_tswI (off := 740) (tg := 773) dL_33 19 hr (by omega) (by omega) rfl (by decide) (law_set hC hM hi hLL K)
      by_cases c20 : z = 20
      · exact lj_tswI (off := 773) (tg := 806) dL_33 20 hr (by omega) (by omega) rfl (by decide) (law_siege hC hM hi hLL K)
      by_cases c21 : z = 21
      · exact lj_tswI (off := 826) (tg := 859) dL_33 21 hr (by omega) (by omega) rfl (by decide) (law_holds hC hM hi hLL K)
      by_cases c22 : z = 22
      · exact lj_tswI (off := 869) (tg := 902) dL_33 22 hr (by omega) (by omega) rfl (by decide) (law_home hC hM hi hLL K)
      by_cases c23 : z = 23
      · exact lj_tswI (off := 922) (tg := 955) dL_33 23 hr (by omega) (by omega) rfl (by decide) (law_agree hC hM hi hLL K)
      by_cases c24 : z = 24
      · exact lj_tswI (off := 945) (tg := 978) dL_33 24 hr (by omega) (by omega) rfl (by decide) (law_middle hC hM hi hLL K)
      by_cases c25 : z = 25
      · exact lj_tswI (off := 968) (tg := 1001) dL_33 25 hr (by omega) (by omega) rfl (by decide) (law_seen hC hM hi hLL K)
      by_cases c26 : z = 26
      · exact lj_tswI (off := 1011) (tg := 1044) dL_33 26 hr (by omega) (by omega) rfl (by decide) (law_forget hC hM hi hLL K)
      by_cases c27 : z = 27
      · exact lj_tswI (off := 1024) (tg := 1057) dL_33 27 hr (by omega) (by omega) rfl (by decide) (law_which hC hM hi hLL K)
      by_cases c28 : z = 28
      · exact lj_tswI (off := 1037) (tg := 1070) dL_33 28 hr (by omega) (by omega) rfl (by decide) (law_season hC hM hi hLL K)
      by_cases c29 : z = 29
      · exact lj_tswI (off := 1070) (tg := 1103) dL_33 29 hr (by omega) (by omega) rfl (by decide) (law_sheet hC hM hi hLL K)
      by_cases c30 : z = 30
      · exact lj_tswI (off := 1113) (tg := 1146) dL_33 30 hr (by omega) (by omega) rfl (by decide) (law_lose hC hM hi hLL K)
      by_cases c31 : z = 31
      · exact lj_tswI (off := 1136) (tg := 1169) dL_33 31 hr (by omega) (by omega) rfl (by decide) (law_lay hC hM hi hLL K)
      by_cases c32 : z = 32
      · exact lj_tswI (off := 1189) (tg := 1222) dL_33 32 hr (by omega) (by omega) rfl (by decide) (law_get hC hM hi hLL K)
      by_cases c33 : z = 33
      · exact lj_tswI (off := 1232) (tg := 1265) dL_33 33 hr (by omega) (by omega) rfl (by decide) (law_copy hC hM hi hLL K)
      by_cases c34 : z = 34
      · exact lj_tswI (off := 1295) (tg := 1328) dL_33 34 hr (by omega) (by omega) rfl (by decide) (law_write hC hM hi hLL K)
      by_cases c35 : z = 35
      · exact lj_tswI (off := 1338) (tg := 1371) dL_33 35 hr (by omega) (by omega) rfl (by decide) (law_count hC hM hi hLL K)
      by_cases c36 : z = 36
      · exact lj_tswI (off := 1361) (tg := 1394) dL_33 36 hr (by omega) (by omega) rfl (by decide) (law_digest hC hM hi hLL K)
      exact lj_tswO (tg := 1408) dL_33 hr (by omega) (by decide) (K w ⟨tx, by0, ru, fa, fe, fc, lw, br, me, mh, ml, mw, mn, fi, fm, ln, it, hC, hM⟩)
set_option maxHeartbeats 4000000 in
theorem law_start {l : Launch} {x : Cx} {bb LL : Nat} {xs : Nat → Int32} {w : AW} (hLL : LL ≤ 3072) : Lj l x bb LL xs 0 0 w 0 [(0, Value.ref bb)] [] := by
  refine lj_new (ci := 8) (N := 9) (n2 := 1) (sl2 := 9) rfl rfl rfl rfl dL_0 qL_7 inX8s inX8i rfl tyX8_ok dfl8_ok ?_
  refine lj_dupR dL_3 ?_
  refine lj_callN (mc2 := 31) (ms2 := 568) (n2 := 32) (sl2 := 577) rfl rfl rfl rfl dL_4 mL_9 hX8_init rfl (tX8_init (by omega) upw_s) (fun w2 hC => ?_)
  refine lj_as (i := 1) (Lr2 := [(0, Value.ref bb), (1, cv x.1 (vR 0))]) dL_7 (fun q hq => ?_) ?_
  · rcases List.mem_cons.mp hq with h | hq
    · rw [h]; exact Or.inr ⟨by simp, (by first | (simp; done) | (show (0 : Nat) ≠ 3; decide) | (show (1 : Nat) ≠ 3; decide) | (show (2 : Nat) ≠ 3; decide)), by simp [Value.category]⟩
    rcases List.mem_cons.mp hq with h | hq
    · rw [h]; exact Or.inl rfl
    · exact absurd hq List.not_mem_nil
  refine lj_new (ci := 9) (N := 29) (n2 := 33) (sl2 := 606) rfl rfl rfl rfl dL_8 qL_10 inX9s inX9i rfl tyX9_ok dfl9_ok ?_
  refine lj_dupR dL_11 ?_
  refine lj_callN (mc2 := 17) (ms2 := 504) (n2 := 50) (sl2 := 1110) rfl rfl rfl rfl dL_12 mL_12 hX9_init rfl (tX9_init (by omega) upw_s) (fun w3 hP => ?_)
  obtain ⟨hM, fr⟩ := hP
  refine lj_as (i := 2) (Lr2 := [(0, Value.ref bb), (1, cv x.1 (vR 0)), (2, cv x.1 (vR 32))]) dL_15 (fun q hq => ?_) ?_
  · rcases List.mem_cons.mp hq with h | hq
    · rw [h]; exact Or.inr ⟨by simp, (by first | (simp; done) | (show (0 : Nat) ≠ 3; decide) | (show (1 : Nat) ≠ 3; decide) | (show (2 : Nat) ≠ 3; decide)), by simp [Value.category]⟩
    rcases List.mem_cons.mp hq with h | hq
    · rw [h]; exact Or.inr ⟨by simp, (by first | (simp; done) | (show (0 : Nat) ≠ 3; decide) | (show (1 : Nat) ≠ 3; decide) | (show (2 : Nat) ≠ 3; decide)), by simp [cv, va_rf, Value.category]⟩
    rcases List.mem_cons.mp hq with h | hq
    · rw [h]; exact Or.inl rfl
    · exact absurd hq List.not_mem_nil
  refine lj_iconst dL_16 ?_
  refine lj_is (i := 3) (Lr2 := LRi x bb 0) dL_17 (fun q hq => ?_) ?_
  · rcases List.mem_cons.mp hq with h | hq
    · rw [h]; exact Or.inr ⟨by simp, (by first | (simp; done) | (show (0 : Nat) ≠ 3; decide) | (show (1 : Nat) ≠ 3; decide) | (show (2 : Nat) ≠ 3; decide)), by simp [Value.category]⟩
    rcases List.mem_cons.mp hq with h | hq
    · rw [h]; exact Or.inr ⟨by simp, (by first | (simp; done) | (show (0 : Nat) ≠ 3; decide) | (show (1 : Nat) ≠ 3; decide) | (show (2 : Nat) ≠ 3; decide)), by simp [cv, va_rf, Value.category]⟩
    rcases List.mem_cons.mp hq with h | hq
    · rw [h]; exact Or.inr ⟨by simp, (by first | (simp; done) | (show (0 : Nat) ≠ 3; decide) | (show (1 : Nat) ≠ 3; decide) | (show (2 : Nat) ≠ 3; decide)), by simp [cv, va_rf, Value.category]⟩
    rcases List.mem_cons.mp hq with h | hq
    · rw [h]; exact Or.inl rfl
    · exact absurd hq List.not_mem_nil
  exact law_loop hLL _ 0 w3 (by omega) (by omega) (Nat.lt_succ_self _) (LInv.mk hC hM (fun k hk => (fr k hk).trans (upw_o (by omega) rfl)))
