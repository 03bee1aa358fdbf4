/-! contracts: Homeward.seek and its answers -/
abbrev row0 (f : Int) : Int → Int := fun j => if j = 0 then f else 0
abbrev B0 : BT := (-1, -1, 0, fun _ => 0)
def homF (W : Int → Int → Bool) (fa on ot ho : Int → Int) (nu f t h top : Int) : BT := wlk W fa on ot ho nu t h 8 0 (row0 f) 0 top B0
theorem row0_ok {f t : Int} (hf : In7 f) : RowOK t 0 (row0 f) := by
  refine ⟨by omega, fun j a b => ?_, ?_, fun j a b => absurd b (by omega)⟩
  · have e : j = 0 := by omega
    subst e
    exact hf
  · unfold cntV
    rw [sumZ_in (lo := f) (hi := f + 1) hf.1 (by omega) (by omega) (fun q h0 h1 => b2i_iff (by
      rw [visZ_s _ _ (by omega)]
      show (false || decide (f = q)) = true ↔ _
      rw [Bool.false_or, decide_eq_true_eq]
      omega))]
    omega
theorem vis0 (f q : Int) : visZ (row0 f) q (0 + 1) = decide (f = q) := by
  rw [visZ_s _ _ (by omega)]
  show (false || decide (f = q)) = _
  rw [Bool.false_or]
/-- how many of the lowest 24 bits are 0, up to the first that is 1 -/
def cmbF (c : Int) : Int := if fstZ (fun k => tb c k) 0 24 = -1 then 24 else fstZ (fun k => tb c k) 0 24
theorem cmbF_R (c : Int) : 0 ≤ cmbF c ∧ cmbF c ≤ 24 := by
  unfold cmbF
  rcases fstZ_R (p := fun k => tb c k) _ 0 24 rfl with h | ⟨h1, h2, -, -⟩
  · rw [if_pos h]; omega
  · rw [if_neg (by omega)]; omega
set_option maxRecDepth 20000 in
set_option maxHeartbeats 4000000 in
theorem tX2_seek {l : Launch} {x : Cx} {d : Nat} {w : AW} {f9 : List AV} {fa : Int → Int} {W : Int → Int → Bool} {tx on ot ho wy : Int → Int} {by0 nu fl : Int} {go st bn : Int} {B : BT} {ra rb : Int → Int} {f t h : Int} (hd : 14 ≤ d) (q9 : w 9 = cO 5 f9) (hW : WarC w fa W) (hA : RoadsAt w tx on ot ho wy by0 nu fl) (hE : EdOK on ot ho nu) (hH : HomAt w go st bn B ra rb) (hf : In7 f) (ht : In7 t) (hh : 0 ≤ h ∧ h ≤ 671) : Mt l x iX2_seek d 0 0 50 w [vR 16, vI f, vI t, vI h] (Wv (fun w2 => ∃ (bn2 : Int) (ra2 rb2 : Int → Int), HomAt w2 t h bn2 (homF W fa on ot ho nu f t h 16777216) ra2 rb2 ∧ BOK t 16777216 (homF W fa on ot ho nu f t h 16777216) ∧ (∀ j : Int, 0 ≤ j → j ≤ (homF W fa on ot ho nu f t h 16777216).1 → rb2 j = (homF W fa on ot ho nu f t h 16777216).2.2.2 j) ∧ ∀ k : Nat, (k < 16 ∨ 18 < k) → w2 k = w k)) := by
  obtain ⟨q1, q2, q3, q4, q5, q6⟩ := hA
  obtain ⟨q16, q17, q18⟩ := hH
  refine Mt.of (L0 := [some (vR 16), some (vI f), some (vI t), some (vI h)]) rfl rfl rfl ?_
  refine gj_al0 dX2_seek_0 ?_
  refine gj_il2 dX2_seek_1 ?_
  refine gj_pI4 dX2_seek_2 fX2_36 q16 rfl ?_
  refine gj_al0 dX2_seek_5 ?_
  refine gj_il3 dX2_seek_6 ?_
  refine gj_pI5 dX2_seek_7 fX2_39 upw_s rfl ?_
  refine gj_al0 dX2_seek_10 ?_
  refine gj_iconst dX2_seek_11 ?_
  refine gj_il1 dX2_seek_12 ?_
  refine gj_ishl dX2_seek_13 ?_
  refine gj_pI6 dX2_seek_14 fX2_42 upw_s rfl ?_
  refine gj_al0 dX2_seek_17 ?_
  refine gj_get dX2_seek_18 fX2_9 upw_s rfl rfl ?_
  refine gj_iconst dX2_seek_21 ?_
  refine gj_il1 dX2_seek_22 ?_
  refine gj_iast dX2_seek_23 (upw_o (by decide) (upw_o (by decide) (upw_o (by decide) q17))) rfl rfl (by omega) ?_
  refine gj_al0 dX2_seek_24 ?_
  refine gj_iconst dX2_seek_25 ?_
  refine gj_pI7 dX2_seek_26 fX2_26 (upw_o (by decide) upw_s) rfl ?_
  refine gj_al0 dX2_seek_29 ?_
  refine gj_iconst dX2_seek_30 ?_
  refine gj_pI8 dX2_seek_31 fX2_30 upw_s rfl ?_
  refine gj_al0 dX2_seek_34 ?_
  refine gj_iconst dX2_seek_35 ?_
  refine gj_pI9 dX2_seek_36 fX2_33 upw_s rfl ?_
  refine gj_al0 dX2_seek_39 ?_
  refine gj_iconst dX2_seek_40 ?_
  refine gj_iconst dX2_seek_41 ?_
  refine gj_ldc dX2_seek_42 kX2_45 ?_
  refine gj_cV3v dX2_seek_44 mX2_46 hX2_walk upw_s rfl (by omega) rfl (tX2_walk 8 (B := B0) (row := row0 f) (by omega) (upw_o (by decide) (upw_o (by decide) (upw_o (by decide) (upw_o (by decide) (upw_o (by decide) (upw_o (by decide) (upw_o (by decide) q9))))))) (WarC.up (by decide) (WarC.up (by decide) (WarC.up (by decide) (WarC.up (by decide) (WarC.up (by decide) (WarC.up (by decide) (WarC.up (by decide) hW))))))) ⟨(upw_o (by decide) (upw_o (by decide) (upw_o (by decide) (upw_o (by decide) (upw_o (by decide) (upw_o (by decide) (upw_o (by decide) q1))))))), (upw_o (by decide) (upw_o (by decide) (upw_o (by decide) (upw_o (by decide) (upw_o (by decide) (upw_o (by decide) (upw_o (by decide) q2))))))), (upw_o (by decide) (upw_o (by decide) (upw_o (by decide) (upw_o (by decide) (upw_o (by decide) (upw_o (by decide) (upw_o (by decide) q3))))))), (upw_o (by decide) (upw_o (by decide) (upw_o (by decide) (upw_o (by decide) (upw_o (by decide) (upw_o (by decide) (upw_o (by decide) q4))))))), (upw_o (by decide) (upw_o (by decide) (upw_o (by decide) (upw_o (by decide) (upw_o (by decide) (upw_o (by decide) (upw_o (by decide) q5))))))), (upw_o (by decide) (upw_o (by decide) (upw_o (by decide) (upw_o (by decide) (upw_o (by decide) (upw_o (by decide) (upw_o (by decide) q6)))))))⟩ hE ⟨upw_s, (upw_o (by decide) (upw_o (by decide) (upw_o (by decide) upw_s))), (upw_o (by decide) (upw_o (by decide) (upw_o (by decide) (upw_o (by decide) (upw_o (by decide) (upw_o (by decide) (upw_o (by decide) q18)))))))⟩ (by omega) (row0_ok hf) (fun j g0 g1 => by rw [show j = 0 by omega, upf_s]; rfl) (fun q hq => by rw [tb_shl1 (by omega) (by omega), vis0]; exact decide_eq_decide.mpr ⟨fun e => e.symm, fun e => e.symm⟩) ⟨Or.inl rfl, ⟨Int.le_refl _, by decide⟩, by decide, by decide⟩ (fun j g0 g1 => absurd (show j ≤ -1 from g1) (by omega)) ht (by omega) (by omega) (by omega)) (fun w44 P44 => ?_)
  obtain ⟨bn44, ra44, rb44, ⟨qa44, qb44, qc44⟩, ja44, tq44, bo44, jb44, fr44⟩ := P44
  exact gj_vret dX2_seek_47 rfl (wv_v ⟨bn44, ra44, rb44, ⟨qa44, qb44, qc44⟩, bo44, jb44, fun k hk => (fr44 k hk).trans (upw_o (by omega) (upw_o (by omega) (upw_o (by omega) (upw_o (by omega) (upw_o (by omega) (upw_o (by omega) (upw_o (by omega) rfl)))))))⟩)
set_option maxRecDepth 20000 in
set_option maxHeartbeats 4000000 in
theorem tX2_commonBits {l : Launch} {x : Cx} {d : Nat} {w : AW} {go st bn : Int} {B : BT} {ra rb : Int → Int} (hd : 0 ≤ d) (hH : HomAt w go st bn B ra rb) : Mt l x iX2_commonBits d 0 0 50 w [vR 16] (Rd (vI (cmbF B.2.2.1)) w) := by
  obtain ⟨q16, q17, q18⟩ := hH
  refine Mt.of (L0 := [some (vR 16), none]) rfl rfl rfl ?_
  refine gj_iconst dX2_commonBits_0 ?_
  refine gj_is1 dX2_commonBits_1 rfl rfl ?_
  have loop2 : ∀ (k : Nat), ∀ (i : Int), (0 ≤ i ∧ i ≤ 24) → (fstZ (fun k => tb B.2.2.1 k) i 24 = fstZ (fun k => tb B.2.2.1 k) 0 24) → (24 - i).toNat < k → Gj l x iX2_commonBits d 0 0 50 (Rd (vI (cmbF B.2.2.1)) w) 0 0 50 w 2 [some (vR 16), some (vI i)] [] := by
    intro k
    induction k with
    | zero => intro _ _ _ hm; exact absurd hm (Nat.not_lt_zero _)
    | succ k ih2 =>
      intro i  hi ha hm2
      refine gj_il1 dX2_commonBits_2 ?_
      refine gj_bipush dX2_commonBits_3 rfl ?_
      refine gj_icmp_ge dX2_commonBits_5 (by omega) (fun h5 => ?_) (fun h5 => ?_)
      · refine gj_il1 dX2_commonBits_25 ?_
        exact gj_iret dX2_commonBits_26 rfl (rd_i (by unfold cmbF; rw [← ha, fstZ_end (by omega), if_pos rfl]; omega))
      · refine gj_al0 dX2_commonBits_8 ?_
        refine gj_get dX2_commonBits_9 fX2_33 q16 rfl rfl ?_
        refine gj_il1 dX2_commonBits_12 ?_
        refine gj_ishr dX2_commonBits_13 ?_
        refine gj_iconst dX2_commonBits_14 ?_
        refine gj_iand dX2_commonBits_15 ?_
        have bb := bShr_bit (v := B.2.2.1) (k := i) (by omega)
        have b5 := bAnd_R (bShr B.2.2.1 i) 1
        refine gj_if_ne dX2_commonBits_16 (by omega) (fun h16 => ?_) (fun h16 => ?_)
        · refine gj_il1 dX2_commonBits_25 ?_
          exact gj_iret dX2_commonBits_26 rfl (rd_i (by unfold cmbF; rw [← ha, fstZ_yes (by omega) (by by_cases z : tb B.2.2.1 i = true; (exact z); (rw [if_neg z] at bb; exact absurd bb h16)), if_neg (by omega)]))
        · refine gj_ii1 dX2_commonBits_19 rfl rfl ?_
          refine gj_goto dX2_commonBits_22 ?_
          exact ih2 _ (by omega) (by rw [← ha, ← fstZ_no (by omega) (by intro z; rw [if_pos z] at bb; omega)]) (by omega)
  exact loop2 _ _ (by omega) rfl (Nat.lt_succ_self _)
set_option maxRecDepth 20000 in
set_option maxHeartbeats 4000000 in
theorem tX2_above {l : Launch} {x : Cx} {d : Nat} {w : AW} {go st bn : Int} {B : BT} {ra rb : Int → Int} (hd : 1 ≤ d) (hH : HomAt w go st bn B ra rb) : Mt l x iX2_above d 0 0 50 w [vR 16] (Rd (vI (bShr B.2.2.1 (cmbF B.2.2.1))) w) := by
  obtain ⟨q16, q17, q18⟩ := hH
  refine Mt.of (L0 := [some (vR 16)]) rfl rfl rfl ?_
  refine gj_al0 dX2_above_0 ?_
  refine gj_get dX2_above_1 fX2_33 q16 rfl rfl ?_
  refine gj_al0 dX2_above_4 ?_
  refine gj_cV0r dX2_above_5 mX2_87 hX2_commonBits q16 rfl (by omega) rfl (tX2_commonBits  (by omega) ⟨q16, q17, q18⟩) ?_
  refine gj_ishr dX2_above_8 ?_
  exact gj_iret dX2_above_9 rfl (rd_i rfl)
set_option maxRecDepth 20000 in
set_option maxHeartbeats 4000000 in
theorem tX2_below {l : Launch} {x : Cx} {d : Nat} {w : AW} {go st bn : Int} {B : BT} {ra rb : Int → Int} (hd : 1 ≤ d) (hH : HomAt w go st bn B ra rb) : Mt l x iX2_below d 0 0 50 w [vR 16] (Rd (vI (bShl 1 (24 - cmbF B.2.2.1))) w) := by
  obtain ⟨q16, q17, q18⟩ := hH
  refine Mt.of (L0 := [some (vR 16)]) rfl rfl rfl ?_
  refine gj_iconst dX2_below_0 ?_
  refine gj_bipush dX2_below_1 rfl ?_
  refine gj_al0 dX2_below_3 ?_
  refine gj_cV0r dX2_below_4 mX2_87 hX2_commonBits q16 rfl (by omega) rfl (tX2_commonBits  (by omega) ⟨q16, q17, q18⟩) ?_
  refine gj_isub dX2_below_7 ?_
  refine gj_ishl dX2_below_8 ?_
  exact gj_iret dX2_below_9 rfl (rd_i rfl)
set_option maxRecDepth 20000 in
set_option maxHeartbeats 4000000 in
theorem tX2_landAt {l : Launch} {x : Cx} {d : Nat} {w : AW} {go st bn : Int} {B : BT} {ra rb : Int → Int} {i : Int} (hd : 0 ≤ d) (hH : HomAt w go st bn B ra rb) (hi : R32 i) (hb : -1 ≤ B.1 ∧ B.1 ≤ 7) : Mt l x iX2_landAt d 0 0 50 w [vR 16, vI i] (Rd (vI (if 0 ≤ i ∧ i ≤ B.1 then rb i else -1)) w) := by
  obtain ⟨q16, q17, q18⟩ := hH
  refine Mt.of (L0 := [some (vR 16), some (vI i)]) rfl rfl rfl ?_
  refine gj_il1 dX2_landAt_0 ?_
  refine gj_if_lt dX2_landAt_1 (by omega) (fun h1 => ?_) (fun h1 => ?_)
  · refine gj_iconst dX2_landAt_21 ?_
    exact gj_iret dX2_landAt_22 rfl (rd_i (by rw [if_neg (by omega)]))
  · refine gj_il1 dX2_landAt_4 ?_
    refine gj_al0 dX2_landAt_5 ?_
    refine gj_get dX2_landAt_6 fX2_26 q16 rfl rfl ?_
    refine gj_icmp_gt dX2_landAt_9 (by omega) (fun h9 => ?_) (fun h9 => ?_)
    · refine gj_iconst dX2_landAt_21 ?_
      exact gj_iret dX2_landAt_22 rfl (rd_i (by rw [if_neg (by omega)]))
    · refine gj_al0 dX2_landAt_12 ?_
      refine gj_get dX2_landAt_13 fX2_15 q16 rfl rfl ?_
      refine gj_il1 dX2_landAt_16 ?_
      refine gj_iald dX2_landAt_17 q18 rfl rfl (by omega) ?_
      refine gj_goto dX2_landAt_18 ?_
      exact gj_iret dX2_landAt_22 rfl (rd_i (by rw [if_pos (by omega)]))
