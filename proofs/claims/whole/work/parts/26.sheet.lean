/-! contracts: append, shorten; Sheet -/
set_option maxRecDepth 20000 in
set_option maxHeartbeats 4000000 in
theorem tX6_append {l : Launch} {x : Cx} {d : Nat} {w : AW} {tx on ot ho wy : Int → Int} {by0 nu fl : Int} {v : Int} (hd : 4 ≤ d) (hA : RoadsAt w tx on ot ho wy by0 nu fl) (hT : TxOK tx by0) (hv : 0 ≤ v ∧ v ≤ 255) : Mt l x iX6_append d 0 0 50 w [vR 1, vI v] (fun v2 w2 => (by0 < 47 ∧ v2 = some (vI 1) ∧ RoadsC w2 (upf tx by0 v) (by0 + 1) ∧ ∀ k : Nat, (k < 1 ∨ 6 < k) → w2 k = w k) ∨ (¬ by0 < 47 ∧ v2 = some (vI 0) ∧ w2 = w)) := by
  obtain ⟨q1, q2, q3, q4, q5, q6⟩ := hA
  have b9 := hT.1
  refine Mt.of (L0 := [some (vR 1), some (vI v)]) rfl rfl rfl ?_
  refine gj_al0 dX6_append_0 ?_
  refine gj_get dX6_append_1 fX6_27 q1 rfl rfl ?_
  refine gj_bipush dX6_append_4 rfl ?_
  refine gj_icmp_lt dX6_append_6 (by omega) (fun h6 => ?_) (fun h6 => ?_)
  · refine gj_al0 dX6_append_11 ?_
    refine gj_get dX6_append_12 fX6_11 q1 rfl rfl ?_
    refine gj_al0 dX6_append_15 ?_
    refine gj_get dX6_append_16 fX6_27 q1 rfl rfl ?_
    refine gj_il1 dX6_append_19 ?_
    refine gj_iast dX6_append_20 q2 rfl rfl (by omega) ?_
    refine gj_al0 dX6_append_21 ?_
    refine gj_dupR dX6_append_22 ?_
    refine gj_get dX6_append_23 fX6_27 (upw_o (by decide) q1) rfl rfl ?_
    refine gj_iconst dX6_append_26 ?_
    refine gj_iadd dX6_append_27 ?_
    refine gj_pI5 dX6_append_28 fX6_27 (upw_o (by decide) q1) rfl ?_
    refine gj_al0 dX6_append_31 ?_
    refine gj_cV0v dX6_append_32 mX6_43 hX6_settle upw_s rfl (by omega) rfl (tX6_settle  (by omega) ⟨upw_s, (upw_o (by decide) upw_s), (upw_o (by decide) (upw_o (by decide) q3)), (upw_o (by decide) (upw_o (by decide) q4)), (upw_o (by decide) (upw_o (by decide) q5)), (upw_o (by decide) (upw_o (by decide) q6))⟩ ⟨by omega, fun i g0 g1 => by unfold upf; by_cases e : i = by0; (rw [if_pos e]; exact hv); (rw [if_neg e]; exact hT.2 i g0 (by omega))⟩) (fun w32 P32 => ?_)
    obtain ⟨rc32, fr32⟩ := P32
    refine gj_iconst dX6_append_35 ?_
    exact gj_zret (Or.inr rfl) dX6_append_36 rfl (Or.inl ⟨h6, rfl, rc32, fun k hk => (fr32 k hk).trans (upw_o (by omega) (upw_o (by omega) rfl))⟩)
  · refine gj_iconst dX6_append_9 ?_
    exact gj_zret (Or.inl rfl) dX6_append_10 rfl (Or.inr ⟨h6, rfl, rfl⟩)
set_option maxRecDepth 20000 in
set_option maxHeartbeats 4000000 in
theorem tX6_shorten {l : Launch} {x : Cx} {d : Nat} {w : AW} {tx on ot ho wy : Int → Int} {by0 nu fl : Int} {n0 : Int} (hd : 4 ≤ d) (hA : RoadsAt w tx on ot ho wy by0 nu fl) (hT : TxOK tx n0) : Mt l x iX6_shorten d 0 0 50 w [vR 1, vI n0] (Wv (fun w2 => RoadsC w2 tx n0 ∧ ∀ k : Nat, (k < 1 ∨ 6 < k) → w2 k = w k)) := by
  obtain ⟨q1, q2, q3, q4, q5, q6⟩ := hA
  refine Mt.of (L0 := [some (vR 1), some (vI n0)]) rfl rfl rfl ?_
  refine gj_al0 dX6_shorten_0 ?_
  refine gj_il1 dX6_shorten_1 ?_
  refine gj_pI5 dX6_shorten_2 fX6_27 q1 rfl ?_
  refine gj_al0 dX6_shorten_5 ?_
  refine gj_cV0v dX6_shorten_6 mX6_43 hX6_settle upw_s rfl (by omega) rfl (tX6_settle  (by omega) ⟨upw_s, (upw_o (by decide) q2), (upw_o (by decide) q3), (upw_o (by decide) q4), (upw_o (by decide) q5), (upw_o (by decide) q6)⟩ hT) (fun w6 P6 => ?_)
  obtain ⟨rc6, fr6⟩ := P6
  exact gj_vret dX6_shorten_9 rfl (wv_v ⟨rc6, fun k hk => (fr6 k hk).trans (upw_o (by omega) rfl)⟩)
/-- what an item of a form keeps of an int -/
def cutF (fo v : Int) : Int := if fo = 0 then bB v else if fo = 1 then bS v else v
set_option maxRecDepth 20000 in
set_option maxHeartbeats 4000000 in
theorem tX7_renew0 {l : Launch} {x : Cx} {d : Nat} {w : AW} {it : Int → Int} {fo ln lo : Int} {f1 n1 : Int} (hd : 1 ≤ d) (hS : w 24 = cO 7 [vR 25, vI fo, vI ln, vI lo] ∧ w 25 = cI 60 it) : Mt l x iX7_renew d 0 0 50 w [vR 24, vI f1, vI n1] (Wv (fun w2 => w2 = upw (upw w 25 (cI 60 (filF it 0 60))) 24 (cO 7 [vR 25, vI f1, vI n1, vI 0]))) := by
  obtain ⟨q24, q25⟩ := hS
  refine Mt.of (L0 := [some (vR 24), some (vI f1), some (vI n1)]) rfl rfl rfl ?_
  refine gj_al0 dX7_renew_0 ?_
  refine gj_get dX7_renew_1 fX7_11 q24 rfl rfl ?_
  refine gj_iconst dX7_renew_4 ?_
  refine gj_cS2v dX7_renew_5 mX7_26 hJ7_fill_53178 (by omega) rfl (tFill q25 rfl rfl) (fun w5 P5 => ?_)
  obtain rfl := P5
  refine gj_al0 dX7_renew_8 ?_
  refine gj_il1 dX7_renew_9 ?_
  refine gj_pI1 dX7_renew_10 fX7_15 (upw_o (by decide) q24) rfl ?_
  refine gj_al0 dX7_renew_13 ?_
  refine gj_il2 dX7_renew_14 ?_
  refine gj_pI2 dX7_renew_15 fX7_19 upw_s rfl ?_
  refine gj_al0 dX7_renew_18 ?_
  refine gj_iconst dX7_renew_19 ?_
  refine gj_pZ3 (Or.inl rfl) dX7_renew_20 fX7_22 upw_s rfl ?_
  exact gj_vret dX7_renew_23 rfl (wv_v (by rw [upw_upw, upw_upw]; rfl))
set_option maxRecDepth 20000 in
set_option maxHeartbeats 4000000 in
theorem tX7_put0 {l : Launch} {x : Cx} {d : Nat} {w : AW} {it : Int → Int} {fo ln lo : Int} {i v : Int} (hd : 0 ≤ d) (hS : w 24 = cO 7 [vR 25, vI fo, vI ln, vI lo] ∧ w 25 = cI 60 it) (hi : 0 ≤ i ∧ i < 60) (hf : R32 fo) : Mt l x iX7_put d 0 0 50 w [vR 24, vI i, vI v] (Wv (fun w2 => w2 = upw w 25 (cI 60 (upf it i (cutF fo v))))) := by
  obtain ⟨q24, q25⟩ := hS
  refine Mt.of (L0 := [some (vR 24), some (vI i), some (vI v)]) rfl rfl rfl ?_
  refine gj_al0 dX7_put_0 ?_
  refine gj_get dX7_put_1 fX7_15 q24 rfl rfl ?_
  refine gj_if_ne dX7_put_4 (by omega) (fun h4 => ?_) (fun h4 => ?_)
  · refine gj_al0 dX7_put_18 ?_
    refine gj_get dX7_put_19 fX7_11 q24 rfl rfl ?_
    refine gj_il1 dX7_put_22 ?_
    refine gj_al0 dX7_put_23 ?_
    refine gj_get dX7_put_24 fX7_15 q24 rfl rfl ?_
    refine gj_iconst dX7_put_27 ?_
    refine gj_icmp_ne dX7_put_28 (by omega) (fun h28 => ?_) (fun h28 => ?_)
    · refine gj_il2 dX7_put_36 ?_
      refine gj_iast dX7_put_37 q25 rfl rfl (by omega) ?_
      exact gj_vret dX7_put_38 rfl (wv_v (by unfold cutF; rw [if_neg h4, if_neg h28]))
    · refine gj_il2 dX7_put_31 ?_
      refine gj_i2s dX7_put_32 ?_
      refine gj_goto dX7_put_33 ?_
      refine gj_iast dX7_put_37 q25 rfl rfl (by omega) ?_
      exact gj_vret dX7_put_38 rfl (wv_v (by unfold cutF; rw [if_neg h4, if_pos h28]))
  · refine gj_al0 dX7_put_7 ?_
    refine gj_get dX7_put_8 fX7_11 q24 rfl rfl ?_
    refine gj_il1 dX7_put_11 ?_
    refine gj_il2 dX7_put_12 ?_
    refine gj_i2b dX7_put_13 ?_
    refine gj_iast dX7_put_14 q25 rfl rfl (by omega) ?_
    refine gj_goto dX7_put_15 ?_
    exact gj_vret dX7_put_38 rfl (wv_v (by unfold cutF; rw [if_pos h4]))
set_option maxRecDepth 20000 in
set_option maxHeartbeats 4000000 in
theorem tX7_holdsRun0 {l : Launch} {x : Cx} {d : Nat} {w : AW} {it : Int → Int} {fo ln lo : Int} {i n1 : Int} (hd : 0 ≤ d) (hS : w 24 = cO 7 [vR 25, vI fo, vI ln, vI lo] ∧ w 25 = cI 60 it) (hi : R32 i) (hn : R32 n1) (hl : 0 ≤ ln ∧ ln ≤ 60) : Mt l x iX7_holdsRun d 0 0 50 w [vR 24, vI i, vI n1] (Rd (vI (b2i (0 ≤ i ∧ 0 ≤ n1 ∧ i ≤ ln ∧ n1 ≤ ln - i))) w) := by
  obtain ⟨q24, q25⟩ := hS
  refine Mt.of (L0 := [some (vR 24), some (vI i), some (vI n1)]) rfl rfl rfl ?_
  refine gj_il1 dX7_holdsRun_0 ?_
  refine gj_if_lt dX7_holdsRun_1 (by omega) (fun h1 => ?_) (fun h1 => ?_)
  · refine gj_iconst dX7_holdsRun_30 ?_
    exact gj_zret (Or.inl rfl) dX7_holdsRun_31 rfl (rd_i (b2i_f (by omega)).symm)
  · refine gj_il2 dX7_holdsRun_4 ?_
    refine gj_if_lt dX7_holdsRun_5 (by omega) (fun h5 => ?_) (fun h5 => ?_)
    · refine gj_iconst dX7_holdsRun_30 ?_
      exact gj_zret (Or.inl rfl) dX7_holdsRun_31 rfl (rd_i (b2i_f (by omega)).symm)
    · refine gj_il1 dX7_holdsRun_8 ?_
      refine gj_al0 dX7_holdsRun_9 ?_
      refine gj_get dX7_holdsRun_10 fX7_19 q24 rfl rfl ?_
      refine gj_icmp_gt dX7_holdsRun_13 (by omega) (fun h13 => ?_) (fun h13 => ?_)
      · refine gj_iconst dX7_holdsRun_30 ?_
        exact gj_zret (Or.inl rfl) dX7_holdsRun_31 rfl (rd_i (b2i_f (by omega)).symm)
      · refine gj_il2 dX7_holdsRun_16 ?_
        refine gj_al0 dX7_holdsRun_17 ?_
        refine gj_get dX7_holdsRun_18 fX7_19 q24 rfl rfl ?_
        refine gj_il1 dX7_holdsRun_21 ?_
        refine gj_isub dX7_holdsRun_22 ?_
        refine gj_icmp_gt dX7_holdsRun_23 (by omega) (fun h23 => ?_) (fun h23 => ?_)
        · refine gj_iconst dX7_holdsRun_30 ?_
          exact gj_zret (Or.inl rfl) dX7_holdsRun_31 rfl (rd_i (b2i_f (by omega)).symm)
        · refine gj_iconst dX7_holdsRun_26 ?_
          refine gj_goto dX7_holdsRun_27 ?_
          exact gj_zret (Or.inr rfl) dX7_holdsRun_31 rfl (rd_i (b2i_t (by omega)).symm)
set_option maxRecDepth 20000 in
set_option maxHeartbeats 4000000 in
theorem tX7_renew1 {l : Launch} {x : Cx} {d : Nat} {w : AW} {it : Int → Int} {fo ln lo : Int} {f1 n1 : Int} (hd : 1 ≤ d) (hS : w 26 = cO 7 [vR 27, vI fo, vI ln, vI lo] ∧ w 27 = cI 60 it) : Mt l x iX7_renew d 0 0 50 w [vR 26, vI f1, vI n1] (Wv (fun w2 => w2 = upw (upw w 27 (cI 60 (filF it 0 60))) 26 (cO 7 [vR 27, vI f1, vI n1, vI 0]))) := by
  obtain ⟨q26, q27⟩ := hS
  refine Mt.of (L0 := [some (vR 26), some (vI f1), some (vI n1)]) rfl rfl rfl ?_
  refine gj_al0 dX7_renew_0 ?_
  refine gj_get dX7_renew_1 fX7_11 q26 rfl rfl ?_
  refine gj_iconst dX7_renew_4 ?_
  refine gj_cS2v dX7_renew_5 mX7_26 hJ7_fill_53178 (by omega) rfl (tFill q27 rfl rfl) (fun w5 P5 => ?_)
  obtain rfl := P5
  refine gj_al0 dX7_renew_8 ?_
  refine gj_il1 dX7_renew_9 ?_
  refine gj_pI1 dX7_renew_10 fX7_15 (upw_o (by decide) q26) rfl ?_
  refine gj_al0 dX7_renew_13 ?_
  refine gj_il2 dX7_renew_14 ?_
  refine gj_pI2 dX7_renew_15 fX7_19 upw_s rfl ?_
  refine gj_al0 dX7_renew_18 ?_
  refine gj_iconst dX7_renew_19 ?_
  refine gj_pZ3 (Or.inl rfl) dX7_renew_20 fX7_22 upw_s rfl ?_
  exact gj_vret dX7_renew_23 rfl (wv_v (by rw [upw_upw, upw_upw]; rfl))
set_option maxRecDepth 20000 in
set_option maxHeartbeats 4000000 in
theorem tX7_put1 {l : Launch} {x : Cx} {d : Nat} {w : AW} {it : Int → Int} {fo ln lo : Int} {i v : Int} (hd : 0 ≤ d) (hS : w 26 = cO 7 [vR 27, vI fo, vI ln, vI lo] ∧ w 27 = cI 60 it) (hi : 0 ≤ i ∧ i < 60) (hf : R32 fo) : Mt l x iX7_put d 0 0 50 w [vR 26, vI i, vI v] (Wv (fun w2 => w2 = upw w 27 (cI 60 (upf it i (cutF fo v))))) := by
  obtain ⟨q26, q27⟩ := hS
  refine Mt.of (L0 := [some (vR 26), some (vI i), some (vI v)]) rfl rfl rfl ?_
  refine gj_al0 dX7_put_0 ?_
  refine gj_get dX7_put_1 fX7_15 q26 rfl rfl ?_
  refine gj_if_ne dX7_put_4 (by omega) (fun h4 => ?_) (fun h4 => ?_)
  · refine gj_al0 dX7_put_18 ?_
    refine gj_get dX7_put_19 fX7_11 q26 rfl rfl ?_
    refine gj_il1 dX7_put_22 ?_
    refine gj_al0 dX7_put_23 ?_
    refine gj_get dX7_put_24 fX7_15 q26 rfl rfl ?_
    refine gj_iconst dX7_put_27 ?_
    refine gj_icmp_ne dX7_put_28 (by omega) (fun h28 => ?_) (fun h28 => ?_)
    · refine gj_il2 dX7_put_36 ?_
      refine gj_iast dX7_put_37 q27 rfl rfl (by omega) ?_
      exact gj_vret dX7_put_38 rfl (wv_v (by unfold cutF; rw [if_neg h4, if_neg h28]))
    · refine gj_il2 dX7_put_31 ?_
      refine gj_i2s dX7_put_32 ?_
      refine gj_goto dX7_put_33 ?_
      refine gj_iast dX7_put_37 q27 rfl rfl (by omega) ?_
      exact gj_vret dX7_put_38 rfl (wv_v (by unfold cutF; rw [if_neg h4, if_pos h28]))
  · refine gj_al0 dX7_put_7 ?_
    refine gj_get dX7_put_8 fX7_11 q26 rfl rfl ?_
    refine gj_il1 dX7_put_11 ?_
    refine gj_il2 dX7_put_12 ?_
    refine gj_i2b dX7_put_13 ?_
    refine gj_iast dX7_put_14 q27 rfl rfl (by omega) ?_
    refine gj_goto dX7_put_15 ?_
    exact gj_vret dX7_put_38 rfl (wv_v (by unfold cutF; rw [if_pos h4]))
set_option maxRecDepth 20000 in
set_option maxHeartbeats 4000000 in
theorem tX7_holdsRun1 {l : Launch} {x : Cx} {d : Nat} {w : AW} {it : Int → Int} {fo ln lo : Int} {i n1 : Int} (hd : 0 ≤ d) (hS : w 26 = cO 7 [vR 27, vI fo, vI ln, vI lo] ∧ w 27 = cI 60 it) (hi : R32 i) (hn : R32 n1) (hl : 0 ≤ ln ∧ ln ≤ 60) : Mt l x iX7_holdsRun d 0 0 50 w [vR 26, vI i, vI n1] (Rd (vI (b2i (0 ≤ i ∧ 0 ≤ n1 ∧ i ≤ ln ∧ n1 ≤ ln - i))) w) := by
  obtain ⟨q26, q27⟩ := hS
  refine Mt.of (L0 := [some (vR 26), some (vI i), some (vI n1)]) rfl rfl rfl ?_
  refine gj_il1 dX7_holdsRun_0 ?_
  refine gj_if_lt dX7_holdsRun_1 (by omega) (fun h1 => ?_) (fun h1 => ?_)
  · refine gj_iconst dX7_holdsRun_30 ?_
    exact gj_zret (Or.inl rfl) dX7_holdsRun_31 rfl (rd_i (b2i_f (by omega)).symm)
  · refine gj_il2 dX7_holdsRun_4 ?_
    refine gj_if_lt dX7_holdsRun_5 (by omega) (fun h5 => ?_) (fun h5 => ?_)
    · refine gj_iconst dX7_holdsRun_30 ?_
      exact gj_zret (Or.inl rfl) dX7_holdsRun_31 rfl (rd_i (b2i_f (by omega)).symm)
    · refine gj_il1 dX7_holdsRun_8 ?_
      refine gj_al0 dX7_holdsRun_9 ?_
      refine gj_get dX7_holdsRun_10 fX7_19 q26 rfl rfl ?_
      refine gj_icmp_gt dX7_holdsRun_13 (by omega) (fun h13 => ?_) (fun h13 => ?_)
      · refine gj_iconst dX7_holdsRun_30 ?_
        exact gj_zret (Or.inl rfl) dX7_holdsRun_31 rfl (rd_i (b2i_f (by omega)).symm)
      · refine gj_il2 dX7_holdsRun_16 ?_
        refine gj_al0 dX7_holdsRun_17 ?_
        refine gj_get dX7_holdsRun_18 fX7_19 q26 rfl rfl ?_
        refine gj_il1 dX7_holdsRun_21 ?_
        refine gj_isub dX7_holdsRun_22 ?_
        refine gj_icmp_gt dX7_holdsRun_23 (by omega) (fun h23 => ?_) (fun h23 => ?_)
        · refine gj_iconst dX7_holdsRun_30 ?_
          exact gj_zret (Or.inl rfl) dX7_holdsRun_31 rfl (rd_i (b2i_f (by omega)).symm)
        · refine gj_iconst dX7_holdsRun_26 ?_
          refine gj_goto dX7_holdsRun_27 ?_
          exact gj_zret (Or.inr rfl) dX7_holdsRun_31 rfl (rd_i (b2i_t (by omega)).symm)
set_option maxRecDepth 20000 in
set_option maxHeartbeats 4000000 in
theorem tX7_renew2 {l : Launch} {x : Cx} {d : Nat} {w : AW} {it : Int → Int} {fo ln lo : Int} {f1 n1 : Int} (hd : 1 ≤ d) (hS : w 28 = cO 7 [vR 29, vI fo, vI ln, vI lo] ∧ w 29 = cI 60 it) : Mt l x iX7_renew d 0 0 50 w [vR 28, vI f1, vI n1] (Wv (fun w2 => w2 = upw (upw w 29 (cI 60 (filF it 0 60))) 28 (cO 7 [vR 29, vI f1, vI n1, vI 0]))) := by
  obtain ⟨q28, q29⟩ := hS
  refine Mt.of (L0 := [some (vR 28), some (vI f1), some (vI n1)]) rfl rfl rfl ?_
  refine gj_al0 dX7_renew_0 ?_
  refine gj_get dX7_renew_1 fX7_11 q28 rfl rfl ?_
  refine gj_iconst dX7_renew_4 ?_
  refine gj_cS2v dX7_renew_5 mX7_26 hJ7_fill_53178 (by omega) rfl (tFill q29 rfl rfl) (fun w5 P5 => ?_)
  obtain rfl := P5
  refine gj_al0 dX7_renew_8 ?_
  refine gj_il1 dX7_renew_9 ?_
  refine gj_pI1 dX7_renew_10 fX7_15 (upw_o (by decide) q28) rfl ?_
  refine gj_al0 dX7_renew_13 ?_
  refine gj_il2 dX7_renew_14 ?_
  refine gj_pI2 dX7_renew_15 fX7_19 upw_s rfl ?_
  refine gj_al0 dX7_renew_18 ?_
  refine gj_iconst dX7_renew_19 ?_
  refine gj_pZ3 (Or.inl rfl) dX7_renew_20 fX7_22 upw_s rfl ?_
  exact gj_vret dX7_renew_23 rfl (wv_v (by rw [upw_upw, upw_upw]; rfl))
set_option maxRecDepth 20000 in
set_option maxHeartbeats 4000000 in
theorem tX7_put2 {l : Launch} {x : Cx} {d : Nat} {w : AW} {it : Int → Int} {fo ln lo : Int} {i v : Int} (hd : 0 ≤ d) (hS : w 28 = cO 7 [vR 29, vI fo, vI ln, vI lo] ∧ w 29 = cI 60 it) (hi : 0 ≤ i ∧ i < 60) (hf : R32 fo) : Mt l x iX7_put d 0 0 50 w [vR 28, vI i, vI v] (Wv (fun w2 => w2 = upw w 29 (cI 60 (upf it i (cutF fo v))))) := by
  obtain ⟨q28, q29⟩ := hS
  refine Mt.of (L0 := [some (vR 28), some (vI i), some (vI v)]) rfl rfl rfl ?_
  refine gj_al0 dX7_put_0 ?_
  refine gj_get dX7_put_1 fX7_15 q28 rfl rfl ?_
  refine gj_if_ne dX7_put_4 (by omega) (fun h4 => ?_) (fun h4 => ?_)
  · refine gj_al0 dX7_put_18 ?_
    refine gj_get dX7_put_19 fX7_11 q28 rfl rfl ?_
    refine gj_il1 dX7_put_22 ?_
    refine gj_al0 dX7_put_23 ?_
    refine gj_get dX7_put_24 fX7_15 q28 rfl rfl ?_
    refine gj_iconst dX7_put_27 ?_
    refine gj_icmp_ne dX7_put_28 (by omega) (fun h28 => ?_) (fun h28 => ?_)
    · refine gj_il2 dX7_put_36 ?_
      refine gj_iast dX7_put_37 q29 rfl rfl (by omega) ?_
      exact gj_vret dX7_put_38 rfl (wv_v (by unfold cutF; rw [if_neg h4, if_neg h28]))
    · refine gj_il2 dX7_put_31 ?_
      refine gj_i2s dX7_put_32 ?_
      refine gj_goto dX7_put_33 ?_
      refine gj_iast dX7_put_37 q29 rfl rfl (by omega) ?_
      exact gj_vret dX7_put_38 rfl (wv_v (by unfold cutF; rw [if_neg h4, if_pos h28]))
  · refine gj_al0 dX7_put_7 ?_
    refine gj_get dX7_put_8 fX7_11 q28 rfl rfl ?_
    refine gj_il1 dX7_put_11 ?_
    refine gj_il2 dX7_put_12 ?_
    refine gj_i2b dX7_put_13 ?_
    refine gj_iast dX7_put_14 q29 rfl rfl (by omega) ?_
    refine gj_goto dX7_put_15 ?_
    exact gj_vret dX7_put_38 rfl (wv_v (by unfold cutF; rw [if_pos h4]))
set_option maxRecDepth 20000 in
set_option maxHeartbeats 4000000 in
theorem tX7_holdsRun2 {l : Launch} {x : Cx} {d : Nat} {w : AW} {it : Int → Int} {fo ln lo : Int} {i n1 : Int} (hd : 0 ≤ d) (hS : w 28 = cO 7 [vR 29, vI fo, vI ln, vI lo] ∧ w 29 = cI 60 it) (hi : R32 i) (hn : R32 n1) (hl : 0 ≤ ln ∧ ln ≤ 60) : Mt l x iX7_holdsRun d 0 0 50 w [vR 28, vI i, vI n1] (Rd (vI (b2i (0 ≤ i ∧ 0 ≤ n1 ∧ i ≤ ln ∧ n1 ≤ ln - i))) w) := by
  obtain ⟨q28, q29⟩ := hS
  refine Mt.of (L0 := [some (vR 28), some (vI i), some (vI n1)]) rfl rfl rfl ?_
  refine gj_il1 dX7_holdsRun_0 ?_
  refine gj_if_lt dX7_holdsRun_1 (by omega) (fun h1 => ?_) (fun h1 => ?_)
  · refine gj_iconst dX7_holdsRun_30 ?_
    exact gj_zret (Or.inl rfl) dX7_holdsRun_31 rfl (rd_i (b2i_f (by omega)).symm)
  · refine gj_il2 dX7_holdsRun_4 ?_
    refine gj_if_lt dX7_holdsRun_5 (by omega) (fun h5 => ?_) (fun h5 => ?_)
    · refine gj_iconst dX7_holdsRun_30 ?_
      exact gj_zret (Or.inl rfl) dX7_holdsRun_31 rfl (rd_i (b2i_f (by omega)).symm)
    · refine gj_il1 dX7_holdsRun_8 ?_
      refine gj_al0 dX7_holdsRun_9 ?_
      refine gj_get dX7_holdsRun_10 fX7_19 q28 rfl rfl ?_
      refine gj_icmp_gt dX7_holdsRun_13 (by omega) (fun h13 => ?_) (fun h13 => ?_)
      · refine gj_iconst dX7_holdsRun_30 ?_
        exact gj_zret (Or.inl rfl) dX7_holdsRun_31 rfl (rd_i (b2i_f (by omega)).symm)
      · refine gj_il2 dX7_holdsRun_16 ?_
        refine gj_al0 dX7_holdsRun_17 ?_
        refine gj_get dX7_holdsRun_18 fX7_19 q28 rfl rfl ?_
        refine gj_il1 dX7_holdsRun_21 ?_
        refine gj_isub dX7_holdsRun_22 ?_
        refine gj_icmp_gt dX7_holdsRun_23 (by omega) (fun h23 => ?_) (fun h23 => ?_)
        · refine gj_iconst dX7_holdsRun_30 ?_
          exact gj_zret (Or.inl rfl) dX7_holdsRun_31 rfl (rd_i (b2i_f (by omega)).symm)
        · refine gj_iconst dX7_holdsRun_26 ?_
          refine gj_goto dX7_holdsRun_27 ?_
          exact gj_zret (Or.inr rfl) dX7_holdsRun_31 rfl (rd_i (b2i_t (by omega)).symm)
set_option maxRecDepth 20000 in
set_option maxHeartbeats 4000000 in
theorem tX7_renew3 {l : Launch} {x : Cx} {d : Nat} {w : AW} {it : Int → Int} {fo ln lo : Int} {f1 n1 : Int} (hd : 1 ≤ d) (hS : w 30 = cO 7 [vR 31, vI fo, vI ln, vI lo] ∧ w 31 = cI 60 it) : Mt l x iX7_renew d 0 0 50 w [vR 30, vI f1, vI n1] (Wv (fun w2 => w2 = upw (upw w 31 (cI 60 (filF it 0 60))) 30 (cO 7 [vR 31, vI f1, vI n1, vI 0]))) := by
  obtain ⟨q30, q31⟩ := hS
  refine Mt.of (L0 := [some (vR 30), some (vI f1), some (vI n1)]) rfl rfl rfl ?_
  refine gj_al0 dX7_renew_0 ?_
  refine gj_get dX7_renew_1 fX7_11 q30 rfl rfl ?_
  refine gj_iconst dX7_renew_4 ?_
  refine gj_cS2v dX7_renew_5 mX7_26 hJ7_fill_53178 (by omega) rfl (tFill q31 rfl rfl) (fun w5 P5 => ?_)
  obtain rfl := P5
  refine gj_al0 dX7_renew_8 ?_
  refine gj_il1 dX7_renew_9 ?_
  refine gj_pI1 dX7_renew_10 fX7_15 (upw_o (by decide) q30) rfl ?_
  refine gj_al0 dX7_renew_13 ?_
  refine gj_il2 dX7_renew_14 ?_
  refine gj_pI2 dX7_renew_15 fX7_19 upw_s rfl ?_
  refine gj_al0 dX7_renew_18 ?_
  refine gj_iconst dX7_renew_19 ?_
  refine gj_pZ3 (Or.inl rfl) dX7_renew_20 fX7_22 upw_s rfl ?_
  exact gj_vret dX7_renew_23 rfl (wv_v (by rw [upw_upw, upw_upw]; rfl))
set_option maxRecDepth 20000 in
set_option maxHeartbeats 4000000 in
theorem tX7_put3 {l : Launch} {x : Cx} {d : Nat} {w : AW} {it : Int → Int} {fo ln lo : Int} {i v : Int} (hd : 0 ≤ d) (hS : w 30 = cO 7 [vR 31, vI fo, vI ln, vI lo] ∧ w 31 = cI 60 it) (hi : 0 ≤ i ∧ i < 60) (hf : R32 fo) : Mt l x iX7_put d 0 0 50 w [vR 30, vI i, vI v] (Wv (fun w2 => w2 = upw w 31 (cI 60 (upf it i (cutF fo v))))) := by
  obtain ⟨q30, q31⟩ := hS
  refine Mt.of (L0 := [some (vR 30), some (vI i), some (vI v)]) rfl rfl rfl ?_
  refine gj_al0 dX7_put_0 ?_
  refine gj_get dX7_put_1 fX7_15 q30 rfl rfl ?_
  refine gj_if_ne dX7_put_4 (by omega) (fun h4 => ?_) (fun h4 => ?_)
  · refine gj_al0 dX7_put_18 ?_
    refine gj_get dX7_put_19 fX7_11 q30 rfl rfl ?_
    refine gj_il1 dX7_put_22 ?_
    refine gj_al0 dX7_put_23 ?_
    refine gj_get dX7_put_24 fX7_15 q30 rfl rfl ?_
    refine gj_iconst dX7_put_27 ?_
    refine gj_icmp_ne dX7_put_28 (by omega) (fun h28 => ?_) (fun h28 => ?_)
    · refine gj_il2 dX7_put_36 ?_
      refine gj_iast dX7_put_37 q31 rfl rfl (by omega) ?_
      exact gj_vret dX7_put_38 rfl (wv_v (by unfold cutF; rw [if_neg h4, if_neg h28]))
    · refine gj_il2 dX7_put_31 ?_
      refine gj_i2s dX7_put_32 ?_
      refine gj_goto dX7_put_33 ?_
      refine gj_iast dX7_put_37 q31 rfl rfl (by omega) ?_
      exact gj_vret dX7_put_38 rfl (wv_v (by unfold cutF; rw [if_neg h4, if_pos h28]))
  · refine gj_al0 dX7_put_7 ?_
    refine gj_get dX7_put_8 fX7_11 q30 rfl rfl ?_
    refine gj_il1 dX7_put_11 ?_
    refine gj_il2 dX7_put_12 ?_
    refine gj_i2b dX7_put_13 ?_
    refine gj_iast dX7_put_14 q31 rfl rfl (by omega) ?_
    refine gj_goto dX7_put_15 ?_
    exact gj_vret dX7_put_38 rfl (wv_v (by unfold cutF; rw [if_pos h4]))
set_option maxRecDepth 20000 in
set_option maxHeartbeats 4000000 in
theorem tX7_holdsRun3 {l : Launch} {x : Cx} {d : Nat} {w : AW} {it : Int → Int} {fo ln lo : Int} {i n1 : Int} (hd : 0 ≤ d) (hS : w 30 = cO 7 [vR 31, vI fo, vI ln, vI lo] ∧ w 31 = cI 60 it) (hi : R32 i) (hn : R32 n1) (hl : 0 ≤ ln ∧ ln ≤ 60) : Mt l x iX7_holdsRun d 0 0 50 w [vR 30, vI i, vI n1] (Rd (vI (b2i (0 ≤ i ∧ 0 ≤ n1 ∧ i ≤ ln ∧ n1 ≤ ln - i))) w) := by
  obtain ⟨q30, q31⟩ := hS
  refine Mt.of (L0 := [some (vR 30), some (vI i), some (vI n1)]) rfl rfl rfl ?_
  refine gj_il1 dX7_holdsRun_0 ?_
  refine gj_if_lt dX7_holdsRun_1 (by omega) (fun h1 => ?_) (fun h1 => ?_)
  · refine gj_iconst dX7_holdsRun_30 ?_
    exact gj_zret (Or.inl rfl) dX7_holdsRun_31 rfl (rd_i (b2i_f (by omega)).symm)
  · refine gj_il2 dX7_holdsRun_4 ?_
    refine gj_if_lt dX7_holdsRun_5 (by omega) (fun h5 => ?_) (fun h5 => ?_)
    · refine gj_iconst dX7_holdsRun_30 ?_
      exact gj_zret (Or.inl rfl) dX7_holdsRun_31 rfl (rd_i (b2i_f (by omega)).symm)
    · refine gj_il1 dX7_holdsRun_8 ?_
      refine gj_al0 dX7_holdsRun_9 ?_
      refine gj_get dX7_holdsRun_10 fX7_19 q30 rfl rfl ?_
      refine gj_icmp_gt dX7_holdsRun_13 (by omega) (fun h13 => ?_) (fun h13 => ?_)
      · refine gj_iconst dX7_holdsRun_30 ?_
        exact gj_zret (Or.inl rfl) dX7_holdsRun_31 rfl (rd_i (b2i_f (by omega)).symm)
      · refine gj_il2 dX7_holdsRun_16 ?_
        refine gj_al0 dX7_holdsRun_17 ?_
        refine gj_get dX7_holdsRun_18 fX7_19 q30 rfl rfl ?_
        refine gj_il1 dX7_holdsRun_21 ?_
        refine gj_isub dX7_holdsRun_22 ?_
        refine gj_icmp_gt dX7_holdsRun_23 (by omega) (fun h23 => ?_) (fun h23 => ?_)
        · refine gj_iconst dX7_holdsRun_30 ?_
          exact gj_zret (Or.inl rfl) dX7_holdsRun_31 rfl (rd_i (b2i_f (by omega)).symm)
        · refine gj_iconst dX7_holdsRun_26 ?_
          refine gj_goto dX7_holdsRun_27 ?_
          exact gj_zret (Or.inr rfl) dX7_holdsRun_31 rfl (rd_i (b2i_t (by omega)).symm)
