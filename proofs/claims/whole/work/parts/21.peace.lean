/-! contracts: Peace -/
abbrev PeaceAt (w : AW) (fa fe : Int → Int) (fc fd lw : Int) : Prop := w 9 = cO 5 [vR 7, vR 10, vR 11, vI fc, vI fd, vI lw] ∧ w 10 = cI 24 fa ∧ w 11 = cI 8 fe
/-- whether a day is a feast, among the first k -/
def fsB (fe : Int → Int) (day : Int) : Nat → Bool
  | 0 => false
  | k + 1 => fsB fe day k || decide (fe (k : Int) = day)
/-- whether there is war in an hour in a land -/
def warB (lw : Int) (fa ru fe : Int → Int) (fc h l : Int) : Bool := decide (0 ≤ h ∧ h ≤ 671) && !(tb lw (h / 168)) && decide (fa (3 * l + 1) = 0) && decide (ru (2 * fa (3 * l)) ≤ h % 168) && decide (h % 168 < 48 + ru (2 * fa (3 * l) + 1)) && !(fsB fe (h / 24) fc.toNat)
theorem warB_iff {lw : Int} {fa ru fe : Int → Int} {fc h l : Int} : warB lw fa ru fe fc h l = true ↔ (0 ≤ h ∧ h ≤ 671) ∧ tb lw (h / 168) = false ∧ fa (3 * l + 1) = 0 ∧ ru (2 * fa (3 * l)) ≤ h % 168 ∧ h % 168 < 48 + ru (2 * fa (3 * l) + 1) ∧ fsB fe (h / 24) fc.toNat = false := by
  unfold warB
  simp only [Bool.and_eq_true, decide_eq_true_eq, Bool.not_eq_true', and_assoc]
abbrev FaOK (fa : Int → Int) : Prop := ∀ l : Int, 0 ≤ l → l ≤ 7 → (0 ≤ fa (3 * l) ∧ fa (3 * l) ≤ 3) ∧ (0 ≤ fa (3 * l + 1) ∧ fa (3 * l + 1) ≤ 1) ∧ (0 ≤ fa (3 * l + 2) ∧ fa (3 * l + 2) ≤ 16)
abbrev FeOK (fe : Int → Int) (fc : Int) : Prop := (0 ≤ fc ∧ fc ≤ 8) ∧ ∀ k : Int, 0 ≤ k → k < fc → 0 ≤ fe k ∧ fe k ≤ 27
/-- the days told as bits -/
def gatF (fe : Int → Int) : Nat → Int
  | 0 => 0
  | k + 1 => bOr (gatF fe k) (bShl 1 (fe (k : Int)))
def gatZ (fe : Int → Int) (i : Int) : Int := gatF fe i.toNat
theorem gatZ_s (fe : Int → Int) {i : Int} (h : 0 ≤ i) : gatZ fe (i + 1) = bOr (gatZ fe i) (bShl 1 (fe i)) := by
  unfold gatZ
  rw [show (i + 1).toNat = i.toNat + 1 by omega, gatF, show ((i.toNat : Nat) : Int) = i by omega]
theorem gat_fs {fe : Int → Int} {day : Int} (hd : 0 ≤ day ∧ day < 28) : ∀ (k : Nat), (∀ i : Int, 0 ≤ i → i < (k : Int) → 0 ≤ fe i ∧ fe i ≤ 27) → tb (gatF fe k) day = fsB fe day k
  | 0, _ => tb_0 day
  | k + 1, h => by
    have h1 := h (k : Int) (by omega) (by omega)
    rw [gatF, tb_or, gat_fs hd k (fun i a b => h i a (by omega)), tb_shl1 (by omega) (by omega), fsB]
    congr 1
    exact decide_eq_decide.mpr ⟨fun e => e.symm, fun e => e.symm⟩
theorem fsB_congr {f g : Int → Int} {day : Int} : ∀ k : Nat, (∀ i : Int, 0 ≤ i → i < (k : Int) → f i = g i) → fsB f day k = fsB g day k
  | 0, _ => rfl
  | k + 1, h => by
    rw [fsB, fsB, fsB_congr k (fun i a b => h i a (by omega)), h (k : Int) (by omega) (by omega)]
abbrev POK (fa ru fe : Int → Int) (fc fd lw : Int) : Prop := FaOK fa ∧ RuOK ru ∧ FeOK fe fc ∧ (0 ≤ lw ∧ lw ≤ 15) ∧ fd = gatZ fe fc
def mosF (a : Int) : Int := if a = 0 then 3 else if a = 1 then 1 else if a = 2 then 16 else -1
set_option maxRecDepth 20000 in
set_option maxHeartbeats 4000000 in
theorem tX5_mostOf {l : Launch} {x : Cx} {d : Nat} {w : AW} {a : Int} (hd : 0 ≤ d) (ha : R32 a) : Mt l x iX5_mostOf d 0 0 50 w [vI a] (Rd (vI (mosF a)) w) := by
  refine Mt.of (L0 := [some (vI a)]) rfl rfl rfl ?_
  refine gj_il0 dX5_mostOf_0 ?_
  refine gj_tsw3 (t0 := 28) (t1 := 30) (t2 := 32) (td := 35) dX5_mostOf_1 (by omega) (by decide) (by decide) (by decide) (by decide) (fun h1 => ?_) (fun h1 => ?_) (fun h1 => ?_) (fun h1 => ?_)
  · refine gj_iconst dX5_mostOf_28 ?_
    exact gj_iret dX5_mostOf_29 rfl (rd_i (by unfold mosF; (repeat' split) <;> omega))
  · refine gj_iconst dX5_mostOf_30 ?_
    exact gj_iret dX5_mostOf_31 rfl (rd_i (by unfold mosF; (repeat' split) <;> omega))
  · refine gj_bipush dX5_mostOf_32 rfl ?_
    exact gj_iret dX5_mostOf_34 rfl (rd_i (by unfold mosF; (repeat' split) <;> omega))
  · refine gj_iconst dX5_mostOf_35 ?_
    exact gj_iret dX5_mostOf_36 rfl (rd_i (by unfold mosF; (repeat' split) <;> omega))
set_option maxRecDepth 20000 in
set_option maxHeartbeats 4000000 in
theorem tX5_at {l : Launch} {x : Cx} {d : Nat} {w : AW} {fa fe : Int → Int} {fc fd lw : Int} {l0 k : Int} (hd : 0 ≤ d) (hP : PeaceAt w fa fe fc fd lw) (hl : 0 ≤ l0 ∧ l0 ≤ 7) (hk : 0 ≤ k ∧ k ≤ 2) : Mt l x iX5_at d 0 0 50 w [vR 9, vI l0, vI k] (Rd (vI (fa (l0 * 3 + k))) w) := by
  obtain ⟨q9, q10, q11⟩ := hP
  refine Mt.of (L0 := [some (vR 9), some (vI l0), some (vI k)]) rfl rfl rfl ?_
  refine gj_al0 dX5_at_0 ?_
  refine gj_get dX5_at_1 fX5_11 q9 rfl rfl ?_
  refine gj_il1 dX5_at_4 ?_
  refine gj_iconst dX5_at_5 ?_
  refine gj_imul dX5_at_6 ?_
  refine gj_il2 dX5_at_7 ?_
  refine gj_iadd dX5_at_8 ?_
  refine gj_iald dX5_at_9 q10 rfl rfl (by omega) ?_
  exact gj_iret dX5_at_10 rfl (rd_i rfl)
set_option maxRecDepth 20000 in
set_option maxHeartbeats 4000000 in
theorem tX5_put {l : Launch} {x : Cx} {d : Nat} {w : AW} {fa fe : Int → Int} {fc fd lw : Int} {l0 k v : Int} (hd : 1 ≤ d) (hP : PeaceAt w fa fe fc fd lw) (hl : 0 ≤ l0 ∧ l0 ≤ 7) (hk : 0 ≤ k ∧ k ≤ 2) : Mt l x iX5_put d 0 0 50 w [vR 9, vI l0, vI k, vI v] (Wr (vI (fa (l0 * 3 + k))) (fun w2 => w2 = upw w 10 (cI 24 (upf fa (l0 * 3 + k) v)))) := by
  obtain ⟨q9, q10, q11⟩ := hP
  refine Mt.of (L0 := [some (vR 9), some (vI l0), some (vI k), some (vI v), none]) rfl rfl rfl ?_
  refine gj_al0 dX5_put_0 ?_
  refine gj_il1 dX5_put_1 ?_
  refine gj_il2 dX5_put_2 ?_
  refine gj_cV2r dX5_put_3 mX5_32 hX5_at q9 rfl (by omega) rfl (tX5_at  (by omega) ⟨q9, q10, q11⟩ (by omega) (by omega)) ?_
  refine gj_is4 dX5_put_6 rfl rfl ?_
  refine gj_al0 dX5_put_8 ?_
  refine gj_get dX5_put_9 fX5_11 q9 rfl rfl ?_
  refine gj_il1 dX5_put_12 ?_
  refine gj_iconst dX5_put_13 ?_
  refine gj_imul dX5_put_14 ?_
  refine gj_il2 dX5_put_15 ?_
  refine gj_iadd dX5_put_16 ?_
  refine gj_il3 dX5_put_17 ?_
  refine gj_iast dX5_put_18 q10 rfl rfl (by omega) ?_
  refine gj_il4 dX5_put_19 ?_
  exact gj_iret dX5_put_21 rfl (wr_i rfl rfl)
set_option maxRecDepth 20000 in
set_option maxHeartbeats 4000000 in
theorem tX5_swornLands {l : Launch} {x : Cx} {d : Nat} {w : AW} {fa fe : Int → Int} {fc fd lw : Int} (hd : 1 ≤ d) (hP : PeaceAt w fa fe fc fd lw) : Mt l x iX5_swornLands d 0 0 50 w [vR 9] (Rd (vI (sumZ (fun i => fa (i * 3 + 1)) 8)) w) := by
  obtain ⟨q9, q10, q11⟩ := hP
  refine Mt.of (L0 := [some (vR 9), none, none]) rfl rfl rfl ?_
  refine gj_iconst dX5_swornLands_0 ?_
  refine gj_is1 dX5_swornLands_1 rfl rfl ?_
  refine gj_iconst dX5_swornLands_2 ?_
  refine gj_is2 dX5_swornLands_3 rfl rfl ?_
  have loop4 : ∀ (k : Nat), ∀ (a i : Int), (0 ≤ i ∧ i ≤ 8) → (a = sumZ (fun i => fa (i * 3 + 1)) i) → (8 - i).toNat < k → Gj l x iX5_swornLands d 0 0 50 (Rd (vI (sumZ (fun i => fa (i * 3 + 1)) 8)) w) 0 0 50 w 4 [some (vR 9), some (vI a), some (vI i)] [] := by
    intro k
    induction k with
    | zero => intro _ _ _ _ hm; exact absurd hm (Nat.not_lt_zero _)
    | succ k ih4 =>
      intro a i  hi ha hm4
      refine gj_il2 dX5_swornLands_4 ?_
      refine gj_bipush dX5_swornLands_5 rfl ?_
      refine gj_icmp_ge dX5_swornLands_7 (by omega) (fun h7 => ?_) (fun h7 => ?_)
      · refine gj_il1 dX5_swornLands_25 ?_
        exact gj_iret dX5_swornLands_26 rfl (rd_i (by rw [ha, show i = 8 by omega]))
      · refine gj_il1 dX5_swornLands_10 ?_
        refine gj_al0 dX5_swornLands_11 ?_
        refine gj_il2 dX5_swornLands_12 ?_
        refine gj_iconst dX5_swornLands_13 ?_
        refine gj_cV2r dX5_swornLands_14 mX5_32 hX5_at q9 rfl (by omega) rfl (tX5_at  (by omega) ⟨q9, q10, q11⟩ (by omega) (by omega)) ?_
        refine gj_iadd dX5_swornLands_17 ?_
        refine gj_is1 dX5_swornLands_18 rfl rfl ?_
        refine gj_ii2 dX5_swornLands_19 rfl rfl ?_
        refine gj_goto dX5_swornLands_22 ?_
        exact ih4 _ _ (by omega) (by rw [sumZ_s _ hi.1, ha]) (by omega)
  exact loop4 _ _ _ (by omega) rfl (Nat.lt_succ_self _)
set_option maxRecDepth 20000 in
set_option maxHeartbeats 4000000 in
theorem tX5_gatherFeasts {l : Launch} {x : Cx} {d : Nat} {w : AW} {fa fe : Int → Int} {fc fd lw : Int} (hd : 0 ≤ d) (hP : PeaceAt w fa fe fc fd lw) (hF : FeOK fe fc) : Mt l x iX5_gatherFeasts d 0 0 50 w [vR 9] (Wv (fun w2 => w2 = upw w 9 (cO 5 [vR 7, vR 10, vR 11, vI fc, vI (gatZ fe fc), vI lw]))) := by
  obtain ⟨q9, q10, q11⟩ := hP
  refine Mt.of (L0 := [some (vR 9), none]) rfl rfl rfl ?_
  refine gj_al0 dX5_gatherFeasts_0 ?_
  refine gj_iconst dX5_gatherFeasts_1 ?_
  refine gj_pI4 dX5_gatherFeasts_2 fX5_26 q9 rfl ?_
  refine gj_iconst dX5_gatherFeasts_5 ?_
  refine gj_is1 dX5_gatherFeasts_6 rfl rfl ?_
  have loop7 : ∀ (k : Nat), ∀ (a i : Int), (0 ≤ i ∧ i ≤ fc) → (a = gatZ fe i) → (fc - i).toNat < k → Gj l x iX5_gatherFeasts d 0 0 50 (Wv (fun w2 => w2 = upw w 9 (cO 5 [vR 7, vR 10, vR 11, vI fc, vI (gatZ fe fc), vI lw]))) 0 0 50 (upw w 9 (cO 5 [vR 7, vR 10, vR 11, vI fc, vI a, vI lw])) 7 [some (vR 9), some (vI i)] [] := by
    intro k
    induction k with
    | zero => intro _ _ _ _ hm; exact absurd hm (Nat.not_lt_zero _)
    | succ k ih7 =>
      intro a i  hi ha hm7
      refine gj_il1 dX5_gatherFeasts_7 ?_
      refine gj_al0 dX5_gatherFeasts_8 ?_
      refine gj_get dX5_gatherFeasts_9 fX5_22 upw_s rfl rfl ?_
      refine gj_icmp_ge dX5_gatherFeasts_12 (by omega) (fun h12 => ?_) (fun h12 => ?_)
      · exact gj_vret dX5_gatherFeasts_38 rfl (wv_v (by rw [ha, show i = fc by omega]))
      · refine gj_al0 dX5_gatherFeasts_15 ?_
        refine gj_dupR dX5_gatherFeasts_16 ?_
        refine gj_get dX5_gatherFeasts_17 fX5_26 upw_s rfl rfl ?_
        refine gj_iconst dX5_gatherFeasts_20 ?_
        refine gj_al0 dX5_gatherFeasts_21 ?_
        refine gj_get dX5_gatherFeasts_22 fX5_15 upw_s rfl rfl ?_
        refine gj_il1 dX5_gatherFeasts_25 ?_
        refine gj_iald dX5_gatherFeasts_26 (upw_o (by decide) q11) rfl rfl (by omega) ?_
        refine gj_ishl dX5_gatherFeasts_27 ?_
        refine gj_ior dX5_gatherFeasts_28 ?_
        refine gj_pI4 dX5_gatherFeasts_29 fX5_26 upw_s rfl ?_
        refine gj_ii1 dX5_gatherFeasts_32 rfl rfl ?_
        refine gj_goto dX5_gatherFeasts_35 ?_
        rw [upw_upw]
        exact ih7 _ _ (by omega) (by rw [gatZ_s _ hi.1, ha]) (by omega)
  exact loop7 _ _ _ (by omega) rfl (Nat.lt_succ_self _)
set_option maxRecDepth 20000 in
set_option maxHeartbeats 4000000 in
theorem tX5_addFeast {l : Launch} {x : Cx} {d : Nat} {w : AW} {fa fe : Int → Int} {fc fd lw : Int} {v : Int} (hd : 1 ≤ d) (hP : PeaceAt w fa fe fc fd lw) (hF : FeOK fe fc) (hv : 0 ≤ v ∧ v ≤ 27) : Mt l x iX5_addFeast d 0 0 50 w [vR 9, vI v] (fun v2 w2 => (fc < 8 ∧ v2 = some (vI 1) ∧ w2 = upw (upw w 11 (cI 8 (upf fe fc v))) 9 (cO 5 [vR 7, vR 10, vR 11, vI (fc + 1), vI (gatZ (upf fe fc v) (fc + 1)), vI lw])) ∨ (¬ fc < 8 ∧ v2 = some (vI 0) ∧ w2 = w)) := by
  obtain ⟨q9, q10, q11⟩ := hP
  refine Mt.of (L0 := [some (vR 9), some (vI v)]) rfl rfl rfl ?_
  refine gj_al0 dX5_addFeast_0 ?_
  refine gj_get dX5_addFeast_1 fX5_22 q9 rfl rfl ?_
  refine gj_bipush dX5_addFeast_4 rfl ?_
  refine gj_icmp_lt dX5_addFeast_6 (by omega) (fun h6 => ?_) (fun h6 => ?_)
  · refine gj_al0 dX5_addFeast_11 ?_
    refine gj_get dX5_addFeast_12 fX5_15 q9 rfl rfl ?_
    refine gj_al0 dX5_addFeast_15 ?_
    refine gj_get dX5_addFeast_16 fX5_22 q9 rfl rfl ?_
    refine gj_il1 dX5_addFeast_19 ?_
    refine gj_iast dX5_addFeast_20 q11 rfl rfl (by omega) ?_
    refine gj_al0 dX5_addFeast_21 ?_
    refine gj_dupR dX5_addFeast_22 ?_
    refine gj_get dX5_addFeast_23 fX5_22 (upw_o (by decide) q9) rfl rfl ?_
    refine gj_iconst dX5_addFeast_26 ?_
    refine gj_iadd dX5_addFeast_27 ?_
    refine gj_pI3 dX5_addFeast_28 fX5_22 (upw_o (by decide) q9) rfl ?_
    refine gj_al0 dX5_addFeast_31 ?_
    refine gj_cV0v dX5_addFeast_32 mX5_36 hX5_gatherFeasts upw_s rfl (by omega) rfl (tX5_gatherFeasts  (by omega) ⟨upw_s, (upw_o (by decide) (upw_o (by decide) q10)), (upw_o (by decide) upw_s)⟩ ⟨by omega, fun k h0 h1 => by unfold upf; by_cases e : k = fc; (rw [if_pos e]; exact hv); (rw [if_neg e]; exact hF.2 k h0 (by omega))⟩) (fun w32 P32 => ?_)
    obtain rfl := P32
    refine gj_iconst dX5_addFeast_35 ?_
    exact gj_zret (Or.inr rfl) dX5_addFeast_36 rfl (Or.inl ⟨h6, rfl, by rw [upw_upw]⟩)
  · refine gj_iconst dX5_addFeast_9 ?_
    exact gj_zret (Or.inl rfl) dX5_addFeast_10 rfl (Or.inr ⟨h6, rfl, rfl⟩)
set_option maxRecDepth 20000 in
set_option maxHeartbeats 4000000 in
theorem tX5_dropFeast {l : Launch} {x : Cx} {d : Nat} {w : AW} {fa fe : Int → Int} {fc fd lw : Int} (hd : 1 ≤ d) (hP : PeaceAt w fa fe fc fd lw) (hF : FeOK fe fc) : Mt l x iX5_dropFeast d 0 0 50 w [vR 9] (fun v2 w2 => (fc ≠ 0 ∧ v2 = some (vI 1) ∧ w2 = upw w 9 (cO 5 [vR 7, vR 10, vR 11, vI (fc - 1), vI (gatZ fe (fc - 1)), vI lw])) ∨ (fc = 0 ∧ v2 = some (vI 0) ∧ w2 = w)) := by
  obtain ⟨q9, q10, q11⟩ := hP
  refine Mt.of (L0 := [some (vR 9)]) rfl rfl rfl ?_
  refine gj_al0 dX5_dropFeast_0 ?_
  refine gj_get dX5_dropFeast_1 fX5_22 q9 rfl rfl ?_
  refine gj_if_ne dX5_dropFeast_4 (by omega) (fun h4 => ?_) (fun h4 => ?_)
  · refine gj_al0 dX5_dropFeast_9 ?_
    refine gj_dupR dX5_dropFeast_10 ?_
    refine gj_get dX5_dropFeast_11 fX5_22 q9 rfl rfl ?_
    refine gj_iconst dX5_dropFeast_14 ?_
    refine gj_isub dX5_dropFeast_15 ?_
    refine gj_pI3 dX5_dropFeast_16 fX5_22 q9 rfl ?_
    refine gj_al0 dX5_dropFeast_19 ?_
    refine gj_cV0v dX5_dropFeast_20 mX5_36 hX5_gatherFeasts upw_s rfl (by omega) rfl (tX5_gatherFeasts  (by omega) ⟨upw_s, (upw_o (by decide) q10), (upw_o (by decide) q11)⟩ ⟨by omega, fun k h0 h1 => hF.2 k h0 (by omega)⟩) (fun w20 P20 => ?_)
    obtain rfl := P20
    refine gj_iconst dX5_dropFeast_23 ?_
    exact gj_zret (Or.inr rfl) dX5_dropFeast_24 rfl (Or.inl ⟨h4, rfl, by rw [upw_upw]⟩)
  · refine gj_iconst dX5_dropFeast_7 ?_
    exact gj_zret (Or.inl rfl) dX5_dropFeast_8 rfl (Or.inr ⟨h4, rfl, rfl⟩)
set_option maxRecDepth 20000 in
set_option maxHeartbeats 4000000 in
theorem tX5_isOpenDay {l : Launch} {x : Cx} {d : Nat} {w : AW} {fa fe : Int → Int} {fc fd lw : Int} {day l0 : Int} (hd : 0 ≤ d) (hP : PeaceAt w fa fe fc fd lw) (hd0 : 0 ≤ day ∧ day ≤ 27) (hl : 0 ≤ l0 ∧ l0 ≤ 7) (hf : R32 (fa (l0 * 3 + 1))) : Mt l x iX5_isOpenDay d 0 0 50 w [vR 9, vI day, vI l0] (Rd (vI (b2i (bAnd (bShr lw (day / 7)) 1 = 0 ∧ bAnd (bShr fd day) 1 = 0 ∧ fa (l0 * 3 + 1) = 0))) w) := by
  obtain ⟨q9, q10, q11⟩ := hP
  have b1 := bAnd_R (bShr lw (day / 7)) 1
  have b2 := bAnd_R (bShr fd day) 1
  refine Mt.of (L0 := [some (vR 9), some (vI day), some (vI l0), none, none]) rfl rfl rfl ?_
  refine gj_al0 dX5_isOpenDay_0 ?_
  refine gj_get dX5_isOpenDay_1 fX5_29 q9 rfl rfl ?_
  refine gj_il1 dX5_isOpenDay_4 ?_
  refine gj_bipush dX5_isOpenDay_5 rfl ?_
  refine gj_idiv dX5_isOpenDay_7 (by omega) (by omega) ?_
  refine gj_ishr dX5_isOpenDay_8 ?_
  refine gj_iconst dX5_isOpenDay_9 ?_
  refine gj_iand dX5_isOpenDay_10 ?_
  refine gj_if_eq dX5_isOpenDay_11 (by omega) (fun h11 => ?_) (fun h11 => ?_)
  · refine gj_iconst dX5_isOpenDay_18 ?_
    refine gj_is3 dX5_isOpenDay_19 rfl rfl ?_
    refine gj_al0 dX5_isOpenDay_20 ?_
    refine gj_get dX5_isOpenDay_21 fX5_26 q9 rfl rfl ?_
    refine gj_il1 dX5_isOpenDay_24 ?_
    refine gj_ishr dX5_isOpenDay_25 ?_
    refine gj_iconst dX5_isOpenDay_26 ?_
    refine gj_iand dX5_isOpenDay_27 ?_
    refine gj_if_eq dX5_isOpenDay_28 (by omega) (fun h28 => ?_) (fun h28 => ?_)
    · refine gj_iconst dX5_isOpenDay_35 ?_
      refine gj_is4 dX5_isOpenDay_36 rfl rfl ?_
      refine gj_il3 dX5_isOpenDay_38 ?_
      refine gj_if_ne dX5_isOpenDay_39 (by omega) (fun h => absurd h (by omega)) (fun _ => ?_)
      refine gj_il4 dX5_isOpenDay_42 ?_
      refine gj_if_ne dX5_isOpenDay_44 (by omega) (fun h => absurd h (by omega)) (fun _ => ?_)
      refine gj_al0 dX5_isOpenDay_47 ?_
      refine gj_get dX5_isOpenDay_48 fX5_11 q9 rfl rfl ?_
      refine gj_il2 dX5_isOpenDay_51 ?_
      refine gj_iconst dX5_isOpenDay_52 ?_
      refine gj_imul dX5_isOpenDay_53 ?_
      refine gj_iconst dX5_isOpenDay_54 ?_
      refine gj_iadd dX5_isOpenDay_55 ?_
      refine gj_iald dX5_isOpenDay_56 q10 rfl rfl (by omega) ?_
      refine gj_if_ne dX5_isOpenDay_57 (by omega) (fun h57 => ?_) (fun h57 => ?_)
      · refine gj_iconst dX5_isOpenDay_64 ?_
        exact gj_zret (Or.inl rfl) dX5_isOpenDay_65 rfl (rd_i (b2i_f (by omega)).symm)
      · refine gj_iconst dX5_isOpenDay_60 ?_
        refine gj_goto dX5_isOpenDay_61 ?_
        exact gj_zret (Or.inr rfl) dX5_isOpenDay_65 rfl (rd_i (b2i_t (by omega)).symm)
    · refine gj_iconst dX5_isOpenDay_31 ?_
      refine gj_goto dX5_isOpenDay_32 ?_
      refine gj_is4 dX5_isOpenDay_36 rfl rfl ?_
      refine gj_il3 dX5_isOpenDay_38 ?_
      refine gj_if_ne dX5_isOpenDay_39 (by omega) (fun h => absurd h (by omega)) (fun _ => ?_)
      refine gj_il4 dX5_isOpenDay_42 ?_
      refine gj_if_ne dX5_isOpenDay_44 (by omega) (fun _ => ?_) (fun h => absurd h (by omega))
      refine gj_iconst dX5_isOpenDay_64 ?_
      exact gj_zret (Or.inl rfl) dX5_isOpenDay_65 rfl (rd_i (b2i_f (by omega)).symm)
  · refine gj_iconst dX5_isOpenDay_14 ?_
    refine gj_goto dX5_isOpenDay_15 ?_
    refine gj_is3 dX5_isOpenDay_19 rfl rfl ?_
    refine gj_al0 dX5_isOpenDay_20 ?_
    refine gj_get dX5_isOpenDay_21 fX5_26 q9 rfl rfl ?_
    refine gj_il1 dX5_isOpenDay_24 ?_
    refine gj_ishr dX5_isOpenDay_25 ?_
    refine gj_iconst dX5_isOpenDay_26 ?_
    refine gj_iand dX5_isOpenDay_27 ?_
    refine gj_if_eq dX5_isOpenDay_28 (by omega) (fun h28 => ?_) (fun h28 => ?_)
    · refine gj_iconst dX5_isOpenDay_35 ?_
      refine gj_is4 dX5_isOpenDay_36 rfl rfl ?_
      refine gj_il3 dX5_isOpenDay_38 ?_
      refine gj_if_ne dX5_isOpenDay_39 (by omega) (fun _ => ?_) (fun h => absurd h (by omega))
      refine gj_iconst dX5_isOpenDay_64 ?_
      exact gj_zret (Or.inl rfl) dX5_isOpenDay_65 rfl (rd_i (b2i_f (by omega)).symm)
    · refine gj_iconst dX5_isOpenDay_31 ?_
      refine gj_goto dX5_isOpenDay_32 ?_
      refine gj_is4 dX5_isOpenDay_36 rfl rfl ?_
      refine gj_il3 dX5_isOpenDay_38 ?_
      refine gj_if_ne dX5_isOpenDay_39 (by omega) (fun _ => ?_) (fun h => absurd h (by omega))
      refine gj_iconst dX5_isOpenDay_64 ?_
      exact gj_zret (Or.inl rfl) dX5_isOpenDay_65 rfl (rd_i (b2i_f (by omega)).symm)
set_option maxRecDepth 20000 in
set_option maxHeartbeats 4000000 in
theorem tX5_bellOf {l : Launch} {x : Cx} {d : Nat} {w : AW} {fa fe ru : Int → Int} {fc fd lw : Int} {l0 k : Int} (hd : 0 ≤ d) (hP : PeaceAt w fa fe fc fd lw) (hB : BellsAt w ru) (hl : 0 ≤ l0 ∧ l0 ≤ 7) (hk : 0 ≤ k ∧ k ≤ 1) (hf : 0 ≤ fa (l0 * 3 + 0) ∧ fa (l0 * 3 + 0) ≤ 3) : Mt l x iX5_bellOf d 0 0 50 w [vR 9, vI l0, vI k] (Rd (vI (ru (2 * fa (l0 * 3 + 0) + k))) w) := by
  obtain ⟨q9, q10, q11⟩ := hP
  obtain ⟨q7, q8⟩ := hB
  refine Mt.of (L0 := [some (vR 9), some (vI l0), some (vI k)]) rfl rfl rfl ?_
  refine gj_al0 dX5_bellOf_0 ?_
  refine gj_get dX5_bellOf_1 fX5_18 q9 rfl rfl ?_
  refine gj_get dX5_bellOf_4 fX5_39 q7 rfl rfl ?_
  refine gj_iconst dX5_bellOf_7 ?_
  refine gj_al0 dX5_bellOf_8 ?_
  refine gj_get dX5_bellOf_9 fX5_11 q9 rfl rfl ?_
  refine gj_il1 dX5_bellOf_12 ?_
  refine gj_iconst dX5_bellOf_13 ?_
  refine gj_imul dX5_bellOf_14 ?_
  refine gj_iconst dX5_bellOf_15 ?_
  refine gj_iadd dX5_bellOf_16 ?_
  refine gj_iald dX5_bellOf_17 q10 rfl rfl (by omega) ?_
  refine gj_imul dX5_bellOf_18 ?_
  refine gj_il2 dX5_bellOf_19 ?_
  refine gj_iadd dX5_bellOf_20 ?_
  refine gj_iald dX5_bellOf_21 q8 rfl rfl (by omega) ?_
  exact gj_iret dX5_bellOf_22 rfl (rd_i rfl)
/-- open days, as the class tests them, and the common word for war -/
theorem opn_iff {fa ru fe : Int → Int} {fc fd lw day : Int} (hO : POK fa ru fe fc fd lw) (hd : 0 ≤ day ∧ day ≤ 27) (X : Prop) : (bAnd (bShr lw (day / 7)) 1 = 0 ∧ bAnd (bShr fd day) 1 = 0 ∧ X) ↔ (tb lw (day / 7) = false ∧ fsB fe day fc.toNat = false ∧ X) := by
  rw [bShr_bit (by omega), bShr_bit (by omega), hO.2.2.2.2, gatZ, gat_fs (by omega) _ (fun i a b => hO.2.2.1.2 i a (by have := hO.2.2.1.1; omega))]
  cases tb lw (day / 7) <;> cases fsB fe day fc.toNat <;> simp
set_option maxRecDepth 20000 in
set_option maxHeartbeats 4000000 in
theorem tX5_isWar {l : Launch} {x : Cx} {d : Nat} {w : AW} {fa fe ru : Int → Int} {fc fd lw : Int} {h l0 : Int} (hd : 1 ≤ d) (hP : PeaceAt w fa fe fc fd lw) (hB : BellsAt w ru) (hO : POK fa ru fe fc fd lw) (hh : R32 h) (hl : 0 ≤ l0 ∧ l0 ≤ 7) : Mt l x iX5_isWar d 0 0 50 w [vR 9, vI h, vI l0] (Rd (vI (b2i (warB lw fa ru fe fc h l0 = true))) w) := by
  obtain ⟨q9, q10, q11⟩ := hP
  obtain ⟨q7, q8⟩ := hB
  have f9 := hO.1 l0 hl.1 hl.2
  rw [show 3 * l0 = l0 * 3 + 0 by omega, show l0 * 3 + 0 + 1 = l0 * 3 + 1 by omega] at f9
  have r0 := hO.2.1 (2 * fa (l0 * 3 + 0) + 0) (by omega) (by omega)
  have r1 := hO.2.1 (2 * fa (l0 * 3 + 0) + 1) (by omega) (by omega)
  refine Mt.of (L0 := [some (vR 9), some (vI h), some (vI l0), none]) rfl rfl rfl ?_
  refine gj_il1 dX5_isWar_0 ?_
  refine gj_if_lt dX5_isWar_1 (by omega) (fun h1 => ?_) (fun h1 => ?_)
  · refine gj_iconst dX5_isWar_23 ?_
    exact gj_zret (Or.inl rfl) dX5_isWar_24 rfl (rd_i (b2i_f (by rw [warB_iff]; rintro ⟨g1, g2, g3, g4, g5, g6⟩; rw [show 3 * l0 + 1 = l0 * 3 + 1 by omega] at g3; rw [show 2 * fa (3 * l0) = 2 * fa (l0 * 3 + 0) + 0 by rw [show 3 * l0 = l0 * 3 + 0 by omega]; omega] at g4 g5; rw [show 2 * fa (l0 * 3 + 0) + 0 + 1 = 2 * fa (l0 * 3 + 0) + 1 by omega] at g5; first | omega | (have e1 : h / 24 / 7 = h / 168 := (by omega); exact h20 ((opn_iff hO (by omega) _).mpr ⟨by rw [e1]; exact g2, g6, g3⟩)))).symm)
  · refine gj_il1 dX5_isWar_4 ?_
    refine gj_sipush dX5_isWar_5 rfl ?_
    refine gj_icmp_ge dX5_isWar_8 (by omega) (fun h8 => ?_) (fun h8 => ?_)
    · refine gj_iconst dX5_isWar_23 ?_
      exact gj_zret (Or.inl rfl) dX5_isWar_24 rfl (rd_i (b2i_f (by rw [warB_iff]; rintro ⟨g1, g2, g3, g4, g5, g6⟩; rw [show 3 * l0 + 1 = l0 * 3 + 1 by omega] at g3; rw [show 2 * fa (3 * l0) = 2 * fa (l0 * 3 + 0) + 0 by rw [show 3 * l0 = l0 * 3 + 0 by omega]; omega] at g4 g5; rw [show 2 * fa (l0 * 3 + 0) + 0 + 1 = 2 * fa (l0 * 3 + 0) + 1 by omega] at g5; first | omega | (have e1 : h / 24 / 7 = h / 168 := (by omega); exact h20 ((opn_iff hO (by omega) _).mpr ⟨by rw [e1]; exact g2, g6, g3⟩)))).symm)
    · refine gj_al0 dX5_isWar_11 ?_
      refine gj_il1 dX5_isWar_12 ?_
      refine gj_bipush dX5_isWar_13 rfl ?_
      refine gj_idiv dX5_isWar_15 (by omega) (by omega) ?_
      refine gj_il2 dX5_isWar_16 ?_
      refine gj_cV2r dX5_isWar_17 mX5_44 hX5_isOpenDay q9 rfl (by omega) rfl (tX5_isOpenDay  (by omega) ⟨q9, q10, q11⟩ (by omega) (by omega) (by omega)) ?_
      refine gj_ifB_ne dX5_isWar_20 (fun h20 => ?_) (fun h20 => ?_)
      · refine gj_il1 dX5_isWar_25 ?_
        refine gj_sipush dX5_isWar_26 rfl ?_
        refine gj_irem dX5_isWar_29 (by omega) (by omega) ?_
        refine gj_is3 dX5_isWar_30 rfl rfl ?_
        refine gj_il3 dX5_isWar_31 ?_
        refine gj_al0 dX5_isWar_32 ?_
        refine gj_il2 dX5_isWar_33 ?_
        refine gj_iconst dX5_isWar_34 ?_
        refine gj_cV2r dX5_isWar_35 mX5_48 hX5_bellOf q9 rfl (by omega) rfl (tX5_bellOf  (by omega) ⟨q9, q10, q11⟩ ⟨q7, q8⟩ (by omega) (by omega) (by omega)) ?_
        refine gj_icmp_lt dX5_isWar_38 (by omega) (fun h38 => ?_) (fun h38 => ?_)
        · refine gj_iconst dX5_isWar_58 ?_
          exact gj_zret (Or.inl rfl) dX5_isWar_59 rfl (rd_i (b2i_f (by rw [warB_iff]; rintro ⟨g1, g2, g3, g4, g5, g6⟩; rw [show 3 * l0 + 1 = l0 * 3 + 1 by omega] at g3; rw [show 2 * fa (3 * l0) = 2 * fa (l0 * 3 + 0) + 0 by rw [show 3 * l0 = l0 * 3 + 0 by omega]; omega] at g4 g5; rw [show 2 * fa (l0 * 3 + 0) + 0 + 1 = 2 * fa (l0 * 3 + 0) + 1 by omega] at g5; first | omega | (have e1 : h / 24 / 7 = h / 168 := (by omega); exact h20 ((opn_iff hO (by omega) _).mpr ⟨by rw [e1]; exact g2, g6, g3⟩)))).symm)
        · refine gj_il3 dX5_isWar_41 ?_
          refine gj_bipush dX5_isWar_42 rfl ?_
          refine gj_al0 dX5_isWar_44 ?_
          refine gj_il2 dX5_isWar_45 ?_
          refine gj_iconst dX5_isWar_46 ?_
          refine gj_cV2r dX5_isWar_47 mX5_48 hX5_bellOf q9 rfl (by omega) rfl (tX5_bellOf  (by omega) ⟨q9, q10, q11⟩ ⟨q7, q8⟩ (by omega) (by omega) (by omega)) ?_
          refine gj_iadd dX5_isWar_50 ?_
          refine gj_icmp_ge dX5_isWar_51 (by omega) (fun h51 => ?_) (fun h51 => ?_)
          · refine gj_iconst dX5_isWar_58 ?_
            exact gj_zret (Or.inl rfl) dX5_isWar_59 rfl (rd_i (b2i_f (by rw [warB_iff]; rintro ⟨g1, g2, g3, g4, g5, g6⟩; rw [show 3 * l0 + 1 = l0 * 3 + 1 by omega] at g3; rw [show 2 * fa (3 * l0) = 2 * fa (l0 * 3 + 0) + 0 by rw [show 3 * l0 = l0 * 3 + 0 by omega]; omega] at g4 g5; rw [show 2 * fa (l0 * 3 + 0) + 0 + 1 = 2 * fa (l0 * 3 + 0) + 1 by omega] at g5; first | omega | (have e1 : h / 24 / 7 = h / 168 := (by omega); exact h20 ((opn_iff hO (by omega) _).mpr ⟨by rw [e1]; exact g2, g6, g3⟩)))).symm)
          · refine gj_iconst dX5_isWar_54 ?_
            refine gj_goto dX5_isWar_55 ?_
            exact gj_zret (Or.inr rfl) dX5_isWar_59 rfl (rd_i (b2i_t (by rw [warB_iff]; have e1 : h / 24 / 7 = h / 168 := (by omega); have o1 := (opn_iff hO (by omega) _).mp h20; rw [e1] at o1; rw [show 3 * l0 + 1 = l0 * 3 + 1 by omega, show 2 * fa (3 * l0) = 2 * fa (l0 * 3 + 0) + 0 by rw [show 3 * l0 = l0 * 3 + 0 by omega]; omega, show 2 * fa (l0 * 3 + 0) + 0 + 1 = 2 * fa (l0 * 3 + 0) + 1 by omega]; exact ⟨by omega, o1.1, o1.2.2, by omega, by omega, o1.2.1⟩)).symm)
      · refine gj_iconst dX5_isWar_23 ?_
        exact gj_zret (Or.inl rfl) dX5_isWar_24 rfl (rd_i (b2i_f (by rw [warB_iff]; rintro ⟨g1, g2, g3, g4, g5, g6⟩; rw [show 3 * l0 + 1 = l0 * 3 + 1 by omega] at g3; rw [show 2 * fa (3 * l0) = 2 * fa (l0 * 3 + 0) + 0 by rw [show 3 * l0 = l0 * 3 + 0 by omega]; omega] at g4 g5; rw [show 2 * fa (l0 * 3 + 0) + 0 + 1 = 2 * fa (l0 * 3 + 0) + 1 by omega] at g5; first | omega | (have e1 : h / 24 / 7 = h / 168 := (by omega); exact h20 ((opn_iff hO (by omega) _).mpr ⟨by rw [e1]; exact g2, g6, g3⟩)))).symm)
