/-! contracts: small tests; Bells -/
abbrev BellsAt (w : AW) (ru : Int → Int) : Prop := w 7 = cO 0 [vR 8] ∧ w 8 = cI 8 ru
abbrev RuOK (ru : Int → Int) : Prop := ∀ i : Int, 0 ≤ i → i < 8 → 0 ≤ ru i ∧ ru i ≤ 23
set_option maxRecDepth 20000 in
set_option maxHeartbeats 4000000 in
theorem tX8_upTo {l : Launch} {x : Cx} {d : Nat} {w : AW} {a b : Int} (hd : 0 ≤ d) (ha : R32 a) (hb : R32 b) : Mt l x iX8_upTo d 0 0 50 w [vI a, vI b] (Rd (vI (b2i (0 ≤ a ∧ a ≤ b))) w) := by
  refine Mt.of (L0 := [some (vI a), some (vI b)]) rfl rfl rfl ?_
  refine gj_il0 dX8_upTo_0 ?_
  refine gj_if_lt dX8_upTo_1 (by omega) (fun h1 => ?_) (fun h1 => ?_)
  · refine gj_iconst dX8_upTo_13 ?_
    exact gj_zret (Or.inl rfl) dX8_upTo_14 rfl (rd_i (b2i_f (by omega)).symm)
  · refine gj_il0 dX8_upTo_4 ?_
    refine gj_il1 dX8_upTo_5 ?_
    refine gj_icmp_gt dX8_upTo_6 (by omega) (fun h6 => ?_) (fun h6 => ?_)
    · refine gj_iconst dX8_upTo_13 ?_
      exact gj_zret (Or.inl rfl) dX8_upTo_14 rfl (rd_i (b2i_f (by omega)).symm)
    · refine gj_iconst dX8_upTo_9 ?_
      refine gj_goto dX8_upTo_10 ?_
      exact gj_zret (Or.inr rfl) dX8_upTo_14 rfl (rd_i (b2i_t (by omega)).symm)
set_option maxRecDepth 20000 in
set_option maxHeartbeats 4000000 in
theorem tX8_isLand {l : Launch} {x : Cx} {d : Nat} {w : AW} {a : Int} (hd : 1 ≤ d) (ha : R32 a) : Mt l x iX8_isLand d 0 0 50 w [vI a] (Rd (vI (b2i (0 ≤ a ∧ a ≤ 7))) w) := by
  refine Mt.of (L0 := [some (vI a)]) rfl rfl rfl ?_
  refine gj_il0 dX8_isLand_0 ?_
  refine gj_bipush dX8_isLand_1 rfl ?_
  refine gj_cS2r dX8_isLand_3 mX8_75 hX8_upTo (by omega) rfl (tX8_upTo  (by omega) (by omega) (by omega)) ?_
  exact gj_zret (b2i_R _) dX8_isLand_6 rfl (rd_i rfl)
set_option maxRecDepth 20000 in
set_option maxHeartbeats 4000000 in
theorem tX8_isParish {l : Launch} {x : Cx} {d : Nat} {w : AW} {a : Int} (hd : 1 ≤ d) (ha : R32 a) : Mt l x iX8_isParish d 0 0 50 w [vI a] (Rd (vI (b2i (0 ≤ a ∧ a ≤ 3))) w) := by
  refine Mt.of (L0 := [some (vI a)]) rfl rfl rfl ?_
  refine gj_il0 dX8_isParish_0 ?_
  refine gj_iconst dX8_isParish_1 ?_
  refine gj_cS2r dX8_isParish_2 mX8_75 hX8_upTo (by omega) rfl (tX8_upTo  (by omega) (by omega) (by omega)) ?_
  exact gj_zret (b2i_R _) dX8_isParish_5 rfl (rd_i rfl)
set_option maxRecDepth 20000 in
set_option maxHeartbeats 4000000 in
theorem tX8_isKind {l : Launch} {x : Cx} {d : Nat} {w : AW} {a : Int} (hd : 1 ≤ d) (ha : R32 a) : Mt l x iX8_isKind d 0 0 50 w [vI a] (Rd (vI (b2i (0 ≤ a ∧ a ≤ 3))) w) := by
  refine Mt.of (L0 := [some (vI a)]) rfl rfl rfl ?_
  refine gj_il0 dX8_isKind_0 ?_
  refine gj_iconst dX8_isKind_1 ?_
  refine gj_cS2r dX8_isKind_2 mX8_75 hX8_upTo (by omega) rfl (tX8_upTo  (by omega) (by omega) (by omega)) ?_
  exact gj_zret (b2i_R _) dX8_isKind_5 rfl (rd_i rfl)
set_option maxRecDepth 20000 in
set_option maxHeartbeats 4000000 in
theorem tX8_isHour {l : Launch} {x : Cx} {d : Nat} {w : AW} {a : Int} (hd : 1 ≤ d) (ha : R32 a) : Mt l x iX8_isHour d 0 0 50 w [vI a] (Rd (vI (b2i (0 ≤ a ∧ a ≤ 671))) w) := by
  refine Mt.of (L0 := [some (vI a)]) rfl rfl rfl ?_
  refine gj_il0 dX8_isHour_0 ?_
  refine gj_sipush dX8_isHour_1 rfl ?_
  refine gj_cS2r dX8_isHour_4 mX8_75 hX8_upTo (by omega) rfl (tX8_upTo  (by omega) (by omega) (by omega)) ?_
  exact gj_zret (b2i_R _) dX8_isHour_7 rfl (rd_i rfl)
set_option maxRecDepth 20000 in
set_option maxHeartbeats 4000000 in
theorem tX8_isSheet {l : Launch} {x : Cx} {d : Nat} {w : AW} {a : Int} (hd : 1 ≤ d) (ha : R32 a) : Mt l x iX8_isSheet d 0 0 50 w [vI a] (Rd (vI (b2i (0 ≤ a ∧ a ≤ 3))) w) := by
  refine Mt.of (L0 := [some (vI a)]) rfl rfl rfl ?_
  refine gj_il0 dX8_isSheet_0 ?_
  refine gj_iconst dX8_isSheet_1 ?_
  refine gj_cS2r dX8_isSheet_2 mX8_75 hX8_upTo (by omega) rfl (tX8_upTo  (by omega) (by omega) (by omega)) ?_
  exact gj_zret (b2i_R _) dX8_isSheet_5 rfl (rd_i rfl)
set_option maxRecDepth 20000 in
set_option maxHeartbeats 4000000 in
theorem tX8_isForm {l : Launch} {x : Cx} {d : Nat} {w : AW} {a : Int} (hd : 1 ≤ d) (ha : R32 a) : Mt l x iX8_isForm d 0 0 50 w [vI a] (Rd (vI (b2i (0 ≤ a ∧ a ≤ 2))) w) := by
  refine Mt.of (L0 := [some (vI a)]) rfl rfl rfl ?_
  refine gj_il0 dX8_isForm_0 ?_
  refine gj_iconst dX8_isForm_1 ?_
  refine gj_cS2r dX8_isForm_2 mX8_75 hX8_upTo (by omega) rfl (tX8_upTo  (by omega) (by omega) (by omega)) ?_
  exact gj_zret (b2i_R _) dX8_isForm_5 rfl (rd_i rfl)
set_option maxRecDepth 20000 in
set_option maxHeartbeats 4000000 in
theorem tX8_areTwoLands {l : Launch} {x : Cx} {d : Nat} {w : AW} {a b : Int} (hd : 2 ≤ d) (ha : R32 a) (hb : R32 b) : Mt l x iX8_areTwoLands d 0 0 50 w [vI a, vI b] (Rd (vI (b2i ((0 ≤ a ∧ a ≤ 7) ∧ (0 ≤ b ∧ b ≤ 7) ∧ a ≠ b))) w) := by
  refine Mt.of (L0 := [some (vI a), some (vI b)]) rfl rfl rfl ?_
  refine gj_il0 dX8_areTwoLands_0 ?_
  refine gj_cS1r dX8_areTwoLands_1 mX8_104 hX8_isLand (by omega) rfl (tX8_isLand  (by omega) (by omega)) ?_
  refine gj_ifB_eq dX8_areTwoLands_4 (fun h4 => ?_) (fun h4 => ?_)
  · refine gj_iconst dX8_areTwoLands_23 ?_
    exact gj_zret (Or.inl rfl) dX8_areTwoLands_24 rfl (rd_i (b2i_f (by omega)).symm)
  · refine gj_il1 dX8_areTwoLands_7 ?_
    refine gj_cS1r dX8_areTwoLands_8 mX8_104 hX8_isLand (by omega) rfl (tX8_isLand  (by omega) (by omega)) ?_
    refine gj_ifB_eq dX8_areTwoLands_11 (fun h11 => ?_) (fun h11 => ?_)
    · refine gj_iconst dX8_areTwoLands_23 ?_
      exact gj_zret (Or.inl rfl) dX8_areTwoLands_24 rfl (rd_i (b2i_f (by omega)).symm)
    · refine gj_il0 dX8_areTwoLands_14 ?_
      refine gj_il1 dX8_areTwoLands_15 ?_
      refine gj_icmp_eq dX8_areTwoLands_16 (by omega) (fun h16 => ?_) (fun h16 => ?_)
      · refine gj_iconst dX8_areTwoLands_23 ?_
        exact gj_zret (Or.inl rfl) dX8_areTwoLands_24 rfl (rd_i (b2i_f (by omega)).symm)
      · refine gj_iconst dX8_areTwoLands_19 ?_
        refine gj_goto dX8_areTwoLands_20 ?_
        exact gj_zret (Or.inr rfl) dX8_areTwoLands_24 rfl (rd_i (b2i_t (by omega)).symm)
set_option maxRecDepth 20000 in
set_option maxHeartbeats 4000000 in
theorem tX8_isSiege {l : Launch} {x : Cx} {d : Nat} {w : AW} {a b c : Int} (hd : 2 ≤ d) (ha : R32 a) (hb : R32 b) (hc : R32 c) : Mt l x iX8_isSiege d 0 0 50 w [vI a, vI b, vI c] (Rd (vI (b2i ((0 ≤ a ∧ a ≤ 7) ∧ (0 ≤ b ∧ b ≤ 671) ∧ 1 ≤ c ∧ c ≤ 999))) w) := by
  refine Mt.of (L0 := [some (vI a), some (vI b), some (vI c)]) rfl rfl rfl ?_
  refine gj_il0 dX8_isSiege_0 ?_
  refine gj_cS1r dX8_isSiege_1 mX8_104 hX8_isLand (by omega) rfl (tX8_isLand  (by omega) (by omega)) ?_
  refine gj_ifB_eq dX8_isSiege_4 (fun h4 => ?_) (fun h4 => ?_)
  · refine gj_iconst dX8_isSiege_30 ?_
    exact gj_zret (Or.inl rfl) dX8_isSiege_31 rfl (rd_i (b2i_f (by omega)).symm)
  · refine gj_il1 dX8_isSiege_7 ?_
    refine gj_cS1r dX8_isSiege_8 mX8_154 hX8_isHour (by omega) rfl (tX8_isHour  (by omega) (by omega)) ?_
    refine gj_ifB_eq dX8_isSiege_11 (fun h11 => ?_) (fun h11 => ?_)
    · refine gj_iconst dX8_isSiege_30 ?_
      exact gj_zret (Or.inl rfl) dX8_isSiege_31 rfl (rd_i (b2i_f (by omega)).symm)
    · refine gj_il2 dX8_isSiege_14 ?_
      refine gj_iconst dX8_isSiege_15 ?_
      refine gj_icmp_lt dX8_isSiege_16 (by omega) (fun h16 => ?_) (fun h16 => ?_)
      · refine gj_iconst dX8_isSiege_30 ?_
        exact gj_zret (Or.inl rfl) dX8_isSiege_31 rfl (rd_i (b2i_f (by omega)).symm)
      · refine gj_il2 dX8_isSiege_19 ?_
        refine gj_sipush dX8_isSiege_20 rfl ?_
        refine gj_icmp_gt dX8_isSiege_23 (by omega) (fun h23 => ?_) (fun h23 => ?_)
        · refine gj_iconst dX8_isSiege_30 ?_
          exact gj_zret (Or.inl rfl) dX8_isSiege_31 rfl (rd_i (b2i_f (by omega)).symm)
        · refine gj_iconst dX8_isSiege_26 ?_
          refine gj_goto dX8_isSiege_27 ?_
          exact gj_zret (Or.inr rfl) dX8_isSiege_31 rfl (rd_i (b2i_t (by omega)).symm)
set_option maxRecDepth 20000 in
set_option maxHeartbeats 4000000 in
theorem tX0_at {l : Launch} {x : Cx} {d : Nat} {w : AW} {ru : Int → Int} {p k : Int} (hd : 0 ≤ d) (hB : BellsAt w ru) (hi : 0 ≤ 2 * p + k ∧ 2 * p + k < 8) : Mt l x iX0_at d 0 0 50 w [vR 7, vI p, vI k] (Rd (vI (ru (2 * p + k))) w) := by
  obtain ⟨q7, q8⟩ := hB
  refine Mt.of (L0 := [some (vR 7), some (vI p), some (vI k)]) rfl rfl rfl ?_
  refine gj_al0 dX0_at_0 ?_
  refine gj_get dX0_at_1 fX0_9 q7 rfl rfl ?_
  refine gj_iconst dX0_at_4 ?_
  refine gj_il1 dX0_at_5 ?_
  refine gj_imul dX0_at_6 ?_
  refine gj_il2 dX0_at_7 ?_
  refine gj_iadd dX0_at_8 ?_
  refine gj_iald dX0_at_9 q8 rfl rfl (by omega) ?_
  exact gj_iret dX0_at_10 rfl (rd_i rfl)
set_option maxRecDepth 20000 in
set_option maxHeartbeats 4000000 in
theorem tX0_put {l : Launch} {x : Cx} {d : Nat} {w : AW} {ru : Int → Int} {p v : Int} (hd : 0 ≤ d) (hB : BellsAt w ru) (hi : 0 ≤ p ∧ p < 8) : Mt l x iX0_put d 0 0 50 w [vR 7, vI p, vI v] (Wr (vI (ru p)) (fun w2 => w2 = upw w 8 (cI 8 (upf ru p v)))) := by
  obtain ⟨q7, q8⟩ := hB
  refine Mt.of (L0 := [some (vR 7), some (vI p), some (vI v), none]) rfl rfl rfl ?_
  refine gj_al0 dX0_put_0 ?_
  refine gj_get dX0_put_1 fX0_9 q7 rfl rfl ?_
  refine gj_il1 dX0_put_4 ?_
  refine gj_iald dX0_put_5 q8 rfl rfl (by omega) ?_
  refine gj_is3 dX0_put_6 rfl rfl ?_
  refine gj_al0 dX0_put_7 ?_
  refine gj_get dX0_put_8 fX0_9 q7 rfl rfl ?_
  refine gj_il1 dX0_put_11 ?_
  refine gj_il2 dX0_put_12 ?_
  refine gj_iast dX0_put_13 q8 rfl rfl (by omega) ?_
  refine gj_il3 dX0_put_14 ?_
  exact gj_iret dX0_put_15 rfl (wr_i rfl rfl)
def unlF (ru : Int → Int) (a b : Int) : Int := max (ru (2 * a + 0) - ru (2 * b + 0)) (-(ru (2 * a + 0) - ru (2 * b + 0))) + max (ru (2 * a + 1) - ru (2 * b + 1)) (-(ru (2 * a + 1) - ru (2 * b + 1)))
theorem unlF_R {ru : Int → Int} {a b : Int} (hR : RuOK ru) (ha : 0 ≤ a ∧ a ≤ 3) (hb : 0 ≤ b ∧ b ≤ 3) : 0 ≤ unlF ru a b ∧ unlF ru a b ≤ 46 := by
  have r1 := hR (2 * a + 0) (by omega) (by omega)
  have r2 := hR (2 * b + 0) (by omega) (by omega)
  have r3 := hR (2 * a + 1) (by omega) (by omega)
  have r4 := hR (2 * b + 1) (by omega) (by omega)
  unfold unlF
  omega
def likF (ru : Int → Int) (p : Int) : Int := sumZ (fun q => b2i (unlF ru q p = 0)) 4
theorem likF_R (ru : Int → Int) (p : Int) : 0 ≤ likF ru p ∧ likF ru p ≤ 4 := by
  have := sumZ_bd (f := fun q => b2i (unlF ru q p = 0)) (a := 0) (b := 1) (n := 4) (by omega) (fun i _ _ => by rcases b2i_R (unlF ru i p = 0) with h | h <;> simp only [h] <;> omega)
  unfold likF
  omega
def rankF (ru : Int → Int) (p : Int) : Int := ru (2 * p + 0) * 24 + ru (2 * p + 1)
theorem rankF_R {ru : Int → Int} {p : Int} (hR : RuOK ru) (hp : 0 ≤ p ∧ p ≤ 3) : 0 ≤ rankF ru p ∧ rankF ru p ≤ 575 := by
  have r1 := hR (2 * p + 0) (by omega) (by omega)
  have r2 := hR (2 * p + 1) (by omega) (by omega)
  unfold rankF
  omega
/-- the parish whose bells most have, of like ones with the least bells, among the first k + 1 -/
def comF (ru : Int → Int) : Nat → Int
  | 0 => 0
  | k + 1 => if 0 < likF ru ((k : Int) + 1) - likF ru (comF ru k) ∨ (likF ru ((k : Int) + 1) - likF ru (comF ru k) = 0 ∧ rankF ru ((k : Int) + 1) < rankF ru (comF ru k)) then (k : Int) + 1 else comF ru k
theorem comF_in (ru : Int → Int) : ∀ k : Nat, 0 ≤ comF ru k ∧ comF ru k ≤ (k : Int)
  | 0 => by simp [comF]
  | k + 1 => by
    have := comF_in ru k
    rw [comF]
    split <;> omega
def chgF (ru : Int → Int) (k v : Int) : Int := sumZ (fun p => max (ru (2 * p + k) - v) (-(ru (2 * p + k) - v))) 4
theorem chgF_R {ru : Int → Int} {k v : Int} (hR : RuOK ru) (hk : 0 ≤ k ∧ k ≤ 1) (hv : 0 ≤ v ∧ v ≤ 23) : 0 ≤ chgF ru k v ∧ chgF ru k v ≤ 92 := by
  have := sumZ_bd (f := fun p => max (ru (2 * p + k) - v) (-(ru (2 * p + k) - v))) (a := 0) (b := 23) (n := 4) (by omega) (fun i h0 h1 => by
    have r1 := hR (2 * i + k) (by omega) (by omega)
    show 0 ≤ max (ru (2 * i + k) - v) (-(ru (2 * i + k) - v)) ∧ _
    omega)
  unfold chgF
  omega
def midF (ru : Int → Int) (k : Int) : Int := argl (chgF ru k) 23
set_option maxRecDepth 20000 in
set_option maxHeartbeats 4000000 in
theorem tX0_hoursUnlike {l : Launch} {x : Cx} {d : Nat} {w : AW} {ru : Int → Int} {a b : Int} (hd : 1 ≤ d) (hB : BellsAt w ru) (hR : RuOK ru) (ha : 0 ≤ a ∧ a ≤ 3) (hb : 0 ≤ b ∧ b ≤ 3) : Mt l x iX0_hoursUnlike d 0 0 50 w [vR 7, vI a, vI b] (Rd (vI (unlF ru a b)) w) := by
  obtain ⟨q7, q8⟩ := hB
  have r1 := hR (2 * a + 0) (by omega) (by omega)
  have r2 := hR (2 * b + 0) (by omega) (by omega)
  have r3 := hR (2 * a + 1) (by omega) (by omega)
  have r4 := hR (2 * b + 1) (by omega) (by omega)
  refine Mt.of (L0 := [some (vR 7), some (vI a), some (vI b)]) rfl rfl rfl ?_
  refine gj_al0 dX0_hoursUnlike_0 ?_
  refine gj_il1 dX0_hoursUnlike_1 ?_
  refine gj_iconst dX0_hoursUnlike_2 ?_
  refine gj_cV2r dX0_hoursUnlike_3 mX0_15 hX0_at q7 rfl (by omega) rfl (tX0_at  (by omega) ⟨q7, q8⟩ (by omega)) ?_
  refine gj_al0 dX0_hoursUnlike_6 ?_
  refine gj_il2 dX0_hoursUnlike_7 ?_
  refine gj_iconst dX0_hoursUnlike_8 ?_
  refine gj_cV2r dX0_hoursUnlike_9 mX0_15 hX0_at q7 rfl (by omega) rfl (tX0_at  (by omega) ⟨q7, q8⟩ (by omega)) ?_
  refine gj_isub dX0_hoursUnlike_12 ?_
  refine gj_abs dX0_hoursUnlike_13 mX0_19 (by omega) rfl (by omega) ?_
  refine gj_al0 dX0_hoursUnlike_16 ?_
  refine gj_il1 dX0_hoursUnlike_17 ?_
  refine gj_iconst dX0_hoursUnlike_18 ?_
  refine gj_cV2r dX0_hoursUnlike_19 mX0_15 hX0_at q7 rfl (by omega) rfl (tX0_at  (by omega) ⟨q7, q8⟩ (by omega)) ?_
  refine gj_al0 dX0_hoursUnlike_22 ?_
  refine gj_il2 dX0_hoursUnlike_23 ?_
  refine gj_iconst dX0_hoursUnlike_24 ?_
  refine gj_cV2r dX0_hoursUnlike_25 mX0_15 hX0_at q7 rfl (by omega) rfl (tX0_at  (by omega) ⟨q7, q8⟩ (by omega)) ?_
  refine gj_isub dX0_hoursUnlike_28 ?_
  refine gj_abs dX0_hoursUnlike_29 mX0_19 (by omega) rfl (by omega) ?_
  refine gj_iadd dX0_hoursUnlike_32 ?_
  exact gj_iret dX0_hoursUnlike_33 rfl (rd_i rfl)
set_option maxRecDepth 20000 in
set_option maxHeartbeats 4000000 in
theorem tX0_likeOnes {l : Launch} {x : Cx} {d : Nat} {w : AW} {ru : Int → Int} {p : Int} (hd : 2 ≤ d) (hB : BellsAt w ru) (hR : RuOK ru) (hp : 0 ≤ p ∧ p ≤ 3) : Mt l x iX0_likeOnes d 0 0 50 w [vR 7, vI p] (Rd (vI (likF ru p)) w) := by
  obtain ⟨q7, q8⟩ := hB
  refine Mt.of (L0 := [some (vR 7), some (vI p), none, none]) rfl rfl rfl ?_
  refine gj_iconst dX0_likeOnes_0 ?_
  refine gj_is2 dX0_likeOnes_1 rfl rfl ?_
  refine gj_iconst dX0_likeOnes_2 ?_
  refine gj_is3 dX0_likeOnes_3 rfl rfl ?_
  have loop4 : ∀ (k : Nat), ∀ (a i : Int), (0 ≤ i ∧ i ≤ 4) → (a = sumZ (fun q => b2i (unlF ru q p = 0)) i) → (4 - i).toNat < k → Gj l x iX0_likeOnes d 0 0 50 (Rd (vI (likF ru p)) w) 0 0 50 w 4 [some (vR 7), some (vI p), some (vI a), some (vI i)] [] := by
    intro k
    induction k with
    | zero => intro _ _ _ _ hm; exact absurd hm (Nat.not_lt_zero _)
    | succ k ih4 =>
      intro a i  hi ha hm4
      refine gj_il3 dX0_likeOnes_4 ?_
      refine gj_iconst dX0_likeOnes_5 ?_
      refine gj_icmp_ge dX0_likeOnes_6 (by omega) (fun h6 => ?_) (fun h6 => ?_)
      · refine gj_il2 dX0_likeOnes_27 ?_
        exact gj_iret dX0_likeOnes_28 rfl (rd_i (by rw [ha, show i = 4 by omega]; rfl))
      · refine gj_al0 dX0_likeOnes_9 ?_
        refine gj_il3 dX0_likeOnes_10 ?_
        refine gj_il1 dX0_likeOnes_11 ?_
        refine gj_cV2r dX0_likeOnes_12 mX0_25 hX0_hoursUnlike q7 rfl (by omega) rfl (tX0_hoursUnlike  (by omega) ⟨q7, q8⟩ hR (by omega) (by omega)) ?_
        have u9 := unlF_R hR (a := i) (b := p) (by omega) (by omega)
        refine gj_if_ne dX0_likeOnes_15 (by omega) (fun h15 => ?_) (fun h15 => ?_)
        · refine gj_ii3 dX0_likeOnes_21 rfl rfl ?_
          refine gj_goto dX0_likeOnes_24 ?_
          exact ih4 _ _ (by omega) (by rw [sumZ_s _ hi.1, b2i_f h15]; omega) (by omega)
        · refine gj_ii2 dX0_likeOnes_18 rfl rfl ?_
          refine gj_ii3 dX0_likeOnes_21 rfl rfl ?_
          refine gj_goto dX0_likeOnes_24 ?_
          exact ih4 _ _ (by omega) (by rw [sumZ_s _ hi.1, b2i_t h15]; omega) (by omega)
  exact loop4 _ _ _ (by omega) rfl (Nat.lt_succ_self _)
set_option maxRecDepth 20000 in
set_option maxHeartbeats 4000000 in
theorem tX0_rank {l : Launch} {x : Cx} {d : Nat} {w : AW} {ru : Int → Int} {p : Int} (hd : 1 ≤ d) (hB : BellsAt w ru) (hp : 0 ≤ p ∧ p ≤ 3) : Mt l x iX0_rank d 0 0 50 w [vR 7, vI p] (Rd (vI (rankF ru p)) w) := by
  obtain ⟨q7, q8⟩ := hB
  refine Mt.of (L0 := [some (vR 7), some (vI p)]) rfl rfl rfl ?_
  refine gj_al0 dX0_rank_0 ?_
  refine gj_il1 dX0_rank_1 ?_
  refine gj_iconst dX0_rank_2 ?_
  refine gj_cV2r dX0_rank_3 mX0_15 hX0_at q7 rfl (by omega) rfl (tX0_at  (by omega) ⟨q7, q8⟩ (by omega)) ?_
  refine gj_bipush dX0_rank_6 rfl ?_
  refine gj_imul dX0_rank_8 ?_
  refine gj_al0 dX0_rank_9 ?_
  refine gj_il1 dX0_rank_10 ?_
  refine gj_iconst dX0_rank_11 ?_
  refine gj_cV2r dX0_rank_12 mX0_15 hX0_at q7 rfl (by omega) rfl (tX0_at  (by omega) ⟨q7, q8⟩ (by omega)) ?_
  refine gj_iadd dX0_rank_15 ?_
  exact gj_iret dX0_rank_16 rfl (rd_i rfl)
theorem comF_s (ru : Int → Int) {i : Int} (h : 1 ≤ i) : comF ru i.toNat = if 0 < likF ru i - likF ru (comF ru (i - 1).toNat) ∨ (likF ru i - likF ru (comF ru (i - 1).toNat) = 0 ∧ rankF ru i < rankF ru (comF ru (i - 1).toNat)) then i else comF ru (i - 1).toNat := by
  rw [show i.toNat = (i - 1).toNat + 1 by omega, comF, show (((i - 1).toNat : Nat) : Int) + 1 = i by omega]
set_option maxRecDepth 20000 in
set_option maxHeartbeats 4000000 in
theorem tX0_commonest {l : Launch} {x : Cx} {d : Nat} {w : AW} {ru : Int → Int} (hd : 3 ≤ d) (hB : BellsAt w ru) (hR : RuOK ru) : Mt l x iX0_commonest d 0 0 50 w [vR 7] (Rd (vI (comF ru 3)) w) := by
  obtain ⟨q7, q8⟩ := hB
  refine Mt.of (L0 := [some (vR 7), none, none, none]) rfl rfl rfl ?_
  refine gj_iconst dX0_commonest_0 ?_
  refine gj_is1 dX0_commonest_1 rfl rfl ?_
  refine gj_iconst dX0_commonest_2 ?_
  refine gj_is2 dX0_commonest_3 rfl rfl ?_
  have loop4 : ∀ (k : Nat), ∀ (a i : Int), (1 ≤ i ∧ i ≤ 4) → (a = comF ru (i - 1).toNat) → (4 - i).toNat < k → Gj l x iX0_commonest d 0 0 50 (Rd (vI (comF ru 3)) w) 0 0 50 w 4 [some (vR 7), some (vI a), some (vI i), none] [] := by
    intro k
    induction k with
    | zero => intro _ _ _ _ hm; exact absurd hm (Nat.not_lt_zero _)
    | succ k ih4 =>
      intro a i  hi ha hm4
      have hc := comF_in ru (i - 1).toNat
      have l1 := likF_R ru i
      have l2 := likF_R ru a
      have hcs := comF_s ru hi.1
      rw [← ha] at hc hcs
      refine gj_il2 dX0_commonest_4 ?_
      refine gj_iconst dX0_commonest_5 ?_
      refine gj_icmp_ge dX0_commonest_6 (by omega) (fun h6 => ?_) (fun h6 => ?_)
      · refine gj_il1 dX0_commonest_50 ?_
        exact gj_iret dX0_commonest_51 rfl (rd_i (by rw [ha, show (i - 1).toNat = 3 by omega]))
      · refine gj_al0 dX0_commonest_9 ?_
        refine gj_il2 dX0_commonest_10 ?_
        refine gj_cV1r dX0_commonest_11 mX0_28 hX0_likeOnes q7 rfl (by omega) rfl (tX0_likeOnes  (by omega) ⟨q7, q8⟩ hR (by omega)) ?_
        refine gj_al0 dX0_commonest_14 ?_
        refine gj_il1 dX0_commonest_15 ?_
        refine gj_cV1r dX0_commonest_16 mX0_28 hX0_likeOnes q7 rfl (by omega) rfl (tX0_likeOnes  (by omega) ⟨q7, q8⟩ hR (by omega)) ?_
        refine gj_isub dX0_commonest_19 ?_
        refine gj_is3 dX0_commonest_20 rfl rfl ?_
        refine gj_il3 dX0_commonest_21 ?_
        refine gj_if_gt dX0_commonest_22 (by omega) (fun h22 => ?_) (fun h22 => ?_)
        · refine gj_il2 dX0_commonest_42 ?_
          refine gj_is1 dX0_commonest_43 rfl rfl ?_
          refine gj_ii2 dX0_commonest_44 rfl rfl ?_
          refine gj_goto dX0_commonest_47 ?_
          refine gj_dr3 ?_
          exact ih4 _ _ (by omega) (by rw [show i + 1 - 1 = i by omega, hcs, if_pos (Or.inl h22)]) (by omega)
        · refine gj_il3 dX0_commonest_25 ?_
          refine gj_if_ne dX0_commonest_26 (by omega) (fun h26 => ?_) (fun h26 => ?_)
          · refine gj_ii2 dX0_commonest_44 rfl rfl ?_
            refine gj_goto dX0_commonest_47 ?_
            refine gj_dr3 ?_
            exact ih4 _ _ (by omega) (by rw [show i + 1 - 1 = i by omega, hcs, if_neg (by omega)]) (by omega)
          · refine gj_al0 dX0_commonest_29 ?_
            refine gj_il2 dX0_commonest_30 ?_
            refine gj_cV1r dX0_commonest_31 mX0_31 hX0_rank q7 rfl (by omega) rfl (tX0_rank  (by omega) ⟨q7, q8⟩ (by omega)) ?_
            refine gj_al0 dX0_commonest_34 ?_
            refine gj_il1 dX0_commonest_35 ?_
            refine gj_cV1r dX0_commonest_36 mX0_31 hX0_rank q7 rfl (by omega) rfl (tX0_rank  (by omega) ⟨q7, q8⟩ (by omega)) ?_
            have k1 := rankF_R hR (p := i) (by omega)
            have k2 := rankF_R hR (p := a) (by omega)
            refine gj_icmp_ge dX0_commonest_39 (by omega) (fun h39 => ?_) (fun h39 => ?_)
            · refine gj_ii2 dX0_commonest_44 rfl rfl ?_
              refine gj_goto dX0_commonest_47 ?_
              refine gj_dr3 ?_
              exact ih4 _ _ (by omega) (by rw [show i + 1 - 1 = i by omega, hcs, if_neg (by omega)]) (by omega)
            · refine gj_il2 dX0_commonest_42 ?_
              refine gj_is1 dX0_commonest_43 rfl rfl ?_
              refine gj_ii2 dX0_commonest_44 rfl rfl ?_
              refine gj_goto dX0_commonest_47 ?_
              refine gj_dr3 ?_
              exact ih4 _ _ (by omega) (by rw [show i + 1 - 1 = i by omega, hcs, if_pos (by omega)]) (by omega)
  exact loop4 _ _ _ (by omega) rfl (Nat.lt_succ_self _)
set_option maxRecDepth 20000 in
set_option maxHeartbeats 4000000 in
theorem tX0_change {l : Launch} {x : Cx} {d : Nat} {w : AW} {ru : Int → Int} {q v : Int} (hd : 1 ≤ d) (hB : BellsAt w ru) (hR : RuOK ru) (hk : 0 ≤ q ∧ q ≤ 1) (hv : 0 ≤ v ∧ v ≤ 23) : Mt l x iX0_change d 0 0 50 w [vR 7, vI q, vI v] (Rd (vI (chgF ru q v)) w) := by
  obtain ⟨q7, q8⟩ := hB
  refine Mt.of (L0 := [some (vR 7), some (vI q), some (vI v), none, none]) rfl rfl rfl ?_
  refine gj_iconst dX0_change_0 ?_
  refine gj_is3 dX0_change_1 rfl rfl ?_
  refine gj_iconst dX0_change_2 ?_
  refine gj_is4 dX0_change_3 rfl rfl ?_
  have loop5 : ∀ (k : Nat), ∀ (a i : Int), (0 ≤ i ∧ i ≤ 4) → (a = sumZ (fun p => max (ru (2 * p + q) - v) (-(ru (2 * p + q) - v))) i) → (4 - i).toNat < k → Gj l x iX0_change d 0 0 50 (Rd (vI (chgF ru q v)) w) 0 0 50 w 5 [some (vR 7), some (vI q), some (vI v), some (vI a), some (vI i)] [] := by
    intro k
    induction k with
    | zero => intro _ _ _ _ hm; exact absurd hm (Nat.not_lt_zero _)
    | succ k ih5 =>
      intro a i  hi ha hm5
      refine gj_il4 dX0_change_5 ?_
      refine gj_iconst dX0_change_7 ?_
      refine gj_icmp_ge dX0_change_8 (by omega) (fun h8 => ?_) (fun h8 => ?_)
      · refine gj_il3 dX0_change_32 ?_
        exact gj_iret dX0_change_33 rfl (rd_i (by rw [ha, show i = 4 by omega]; rfl))
      · refine gj_il3 dX0_change_11 ?_
        refine gj_al0 dX0_change_12 ?_
        refine gj_il4 dX0_change_13 ?_
        refine gj_il1 dX0_change_15 ?_
        refine gj_cV2r dX0_change_16 mX0_15 hX0_at q7 rfl (by omega) rfl (tX0_at  (by omega) ⟨q7, q8⟩ (by omega)) ?_
        refine gj_il2 dX0_change_19 ?_
        refine gj_isub dX0_change_20 ?_
        have r1 := hR (2 * i + q) (by omega) (by omega)
        refine gj_abs dX0_change_21 mX0_19 (by omega) rfl (by omega) ?_
        refine gj_iadd dX0_change_24 ?_
        refine gj_is3 dX0_change_25 rfl rfl ?_
        refine gj_ii4 dX0_change_26 rfl rfl ?_
        refine gj_goto dX0_change_29 ?_
        exact ih5 _ _ (by omega) (by rw [sumZ_s _ hi.1, ha]) (by omega)
  exact loop5 _ _ _ (by omega) rfl (Nat.lt_succ_self _)
theorem argl_s (f : Int → Int) {i : Int} (h : 1 ≤ i) : argl f i.toNat = if f i < f (argl f (i - 1).toNat) then i else argl f (i - 1).toNat := by
  rw [show i.toNat = (i - 1).toNat + 1 by omega, argl, show (((i - 1).toNat : Nat) : Int) + 1 = i by omega]
theorem argm_s (f : Int → Int) {i : Int} (h : 1 ≤ i) : argm f i.toNat = if f (argm f (i - 1).toNat) < f i then i else argm f (i - 1).toNat := by
  rw [show i.toNat = (i - 1).toNat + 1 by omega, argm, show (((i - 1).toNat : Nat) : Int) + 1 = i by omega]
set_option maxRecDepth 20000 in
set_option maxHeartbeats 4000000 in
theorem tX0_middleOf {l : Launch} {x : Cx} {d : Nat} {w : AW} {ru : Int → Int} {q : Int} (hd : 2 ≤ d) (hB : BellsAt w ru) (hR : RuOK ru) (hk : 0 ≤ q ∧ q ≤ 1) : Mt l x iX0_middleOf d 0 0 50 w [vR 7, vI q] (Rd (vI (midF ru q)) w) := by
  obtain ⟨q7, q8⟩ := hB
  refine Mt.of (L0 := [some (vR 7), some (vI q), none, none]) rfl rfl rfl ?_
  refine gj_iconst dX0_middleOf_0 ?_
  refine gj_is2 dX0_middleOf_1 rfl rfl ?_
  refine gj_iconst dX0_middleOf_2 ?_
  refine gj_is3 dX0_middleOf_3 rfl rfl ?_
  have loop4 : ∀ (k : Nat), ∀ (a i : Int), (1 ≤ i ∧ i ≤ 24) → (a = argl (chgF ru q) (i - 1).toNat) → (24 - i).toNat < k → Gj l x iX0_middleOf d 0 0 50 (Rd (vI (midF ru q)) w) 0 0 50 w 4 [some (vR 7), some (vI q), some (vI a), some (vI i)] [] := by
    intro k
    induction k with
    | zero => intro _ _ _ _ hm; exact absurd hm (Nat.not_lt_zero _)
    | succ k ih4 =>
      intro a i  hi ha hm4
      have hc := argl_in (chgF ru q) (i - 1).toNat
      have hcs := argl_s (chgF ru q) hi.1
      rw [← ha] at hc hcs
      refine gj_il3 dX0_middleOf_4 ?_
      refine gj_bipush dX0_middleOf_5 rfl ?_
      refine gj_icmp_ge dX0_middleOf_7 (by omega) (fun h7 => ?_) (fun h7 => ?_)
      · refine gj_il2 dX0_middleOf_33 ?_
        exact gj_iret dX0_middleOf_34 rfl (rd_i (by rw [ha, show (i - 1).toNat = 23 by omega]; rfl))
      · refine gj_al0 dX0_middleOf_10 ?_
        refine gj_il1 dX0_middleOf_11 ?_
        refine gj_il3 dX0_middleOf_12 ?_
        refine gj_cV2r dX0_middleOf_13 mX0_34 hX0_change q7 rfl (by omega) rfl (tX0_change  (by omega) ⟨q7, q8⟩ hR (by omega) (by omega)) ?_
        refine gj_al0 dX0_middleOf_16 ?_
        refine gj_il1 dX0_middleOf_17 ?_
        refine gj_il2 dX0_middleOf_18 ?_
        refine gj_cV2r dX0_middleOf_19 mX0_34 hX0_change q7 rfl (by omega) rfl (tX0_change  (by omega) ⟨q7, q8⟩ hR (by omega) (by omega)) ?_
        have k1 := chgF_R hR hk (v := i) (by omega)
        have k2 := chgF_R hR hk (v := a) (by omega)
        refine gj_icmp_ge dX0_middleOf_22 (by omega) (fun h22 => ?_) (fun h22 => ?_)
        · refine gj_ii3 dX0_middleOf_27 rfl rfl ?_
          refine gj_goto dX0_middleOf_30 ?_
          exact ih4 _ _ (by omega) (by rw [show i + 1 - 1 = i by omega, hcs, if_neg (by omega)]) (by omega)
        · refine gj_il3 dX0_middleOf_25 ?_
          refine gj_is2 dX0_middleOf_26 rfl rfl ?_
          refine gj_ii3 dX0_middleOf_27 rfl rfl ?_
          refine gj_goto dX0_middleOf_30 ?_
          exact ih4 _ _ (by omega) (by rw [show i + 1 - 1 = i by omega, hcs, if_pos (by omega)]) (by omega)
  exact loop4 _ _ _ (by omega) rfl (Nat.lt_succ_self _)
