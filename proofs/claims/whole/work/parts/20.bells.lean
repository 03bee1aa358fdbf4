/-! contracts: small tests; Bells -/
abbrev BellsAt (w : AW) (ru : Int → Int) : Prop := w 7 = cO 0 [vR 8] ∧ w 8 = cI 8 ru
abbrev RuOK (ru : Int → Int) : Prop := ∀ i : Int, 0 ≤ i → i < 8 → 0 ≤ ru i ∧ ru i ≤ 23
set_option maxRecDepth 20000 in
set_option maxHeartbeats 4000000 in
theorem tX8_upTo {l : Launch} {x : Cx} {d : Nat} {w : AW} {a b : Int} (hd : 0 ≤ d) (ha : R32 a) (hb : R32 b) : Mt l x iX8_upTo d 0 0 50 w [vI a, vI b] (Rd (vI (b2i (0 ≤ a ∧ a ≤ b))) w) := by
  refine Mt.of (L0 := [some (vI a), some (vI b)]) rfl rfl rfl ?_
  refine gj_il0 dX8_upTo_0 ?_
  refine gj_if_lt dX8_upTo_1 (by omega) (fun h1 => ?_) (fun h1 => ?_)
  · refine gj_iconst dX8_upTo_13 ?_
    exact gj_zret (Or.inl rfl) dX8_upTo_14 rfl (rd_i (b2i_f (by omega)).symm)
  · refine gj_il0 dX8_upTo_4 ?_
    refine gj_il1 dX8_upTo_5 ?_
    refine gj_icmp_gt dX8_upTo_6 (by omega) (fun h6 => ?_) (fun h6 => ?_)
    · refine gj_iconst dX8_upTo_13 ?_
      exact gj_zret (Or.inl rfl) dX8_upTo_14 rfl (rd_i (b2i_f (by omega)).symm)
    · refine gj_iconst dX8_upTo_9 ?_
      refine gj_goto dX8_upTo_10 ?_
      exact gj_zret (Or.inr rfl) dX8_upTo_14 rfl (rd_i (b2i_t (by omega)).symm)
set_option maxRecDepth 20000 in
set_option maxHeartbeats 4000000 in
theorem tX8_isLand {l : Launch} {x : Cx} {d : Nat} {w : AW} {a : Int} (hd : 1 ≤ d) (ha : R32 a) : Mt l x iX8_isLand d 0 0 50 w [vI a] (Rd (vI (b2i (0 ≤ a ∧ a ≤ 7))) w) := by
  refine Mt.of (L0 := [some (vI a)]) rfl rfl rfl ?_
  refine gj_il0 dX8_isLand_0 ?_
  refine gj_bipush dX8_isLand_1 rfl ?_
  refine gj_cS2r dX8_isLand_3 mX8_75 hX8_upTo (by omega) rfl (tX8_upTo  (by omega) (by omega) (by omega)) ?_
  exact gj_zret (b2i_R _) dX8_isLand_6 rfl (rd_i rfl)
set_option maxRecDepth 20000 in
set_option maxHeartbeats 4000000 in
theorem tX8_isParish {l : Launch} {x : Cx} {d : Nat} {w : AW} {a : Int} (hd : 1 ≤ d) (ha : R32 a) : Mt l x iX8_isParish d 0 0 50 w [vI a] (Rd (vI (b2i (0 ≤ a ∧ a ≤ 3))) w) := by
  refine Mt.of (L0 := [some (vI a)]) rfl rfl rfl ?_
  refine gj_il0 dX8_isParish_0 ?_
  refine gj_iconst dX8_isParish_1 ?_
  refine gj_cS2r dX8_isParish_2 mX8_75 hX8_upTo (by omega) rfl (tX8_upTo  (by omega) (by omega) (by omega)) ?_
  exact gj_zret (b2i_R _) dX8_isParish_5 rfl (rd_i rfl)
set_option maxRecDepth 20000 in
set_option maxHeartbeats 4000000 in
theorem tX8_isKind {l : Launch} {x : Cx} {d : Nat} {w : AW} {a : Int} (hd : 1 ≤ d) (ha : R32 a) : Mt l x iX8_isKind d 0 0 50 w [vI a] (Rd (vI (b2i (0 ≤ a ∧ a ≤ 3))) w) := by
  refine Mt.of (L0 := [some (vI a)]) rfl rfl rfl ?_
  refine gj_il0 dX8_isKind_0 ?_
  refine gj_iconst dX8_isKind_1 ?_
  refine gj_cS2r dX8_isKind_2 mX8_75 hX8_upTo (by omega) rfl (tX8_upTo  (by omega) (by omega) (by omega)) ?_
  exact gj_zret (b2i_R _) dX8_isKind_5 rfl (rd_i rfl)
set_option maxRecDepth 20000 in
set_option maxHeartbeats 4000000 in
theorem tX8_isHour {l : Launch} {x : Cx} {d : Nat} {w : AW} {a : Int} (hd : 1 ≤ d) (ha : R32 a) : Mt l x iX8_isHour d 0 0 50 w [vI a] (Rd (vI (b2i (0 ≤ a ∧ a ≤ 671))) w) := by
  refine Mt.of (L0 := [some (vI a)]) rfl rfl rfl ?_
  refine gj_il0 dX8_isHour_0 ?_
  refine gj_sipush dX8_isHour_1 rfl ?_
  refine gj_cS2r dX8_isHour_4 mX8_75 hX8_upTo (by omega) rfl (tX8_upTo  (by omega) (by omega) (by omega)) ?_
  exact gj_zret (b2i_R _) dX8_isHour_7 rfl (rd_i rfl)
set_option maxRecDepth 20000 in
set_option maxHeartbeats 4000000 in
theorem tX8_isSheet {l : Launch} {x : Cx} {d : Nat} {w : AW} {a : Int} (hd : 1 ≤ d) (ha : R32 a) : Mt l x iX8_isSheet d 0 0 50 w [vI a] (Rd (vI (b2i (0 ≤ a ∧ a ≤ 3))) w) := by
  refine Mt.of (L0 := [some (vI a)]) rfl rfl rfl ?_
  refine gj_il0 dX8_isSheet_0 ?_
  refine gj_iconst dX8_isSheet_1 ?_
  refine gj_cS2r dX8_isSheet_2 mX8_75 hX8_upTo (by omega) rfl (tX8_upTo  (by omega) (by omega) (by omega)) ?_
  exact gj_zret (b2i_R _) dX8_isSheet_5 rfl (rd_i rfl)
set_option maxRecDepth 20000 in
set_option maxHeartbeats 4000000 in
theorem tX8_isForm {l : Launch} {x : Cx} {d : Nat} {w : AW} {a : Int} (hd : 1 ≤ d) (ha : R32 a) : Mt l x iX8_isForm d 0 0 50 w [vI a] (Rd (vI (b2i (0 ≤ a ∧ a ≤ 2))) w) := by
  refine Mt.of (L0 := [some (vI a)]) rfl rfl rfl ?_
  refine gj_il0 dX8_isForm_0 ?_
  refine gj_iconst dX8_isForm_1 ?_
  refine gj_cS2r dX8_isForm_2 mX8_75 hX8_upTo (by omega) rfl (tX8_upTo  (by omega) (by omega) (by omega)) ?_
  exact gj_zret (b2i_R _) dX8_isForm_5 rfl (rd_i rfl)
set_option maxRecDepth 20000 in
set_option maxHeartbeats 4000000 in
theorem tX8_areTwoLands {l : Launch} {x : Cx} {d : Nat} {w : AW} {a b : Int} (hd : 2 ≤ d) (ha : R32 a) (hb : R32 b) : Mt l x iX8_areTwoLands d 0 0 50 w [vI a, vI b] (Rd (vI (b2i ((0 ≤ a ∧ a ≤ 7) ∧ (0 ≤ b ∧ b ≤ 7) ∧ a ≠ b))) w) := by
  refine Mt.of (L0 := [some (vI a), some (vI b)]) rfl rfl rfl ?_
  refine gj_il0 dX8_areTwoLands_0 ?_
  refine gj_cS1r dX8_areTwoLands_1 mX8_104 hX8_isLand (by omega) rfl (tX8_isLand  (by omega) (by omega)) ?_
  refine gj_ifB_eq dX8_areTwoLands_4 (fun h4 => ?_) (fun h4 => ?_)
  · refine gj_iconst dX8_areTwoLands_23 ?_
    exact gj_zret (Or.inl rfl) dX8_areTwoLands_24 rfl (rd_i (b2i_f (by omega)).symm)
  · refine gj_il1 dX8_areTwoLands_7 ?_
    refine gj_cS1r dX8_areTwoLands_8 mX8_104 hX8_isLand (by omega) rfl (tX8_isLand  (by omega) (by omega)) ?_
    refine gj_ifB_eq dX8_areTwoLands_11 (fun h11 => ?_) (fun h11 => ?_)
    · refine gj_iconst dX8_areTwoLands_23 ?_
      exact gj_zret (Or.inl rfl) dX8_areTwoLands_24 rfl (rd_i (b2i_f (by omega)).symm)
    · refine gj_il0 dX8_areTwoLands_14 ?_
      refine gj_il1 dX8_areTwoLands_15 ?_
      refine gj_icmp_eq dX8_areTwoLands_16 (by omega) (fun h16 => ?_) (fun h16 => ?_)
      · refine gj_iconst dX8_areTwoLands_23 ?_
        exact gj_zret (Or.inl rfl) dX8_areTwoLands_24 rfl (rd_i (b2i_f (by omega)).symm)
      · refine gj_iconst dX8_areTwoLands_19 ?_
        refine gj_goto dX8_areTwoLands_20 ?_
        exact gj_zret (Or.inr rfl) dX8_areTwoLands_24 rfl (rd_i (b2i_t (by omega)).symm)
set_option maxRecDepth 20000 in
set_option maxHeartbeats 4000000 in
theorem tX8_isSiege {l : Launch} {x : Cx} {d : Nat} {w : AW} {a b c : Int} (hd : 2 ≤ d) (ha : R32 a) (hb : R32 b) (hc : R32 c) : Mt l x iX8_isSiege d 0 0 50 w [vI a, vI b, vI c] (Rd (vI (b2i ((0 ≤ a ∧ a ≤ 7) ∧ (0 ≤ b ∧ b ≤ 671) ∧ 1 ≤ c ∧ c ≤ 999))) w) := by
  refine Mt.of (L0 := [some (vI a), some (vI b), some (vI c)]) rfl rfl rfl ?_
  refine gj_il0 dX8_isSiege_0 ?_
  refine gj_cS1r dX8_isSiege_1 mX8_104 hX8_isLand (by omega) rfl (tX8_isLand  (by omega) (by omega)) ?_
  refine gj_ifB_eq dX8_isSiege_4 (fun h4 => ?_) (fun h4 => ?_)
  · refine gj_iconst dX8_isSiege_30 ?_
    exact gj_zret (Or.inl rfl) dX8_isSiege_31 rfl (rd_i (b2i_f (by omega)).symm)
  · refine gj_il1 dX8_isSiege_7 ?_
    refine gj_cS1r dX8_isSiege_8 mX8_154 hX8_isHour (by omega) rfl (tX8_isHour  (by omega) (by omega)) ?_
    refine gj_ifB_eq dX8_isSiege_11 (fun h11 => ?_) (fun h11 => ?_)
    · refine gj_iconst dX8_isSiege_30 ?_
      exact gj_zret (Or.inl rfl) dX8_isSiege_31 rfl (rd_i (b2i_f (by omega)).symm)
    · refine gj_il2 dX8_isSiege_14 ?_
      refine gj_iconst dX8_isSiege_15 ?_
      refine gj_icmp_lt dX8_isSiege_16 (by omega) (fun h16 => ?_) (fun h16 => ?_)
      · refine gj_iconst dX8_isSiege_30 ?_
        exact gj_zret (Or.inl rfl) dX8_isSiege_31 rfl (rd_i (b2i_f (by omega)).symm)
      · refine gj_il2 dX8_isSiege_19 ?_
        refine gj_sipush dX8_isSiege_20 rfl ?_
        refine gj_icmp_gt dX8_isSiege_23 (by omega) (fun h23 => ?_) (fun h23 => ?_)
        · refine gj_iconst dX8_isSiege_30 ?_
          exact gj_zret (Or.inl rfl) dX8_isSiege_31 rfl (rd_i (b2i_f (by omega)).symm)
        · refine gj_iconst dX8_isSiege_26 ?_
          refine gj_goto dX8_isSiege_27 ?_
          exact gj_zret (Or.inr rfl) dX8_isSiege_31 rfl (rd_i (b2i_t (by omega)).symm)
set_option maxRecDepth 20000 in
set_option maxHeartbeats 4000000 in
theorem tX0_at {l : Launch} {x : Cx} {d : Nat} {w : AW} {ru : Int → Int} {p k : Int} (hd : 0 ≤ d) (hB : BellsAt w ru) (hi : 0 ≤ 2 * p + k ∧ 2 * p + k < 8) : Mt l x iX0_at d 0 0 50 w [vR 7, vI p, vI k] (Rd (vI (ru (2 * p + k))) w) := by
  obtain ⟨h7, h8⟩ := hB
  refine Mt.of (L0 := [some (vR 7), some (vI p), some (vI k)]) rfl rfl rfl ?_
  refine gj_al0 dX0_at_0 ?_
  refine gj_get dX0_at_1 fX0_9 h7 rfl rfl ?_
  refine gj_iconst dX0_at_4 ?_
  refine gj_il1 dX0_at_5 ?_
  refine gj_imul dX0_at_6 ?_
  refine gj_il2 dX0_at_7 ?_
  refine gj_iadd dX0_at_8 ?_
  refine gj_iald dX0_at_9 h8 rfl rfl (by omega) ?_
  exact gj_iret dX0_at_10 rfl (rd_i rfl)
def unlF (ru : Int → Int) (a b : Int) : Int := max (ru (2 * a) - ru (2 * b)) (-(ru (2 * a) - ru (2 * b))) + max (ru (2 * a + 1) - ru (2 * b + 1)) (-(ru (2 * a + 1) - ru (2 * b + 1)))
