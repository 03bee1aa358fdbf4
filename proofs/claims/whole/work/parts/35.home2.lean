/-! contracts: Homeward -/
abbrev HomAt (w : AW) (go st bn : Int) (B : BT) (ra rb : Int → Int) : Prop := w 16 = cO 2 [vR 1, vR 9, vR 17, vR 18, vI go, vI st, vI bn, vI B.1, vI B.2.1, vI B.2.2.1] ∧ w 17 = cI 8 ra ∧ w 18 = cI 8 rb
theorem tAtW {l : Launch} {x : Cx} {d : Nat} {w : AW} {fa : Int → Int} {W : Int → Int → Bool} {l0 k : Int} (hd : 0 ≤ d) (hW : WarC w fa W) (hl : 0 ≤ l0 ∧ l0 ≤ 7) (hk : 0 ≤ k ∧ k ≤ 2) : Mt l x iX5_at d 0 0 50 w [vR 9, vI l0, vI k] (Rd (vI (fa (l0 * 3 + k))) w) := by
  obtain ⟨fe, ru, fc, fd, lw, h1, h2, h3, rfl⟩ := hW
  exact tX5_at hd h1 hl hk
set_option maxRecDepth 20000 in
set_option maxHeartbeats 4000000 in
theorem tX2_freeOf {l : Launch} {x : Cx} {d : Nat} {w : AW} {f9 : List AV} {fa : Int → Int} {W : Int → Int → Bool} {go st bn : Int} {B : BT} {ra rb : Int → Int} {l0 : Int} (hd : 1 ≤ d) (q9 : w 9 = cO 5 f9) (hW : WarC w fa W) (hH : HomAt w go st bn B ra rb) (hl : In7 l0) : Mt l x iX2_freeOf d 0 0 50 w [vR 16, vI l0] (Rd (vI (16 - fa (3 * l0 + 2))) w) := by
  obtain ⟨q16, q17, q18⟩ := hH
  refine Mt.of (L0 := [some (vR 16), some (vI l0)]) rfl rfl rfl ?_
  refine gj_bipush dX2_freeOf_0 rfl ?_
  refine gj_al0 dX2_freeOf_2 ?_
  refine gj_get dX2_freeOf_3 fX2_22 q16 rfl rfl ?_
  refine gj_il1 dX2_freeOf_6 ?_
  refine gj_iconst dX2_freeOf_7 ?_
  refine gj_cV2r dX2_freeOf_8 mX2_75 hX5_at q9 rfl (by omega) rfl (tAtW  (by omega) hW (by omega) (by omega)) ?_
  refine gj_isub dX2_freeOf_11 ?_
  exact gj_iret dX2_freeOf_12 rfl (rd_i (by rw [show l0 * 3 + 2 = 3 * l0 + 2 by omega]))
set_option maxRecDepth 20000 in
set_option maxHeartbeats 4000000 in
theorem tX2_isBetter {l : Launch} {x : Cx} {d : Nat} {w : AW} {go st bn : Int} {B : BT} {ra rb : Int → Int} {row : Int → Int} {n hs ch : Int} (hd : 0 ≤ d) (hH : HomAt w go st bn B ra rb) (hRow : RowOK go n row) (hgo : row n = go) (hra : ∀ j : Int, 0 ≤ j → j ≤ n → ra j = row j) (hB : BOK go 16777216 B) (hrb : ∀ j : Int, 0 ≤ j → j ≤ B.1 → rb j = B.2.2.2 j) (hb : B.1 ≠ -1) (hhs : 0 ≤ hs ∧ hs ≤ 1000) (hch : 0 ≤ ch ∧ ch ≤ 16777216) : Mt l x iX2_isBetter d 0 0 50 w [vR 16, vI hs, vI ch] (Rd (vI (b2i (betB n hs ch row B = true))) w) := by
  obtain ⟨q16, q17, q18⟩ := hH
  have b1 := hB.2.1
  have b2 := hB.2.2
  have b3 : 0 ≤ B.1 ∧ B.1 ≤ 7 ∧ B.2.2.2 B.1 = go ∧ (∀ j : Int, 0 ≤ j → j < B.1 → B.2.2.2 j ≠ go) ∧ ∀ j : Int, 0 ≤ j → j ≤ B.1 → In7 (B.2.2.2 j) := hB.1.resolve_left hb
  have hbe : ch = B.2.2.1 → hs = B.2.1 → betB n hs ch row B = lexB row B.2.2.2 (min n B.1 + 1) := by
    intro e1 e2
    unfold betB
    rw [if_neg (by omega), if_neg (by omega)]
  refine Mt.of (L0 := [some (vR 16), some (vI hs), some (vI ch), none]) rfl rfl rfl ?_
  refine gj_il2 dX2_isBetter_0 ?_
  refine gj_al0 dX2_isBetter_1 ?_
  refine gj_get dX2_isBetter_2 fX2_33 q16 rfl rfl ?_
  refine gj_icmp_eq dX2_isBetter_5 (by omega) (fun h5 => ?_) (fun h5 => ?_)
  · refine gj_il1 dX2_isBetter_22 ?_
    refine gj_al0 dX2_isBetter_23 ?_
    refine gj_get dX2_isBetter_24 fX2_30 q16 rfl rfl ?_
    refine gj_icmp_eq dX2_isBetter_27 (by omega) (fun h27 => ?_) (fun h27 => ?_)
    · refine gj_iconst dX2_isBetter_44 ?_
      refine gj_is3 dX2_isBetter_45 rfl rfl ?_
      have loop46 : ∀ (k : Nat), ∀ (i : Int), (0 ≤ i ∧ i ≤ B.1 + 1) → (∀ j : Int, 0 ≤ j → j < i → row j = B.2.2.2 j) → (B.1 + 1 - i).toNat < k → Gj l x iX2_isBetter d 0 0 50 (Rd (vI (b2i (betB n hs ch row B = true))) w) 0 0 50 w 46 [some (vR 16), some (vI hs), some (vI ch), some (vI i)] [] := by
        intro k
        induction k with
        | zero => intro _ _ _ hm; exact absurd hm (Nat.not_lt_zero _)
        | succ k ih46 =>
          intro i  hi he hm46
          refine gj_il3 dX2_isBetter_46 ?_
          refine gj_al0 dX2_isBetter_47 ?_
          refine gj_get dX2_isBetter_48 fX2_26 q16 rfl rfl ?_
          refine gj_icmp_gt dX2_isBetter_51 (by omega) (fun h51 => ?_) (fun h51 => ?_)
          · refine gj_iconst dX2_isBetter_96 ?_
            exact gj_zret (Or.inl rfl) dX2_isBetter_97 rfl (rd_i (b2i_f (by rw [hbe h5 h27, (lex_all hRow hgo hB hb), fstZ_nil _ 0 (B.1 + 1) rfl (fun j g0 g1 => by rw [decide_eq_false_iff_not]; exact fun z => z (he j g0 (by omega)))]; simp)).symm)
          · have hin : i ≤ n := by
              rcases Int.lt_or_le n i with c | c
              · exfalso
                have z := he n hRow.1.1 c
                rw [hgo] at z
                exact b3.2.2.2.1 n hRow.1.1 (by omega) z.symm
              · exact c
            have r1 := hRow.2.1 i hi.1 hin
            have r2 := b3.2.2.2.2 i hi.1 (by omega)
            have r3 := hra i hi.1 hin
            have r4 := hrb i hi.1 (by omega)
            refine gj_al0 dX2_isBetter_54 ?_
            refine gj_get dX2_isBetter_55 fX2_9 q16 rfl rfl ?_
            refine gj_il3 dX2_isBetter_58 ?_
            refine gj_iald dX2_isBetter_59 q17 rfl rfl (by omega) ?_
            refine gj_al0 dX2_isBetter_60 ?_
            refine gj_get dX2_isBetter_61 fX2_15 q16 rfl rfl ?_
            refine gj_il3 dX2_isBetter_64 ?_
            refine gj_iald dX2_isBetter_65 q18 rfl rfl (by omega) ?_
            rw [r3, r4]
            refine gj_icmp_eq dX2_isBetter_66 (by omega) (fun h66 => ?_) (fun h66 => ?_)
            · refine gj_ii3 dX2_isBetter_90 rfl rfl ?_
              refine gj_goto dX2_isBetter_93 ?_
              exact ih46 _ (by omega) (fun j g0 g1 => by by_cases e : j = i; (rw [e]; exact h66); (exact he j g0 (by omega))) (by omega)
            · refine gj_al0 dX2_isBetter_69 ?_
              refine gj_get dX2_isBetter_70 fX2_9 q16 rfl rfl ?_
              refine gj_il3 dX2_isBetter_73 ?_
              refine gj_iald dX2_isBetter_74 q17 rfl rfl (by omega) ?_
              refine gj_al0 dX2_isBetter_75 ?_
              refine gj_get dX2_isBetter_76 fX2_15 q16 rfl rfl ?_
              refine gj_il3 dX2_isBetter_79 ?_
              refine gj_iald dX2_isBetter_80 q18 rfl rfl (by omega) ?_
              rw [r3, r4]
              refine gj_icmp_ge dX2_isBetter_81 (by omega) (fun h81 => ?_) (fun h81 => ?_)
              · refine gj_iconst dX2_isBetter_88 ?_
                exact gj_zret (Or.inl rfl) dX2_isBetter_89 rfl (rd_i (b2i_f (by rw [hbe h5 h27, (lex_all hRow hgo hB hb), fstZ_at _ 0 (B.1 + 1) i rfl hi.1 (by omega) (decide_eq_true h66) (fun j g0 g1 => by rw [decide_eq_false_iff_not]; exact fun z => z (he j g0 g1)), decide_eq_true_eq]; omega)).symm)
              · refine gj_iconst dX2_isBetter_84 ?_
                refine gj_goto dX2_isBetter_85 ?_
                exact gj_zret (Or.inr rfl) dX2_isBetter_89 rfl (rd_i (b2i_t (by rw [hbe h5 h27, (lex_all hRow hgo hB hb), fstZ_at _ 0 (B.1 + 1) i rfl hi.1 (by omega) (decide_eq_true h66) (fun j g0 g1 => by rw [decide_eq_false_iff_not]; exact fun z => z (he j g0 g1)), decide_eq_true_eq]; omega)).symm)
      exact loop46 _ _ (by omega) (fun j g0 g1 => absurd g1 (by omega)) (Nat.lt_succ_self _)
    · refine gj_il1 dX2_isBetter_30 ?_
      refine gj_al0 dX2_isBetter_31 ?_
      refine gj_get dX2_isBetter_32 fX2_30 q16 rfl rfl ?_
      refine gj_icmp_ge dX2_isBetter_35 (by omega) (fun h35 => ?_) (fun h35 => ?_)
      · refine gj_iconst dX2_isBetter_42 ?_
        exact gj_zret (Or.inl rfl) dX2_isBetter_43 rfl (rd_i (b2i_f (by unfold betB; rw [if_neg (by omega), if_pos (by omega), decide_eq_true_eq]; omega)).symm)
      · refine gj_iconst dX2_isBetter_38 ?_
        refine gj_goto dX2_isBetter_39 ?_
        exact gj_zret (Or.inr rfl) dX2_isBetter_43 rfl (rd_i (b2i_t (by unfold betB; rw [if_neg (by omega), if_pos (by omega), decide_eq_true_eq]; omega)).symm)
  · refine gj_il2 dX2_isBetter_8 ?_
    refine gj_al0 dX2_isBetter_9 ?_
    refine gj_get dX2_isBetter_10 fX2_33 q16 rfl rfl ?_
    refine gj_icmp_le dX2_isBetter_13 (by omega) (fun h13 => ?_) (fun h13 => ?_)
    · refine gj_iconst dX2_isBetter_20 ?_
      exact gj_zret (Or.inl rfl) dX2_isBetter_21 rfl (rd_i (b2i_f (by unfold betB; rw [if_pos (by omega), decide_eq_true_eq]; omega)).symm)
    · refine gj_iconst dX2_isBetter_16 ?_
      refine gj_goto dX2_isBetter_17 ?_
      exact gj_zret (Or.inr rfl) dX2_isBetter_21 rfl (rd_i (b2i_t (by unfold betB; rw [if_pos (by omega), decide_eq_true_eq]; omega)).symm)
set_option maxRecDepth 20000 in
set_option maxHeartbeats 4000000 in
theorem tX2_arrive {l : Launch} {x : Cx} {d : Nat} {w : AW} {go st bn : Int} {B : BT} {ra rb : Int → Int} {row : Int → Int} {n hs ch : Int} (hd : 1 ≤ d) (hH : HomAt w go st bn B ra rb) (hRow : RowOK go n row) (hgo : row n = go) (hra : ∀ j : Int, 0 ≤ j → j ≤ n → ra j = row j) (hB : BOK go 16777216 B) (hrb : ∀ j : Int, 0 ≤ j → j ≤ B.1 → rb j = B.2.2.2 j) (hhs : 0 ≤ hs ∧ hs ≤ 1000) (hch : 0 ≤ ch ∧ ch ≤ 16777216) : Mt l x iX2_arrive d 0 0 50 w [vR 16, vI n, vI hs, vI ch] (Wv (fun w2 => ∃ rb2 : Int → Int, HomAt w2 go st bn (arrF n hs ch row B) ra rb2 ∧ BOK go 16777216 (arrF n hs ch row B) ∧ (∀ j : Int, 0 ≤ j → j ≤ (arrF n hs ch row B).1 → rb2 j = (arrF n hs ch row B).2.2.2 j) ∧ ∀ k : Nat, (k < 16 ∨ 18 < k) → w2 k = w k)) := by
  obtain ⟨q16, q17, q18⟩ := hH
  have b3 : -1 ≤ B.1 ∧ B.1 ≤ 7 := by rcases hB.1 with e | e <;> omega
  refine Mt.of (L0 := [some (vR 16), some (vI n), some (vI hs), some (vI ch)]) rfl rfl rfl ?_
  refine gj_al0 dX2_arrive_0 ?_
  refine gj_get dX2_arrive_1 fX2_26 q16 rfl rfl ?_
  refine gj_iconst dX2_arrive_4 ?_
  refine gj_icmp_eq dX2_arrive_5 (by omega) (fun h5 => ?_) (fun h5 => ?_)
  · have e9 : (arrF n hs ch row B) = (n, hs, ch, nrm row n) := by unfold arrF; rw [if_pos (Or.inl h5)]
    refine gj_al0 dX2_arrive_18 ?_
    refine gj_il1 dX2_arrive_19 ?_
    refine gj_pI7 dX2_arrive_20 fX2_26 q16 rfl ?_
    refine gj_al0 dX2_arrive_23 ?_
    refine gj_il2 dX2_arrive_24 ?_
    refine gj_pI8 dX2_arrive_25 fX2_30 upw_s rfl ?_
    refine gj_al0 dX2_arrive_28 ?_
    refine gj_il3 dX2_arrive_29 ?_
    refine gj_pI9 dX2_arrive_30 fX2_33 upw_s rfl ?_
    refine gj_al0 dX2_arrive_33 ?_
    refine gj_get dX2_arrive_34 fX2_9 upw_s rfl rfl ?_
    refine gj_iconst dX2_arrive_37 ?_
    refine gj_al0 dX2_arrive_38 ?_
    refine gj_get dX2_arrive_39 fX2_15 upw_s rfl rfl ?_
    refine gj_iconst dX2_arrive_42 ?_
    refine gj_il1 dX2_arrive_43 ?_
    refine gj_iconst dX2_arrive_44 ?_
    refine gj_iadd dX2_arrive_45 ?_
    refine gj_acopy dX2_arrive_46 mX2_81 (by omega) rfl (upw_o (by decide) (upw_o (by decide) (upw_o (by decide) q17))) rfl (upw_o (by decide) (upw_o (by decide) (upw_o (by decide) q18))) rfl ⟨rfl, rfl⟩ (by omega) ?_
    exact gj_vret dX2_arrive_49 rfl (wv_v ⟨cpf ra rb 0 0 (n + 1), ⟨by rw [upw_o (by decide) upw_s, e9], upw_o (by decide) (upw_o (by decide) (upw_o (by decide) (upw_o (by decide) q17))), upw_s⟩, arr_ok hRow hgo hB hch hhs, fun j g0 g1 => (by rw [e9] at g1 ⊢; show cpf ra rb 0 0 (n + 1) j = nrm row n j; have g1 : j ≤ n := g1; unfold cpf; rw [if_pos (by omega), nrm_at ⟨g0, g1⟩, show 0 + (j - 0) = j by omega]; exact hra j g0 g1), fun k hk => upw_o (by omega) (upw_o (by omega) (upw_o (by omega) (upw_o (by omega) rfl)))⟩)
  · refine gj_al0 dX2_arrive_8 ?_
    refine gj_il2 dX2_arrive_9 ?_
    refine gj_il3 dX2_arrive_10 ?_
    refine gj_cV2r dX2_arrive_11 mX2_78 hX2_isBetter q16 rfl (by omega) rfl (tX2_isBetter  (by omega) ⟨q16, q17, q18⟩ hRow hgo hra hB hrb (by omega) (by omega) (by omega)) ?_
    refine gj_ifB_ne dX2_arrive_14 (fun h14 => ?_) (fun h14 => ?_)
    · have e9 : (arrF n hs ch row B) = (n, hs, ch, nrm row n) := by unfold arrF; rw [if_pos (Or.inr h14)]
      refine gj_al0 dX2_arrive_18 ?_
      refine gj_il1 dX2_arrive_19 ?_
      refine gj_pI7 dX2_arrive_20 fX2_26 q16 rfl ?_
      refine gj_al0 dX2_arrive_23 ?_
      refine gj_il2 dX2_arrive_24 ?_
      refine gj_pI8 dX2_arrive_25 fX2_30 upw_s rfl ?_
      refine gj_al0 dX2_arrive_28 ?_
      refine gj_il3 dX2_arrive_29 ?_
      refine gj_pI9 dX2_arrive_30 fX2_33 upw_s rfl ?_
      refine gj_al0 dX2_arrive_33 ?_
      refine gj_get dX2_arrive_34 fX2_9 upw_s rfl rfl ?_
      refine gj_iconst dX2_arrive_37 ?_
      refine gj_al0 dX2_arrive_38 ?_
      refine gj_get dX2_arrive_39 fX2_15 upw_s rfl rfl ?_
      refine gj_iconst dX2_arrive_42 ?_
      refine gj_il1 dX2_arrive_43 ?_
      refine gj_iconst dX2_arrive_44 ?_
      refine gj_iadd dX2_arrive_45 ?_
      refine gj_acopy dX2_arrive_46 mX2_81 (by omega) rfl (upw_o (by decide) (upw_o (by decide) (upw_o (by decide) q17))) rfl (upw_o (by decide) (upw_o (by decide) (upw_o (by decide) q18))) rfl ⟨rfl, rfl⟩ (by omega) ?_
      exact gj_vret dX2_arrive_49 rfl (wv_v ⟨cpf ra rb 0 0 (n + 1), ⟨by rw [upw_o (by decide) upw_s, e9], upw_o (by decide) (upw_o (by decide) (upw_o (by decide) (upw_o (by decide) q17))), upw_s⟩, arr_ok hRow hgo hB hch hhs, fun j g0 g1 => (by rw [e9] at g1 ⊢; show cpf ra rb 0 0 (n + 1) j = nrm row n j; have g1 : j ≤ n := g1; unfold cpf; rw [if_pos (by omega), nrm_at ⟨g0, g1⟩, show 0 + (j - 0) = j by omega]; exact hra j g0 g1), fun k hk => upw_o (by omega) (upw_o (by omega) (upw_o (by omega) (upw_o (by omega) rfl)))⟩)
    · have e9 : (arrF n hs ch row B) = B := by unfold arrF; rw [if_neg (by rintro (z | z) <;> contradiction)]
      exact gj_vret dX2_arrive_17 rfl (wv_v ⟨rb, ⟨by rw [e9]; exact q16, q17, q18⟩, (by rw [e9]; exact hB), (by rw [e9]; exact hrb), fun k hk => rfl⟩)
