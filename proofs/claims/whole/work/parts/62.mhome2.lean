/-! contracts: the model's way home: its search -/
/-- the best row as the model keeps it -/
def BM (B : BT) (bs bl bp : Int) (bt : Int → Int) : Prop := (B = B0 ∧ bs = 0) ∨ (1 ≤ B.1 ∧ bs = B.1 ∧ bl = B.2.2.1 ∧ bp = B.2.1 ∧ ∀ j : Int, 0 ≤ j → j ≤ B.1 → bt j = B.2.2.2 j)
theorem lex_congr {a b a2 b2 : Int → Int} {m : Int} (h : ∀ j : Int, 0 ≤ j → j < m → a j = a2 j ∧ b j = b2 j) : lexB a b m = lexB a2 b2 m := by
  have e : fstZ (fun k => decide (a k ≠ b k)) 0 m = fstZ (fun k => decide (a2 k ≠ b2 k)) 0 m := fstZ_congr (fun i g0 g1 => by rw [(h i g0 g1).1, (h i g0 g1).2])
  unfold lexB
  rw [e]
  rcases fstZ_R (p := fun k => decide (a2 k ≠ b2 k)) _ 0 m rfl with z | ⟨z1, z2, -, -⟩
  · rw [z]; simp
  · rw [(h _ z1 z2).1, (h _ z1 z2).2]
theorem bet_iff {n hs ch : Int} {row : Int → Int} {B : BT} : betB n hs ch row B = true ↔ (B.2.2.1 < ch ∨ (ch = B.2.2.1 ∧ (hs < B.2.1 ∨ (hs = B.2.1 ∧ lexB row B.2.2.2 (min n B.1 + 1) = true)))) := by
  unfold betB
  by_cases c : ch = B.2.2.1
  · rw [if_neg (show ¬ ch ≠ B.2.2.1 from fun z => z c)]
    by_cases c2 : hs = B.2.1
    · rw [if_neg (show ¬ hs ≠ B.2.1 from fun z => z c2)]
      constructor
      · exact fun z => Or.inr ⟨c, Or.inr ⟨c2, z⟩⟩
      · rintro (z | ⟨z, y | y⟩)
        · omega
        · omega
        · exact y.2
    · rw [if_pos (show hs ≠ B.2.1 from c2), decide_eq_true_eq]
      constructor
      · exact fun z => Or.inr ⟨c, Or.inl z⟩
      · rintro (z | ⟨z, y | y⟩)
        · omega
        · exact y
        · exact absurd y.1 c2
  · rw [if_pos (show ch ≠ B.2.2.1 from c), decide_eq_true_eq]
    constructor
    · exact fun z => Or.inl z
    · rintro (z | ⟨z, y⟩)
      · exact z
      · exact absurd z c
theorem bm_new {n hs ch : Int} {row bt : Int → Int} (hn : 1 ≤ n) (h : ∀ j : Int, 0 ≤ j → j ≤ n → bt j = row j) : BM (n, hs, ch, nrm row n) n ch hs bt := Or.inr ⟨hn, rfl, rfl, rfl, fun j g0 g1 => by
  have g1 : j ≤ n := g1
  show bt j = nrm row n j
  rw [nrm_at ⟨g0, g1⟩]
  exact h j g0 g1⟩
theorem wlk_go1 {W : Int → Int → Bool} {fa on ot ho : Int → Int} {nu go st : Int} {k : Nat} {n : Int} {row : Int → Int} {hs ch : Int} {B : BT} (hk : 1 ≤ k) (h : row n = go) : wlk W fa on ot ho nu go st k n row hs ch B = arrF n hs ch row B := by
  match k, hk with
  | k + 1, _ => exact wlk_go h
set_option maxRecDepth 20000 in
set_option maxHeartbeats 4000000 in
theorem tX9_otherEnd {l : Launch} {x : Cx} {d : Nat} {w : AW} {fi by0 a0 nr fc lw le bs bl bp mn mo : Int} {rd tx : Int → Int} {r l0 : Int} (hd : 0 ≤ d) (q32 : w 32 = (oM fi by0 a0 nr fc lw le bs bl bp mn mo)) (q38 : w 38 = cI 36 rd) (hT : TxOK tx by0) (hR : RdT rd tx (numF tx by0)) (hr : 0 ≤ r ∧ r < (numF tx by0)) (hl0 : R32 l0) : Mt l x iX9_otherEnd d 0 0 50 w [vR 32, vI r, vI l0] (Rd (vI (acrF (mOn rd) (mOt rd) r l0)) w) := by
  have e9 := rdt_in hT hR hr.1 hr.2
  have n9 := numF_R (tx := tx) hT.1
  refine Mt.of (L0 := [some (vR 32), some (vI r), some (vI l0)]) rfl rfl rfl ?_
  refine gj_al0 dX9_otherEnd_0 ?_
  refine gj_get dX9_otherEnd_1 fX9_25 q32 rfl rfl ?_
  refine gj_iconst dX9_otherEnd_4 ?_
  refine gj_il1 dX9_otherEnd_5 ?_
  refine gj_imul dX9_otherEnd_6 ?_
  refine gj_iald dX9_otherEnd_7 q38 rfl rfl (by omega) ?_
  refine gj_il2 dX9_otherEnd_8 ?_
  refine gj_icmp_ne dX9_otherEnd_9 (by omega) (fun h9 => ?_) (fun h9 => ?_)
  · refine gj_al0 dX9_otherEnd_25 ?_
    refine gj_get dX9_otherEnd_26 fX9_25 q32 rfl rfl ?_
    refine gj_iconst dX9_otherEnd_29 ?_
    refine gj_il1 dX9_otherEnd_30 ?_
    refine gj_imul dX9_otherEnd_31 ?_
    refine gj_iconst dX9_otherEnd_32 ?_
    refine gj_iadd dX9_otherEnd_33 ?_
    refine gj_iald dX9_otherEnd_34 q38 rfl rfl (by omega) ?_
    refine gj_il2 dX9_otherEnd_35 ?_
    refine gj_icmp_ne dX9_otherEnd_36 (by omega) (fun h36 => ?_) (fun h36 => ?_)
    · refine gj_iconst dX9_otherEnd_50 ?_
      exact gj_iret dX9_otherEnd_51 rfl (rd_i (by unfold acrF; show _ = (if rd (3 * r) = l0 then rd (3 * r + 1) else if rd (3 * r + 1) = l0 then rd (3 * r) else -1); first | (rw [if_pos (by omega)]) | (rw [if_neg (by omega), if_pos (by omega)]) | (rw [if_neg (by omega), if_neg (by omega)])))
    · refine gj_al0 dX9_otherEnd_39 ?_
      refine gj_get dX9_otherEnd_40 fX9_25 q32 rfl rfl ?_
      refine gj_iconst dX9_otherEnd_43 ?_
      refine gj_il1 dX9_otherEnd_44 ?_
      refine gj_imul dX9_otherEnd_45 ?_
      refine gj_iald dX9_otherEnd_46 q38 rfl rfl (by omega) ?_
      refine gj_goto dX9_otherEnd_47 ?_
      exact gj_iret dX9_otherEnd_51 rfl (rd_i (by unfold acrF; show _ = (if rd (3 * r) = l0 then rd (3 * r + 1) else if rd (3 * r + 1) = l0 then rd (3 * r) else -1); first | (rw [if_pos (by omega)]) | (rw [if_neg (by omega), if_pos (by omega)]) | (rw [if_neg (by omega), if_neg (by omega)])))
  · refine gj_al0 dX9_otherEnd_12 ?_
    refine gj_get dX9_otherEnd_13 fX9_25 q32 rfl rfl ?_
    refine gj_iconst dX9_otherEnd_16 ?_
    refine gj_il1 dX9_otherEnd_17 ?_
    refine gj_imul dX9_otherEnd_18 ?_
    refine gj_iconst dX9_otherEnd_19 ?_
    refine gj_iadd dX9_otherEnd_20 ?_
    refine gj_iald dX9_otherEnd_21 q38 rfl rfl (by omega) ?_
    refine gj_goto dX9_otherEnd_22 ?_
    exact gj_iret dX9_otherEnd_51 rfl (rd_i (by unfold acrF; show _ = (if rd (3 * r) = l0 then rd (3 * r + 1) else if rd (3 * r + 1) = l0 then rd (3 * r) else -1); first | (rw [if_pos (by omega)]) | (rw [if_neg (by omega), if_pos (by omega)]) | (rw [if_neg (by omega), if_neg (by omega)])))
set_option maxRecDepth 20000 in
set_option maxHeartbeats 4000000 in
theorem tX9_wasAt {l : Launch} {x : Cx} {d : Nat} {w : AW} {fi by0 a0 nr fc lw le bs bl bp mn mo : Int} {sp : Int → Int} {n l0 : Int} (hd : 0 ≤ d) (q32 : w 32 = (oM fi by0 a0 nr fc lw le bs bl bp mn mo)) (q45 : w 45 = cI 9 sp) (hn : 0 ≤ n ∧ n ≤ 8) (hl0 : R32 l0) (hs : ∀ j : Int, 0 ≤ j → j ≤ n → R32 (sp j)) : Mt l x iX9_wasAt d 0 0 50 w [vR 32, vI n, vI l0] (Rd (vI (b2i (visZ sp l0 (n + 1) = true))) w) := by
  refine Mt.of (L0 := [some (vR 32), some (vI n), some (vI l0), none, none]) rfl rfl rfl ?_
  refine gj_iconst dX9_wasAt_0 ?_
  refine gj_is3 dX9_wasAt_1 rfl rfl ?_
  refine gj_iconst dX9_wasAt_2 ?_
  refine gj_is4 dX9_wasAt_3 rfl rfl ?_
  have loop5 : ∀ (k : Nat), ∀ (a i : Int), (0 ≤ i ∧ i ≤ n + 1) → (a = b2i (visZ sp l0 i = true)) → (n + 1 - i).toNat < k → Gj l x iX9_wasAt d 0 0 50 (Rd (vI (b2i (visZ sp l0 (n + 1) = true))) w) 0 0 50 w 5 [some (vR 32), some (vI n), some (vI l0), some (vI a), some (vI i)] [] := by
    intro k
    induction k with
    | zero => intro _ _ _ _ hm; exact absurd hm (Nat.not_lt_zero _)
    | succ k ih5 =>
      intro a i  hi ha hm5
      have hb := b2i_R (visZ sp l0 i = true)
      refine gj_il4 dX9_wasAt_5 ?_
      refine gj_il1 dX9_wasAt_7 ?_
      refine gj_icmp_gt dX9_wasAt_8 (by omega) (fun h8 => ?_) (fun h8 => ?_)
      · subst ha
        refine gj_il3 dX9_wasAt_38 ?_
        exact gj_zret (b2i_R _) dX9_wasAt_39 rfl (rd_i (by rw [show i = n + 1 by omega]))
      · refine gj_il3 dX9_wasAt_11 ?_
        refine gj_if_ne dX9_wasAt_12 (by omega) (fun h12 => ?_) (fun h12 => ?_)
        · refine gj_iconst dX9_wasAt_26 ?_
          refine gj_goto dX9_wasAt_27 ?_
          refine gj_is3 dX9_wasAt_31 rfl rfl ?_
          refine gj_ii4 dX9_wasAt_32 rfl rfl ?_
          refine gj_goto dX9_wasAt_35 ?_
          exact ih5 _ _ (by omega) (by rw [b2i_t]; rw [visZ_s _ _ hi.1, show visZ sp l0 i = true from by by_cases z : visZ sp l0 i = true; exact z; (rw [b2i_f z] at ha; omega)]; rfl) (by omega)
        · have s9 := hs i hi.1 (by omega)
          refine gj_al0 dX9_wasAt_15 ?_
          refine gj_get dX9_wasAt_16 fX9_46 q32 rfl rfl ?_
          refine gj_il4 dX9_wasAt_19 ?_
          refine gj_iald dX9_wasAt_21 q45 rfl rfl (by omega) ?_
          refine gj_il2 dX9_wasAt_22 ?_
          refine gj_icmp_ne dX9_wasAt_23 (by omega) (fun h23 => ?_) (fun h23 => ?_)
          · refine gj_iconst dX9_wasAt_30 ?_
            refine gj_is3 dX9_wasAt_31 rfl rfl ?_
            refine gj_ii4 dX9_wasAt_32 rfl rfl ?_
            refine gj_goto dX9_wasAt_35 ?_
            exact ih5 _ _ (by omega) (by rw [b2i_f]; rw [visZ_s _ _ hi.1, decide_eq_false h23]; intro z; rw [Bool.or_false] at z; rw [b2i_t z] at ha; omega) (by omega)
          · refine gj_iconst dX9_wasAt_26 ?_
            refine gj_goto dX9_wasAt_27 ?_
            refine gj_is3 dX9_wasAt_31 rfl rfl ?_
            refine gj_ii4 dX9_wasAt_32 rfl rfl ?_
            refine gj_goto dX9_wasAt_35 ?_
            exact ih5 _ _ (by omega) (by rw [b2i_t]; rw [visZ_s _ _ hi.1, decide_eq_true (by omega)]; simp) (by omega)
  exact loop5 _ _ _ (by omega) rfl (Nat.lt_succ_self _)
set_option maxRecDepth 20000 in
set_option maxHeartbeats 4000000 in
theorem tX9_isLess {l : Launch} {x : Cx} {d : Nat} {w : AW} {fi by0 a0 nr fc lw le bs bl bp mn mo : Int} {sp bt : Int → Int} {n : Int} (hd : 0 ≤ d) (q32 : w 32 = (oM fi by0 a0 nr fc lw le bs bl bp mn mo)) (q45 : w 45 = cI 9 sp) (q48 : w 48 = cI 9 bt) (hn : 0 ≤ n ∧ n ≤ 8) (hb : 0 ≤ bs ∧ bs ≤ 8) (hs : ∀ j : Int, 0 ≤ j → j ≤ n → R32 (sp j)) (ht : ∀ j : Int, 0 ≤ j → j ≤ bs → R32 (bt j)) : Mt l x iX9_isLess d 0 0 50 w [vR 32, vI n] (Rd (vI (b2i (lexB sp bt (min n bs + 1) = true))) w) := by
  refine Mt.of (L0 := [some (vR 32), some (vI n), none]) rfl rfl rfl ?_
  refine gj_iconst dX9_isLess_0 ?_
  refine gj_is2 dX9_isLess_1 rfl rfl ?_
  have loop2 : ∀ (k : Nat), ∀ (i : Int), (0 ≤ i ∧ i ≤ min n bs + 1) → (∀ j : Int, 0 ≤ j → j < i → sp j = bt j) → (min n bs + 1 - i).toNat < k → Gj l x iX9_isLess d 0 0 50 (Rd (vI (b2i (lexB sp bt (min n bs + 1) = true))) w) 0 0 50 w 2 [some (vR 32), some (vI n), some (vI i)] [] := by
    intro k
    induction k with
    | zero => intro _ _ _ hm; exact absurd hm (Nat.not_lt_zero _)
    | succ k ih2 =>
      intro i  hi he hm2
      refine gj_il2 dX9_isLess_2 ?_
      refine gj_il1 dX9_isLess_3 ?_
      refine gj_icmp_gt dX9_isLess_4 (by omega) (fun h4 => ?_) (fun h4 => ?_)
      · refine gj_iconst dX9_isLess_57 ?_
        exact gj_zret (Or.inl rfl) dX9_isLess_58 rfl (rd_i (b2i_f (by unfold lexB; rw [fstZ_nil _ 0 (min n bs + 1) rfl (fun j g0 g1 => by rw [decide_eq_false_iff_not]; exact fun z => z (he j g0 (by omega)))]; simp)).symm)
      · refine gj_il2 dX9_isLess_7 ?_
        refine gj_al0 dX9_isLess_8 ?_
        refine gj_get dX9_isLess_9 fX9_233 q32 rfl rfl ?_
        refine gj_icmp_gt dX9_isLess_12 (by omega) (fun h12 => ?_) (fun h12 => ?_)
        · refine gj_iconst dX9_isLess_57 ?_
          exact gj_zret (Or.inl rfl) dX9_isLess_58 rfl (rd_i (b2i_f (by unfold lexB; rw [fstZ_nil _ 0 (min n bs + 1) rfl (fun j g0 g1 => by rw [decide_eq_false_iff_not]; exact fun z => z (he j g0 (by omega)))]; simp)).symm)
        · have s9 := hs i hi.1 (by omega)
          have t9 := ht i hi.1 (by omega)
          refine gj_al0 dX9_isLess_15 ?_
          refine gj_get dX9_isLess_16 fX9_46 q32 rfl rfl ?_
          refine gj_il2 dX9_isLess_19 ?_
          refine gj_iald dX9_isLess_20 q45 rfl rfl (by omega) ?_
          refine gj_al0 dX9_isLess_21 ?_
          refine gj_get dX9_isLess_22 fX9_55 q32 rfl rfl ?_
          refine gj_il2 dX9_isLess_25 ?_
          refine gj_iald dX9_isLess_26 q48 rfl rfl (by omega) ?_
          refine gj_icmp_eq dX9_isLess_27 (by omega) (fun h27 => ?_) (fun h27 => ?_)
          · refine gj_ii2 dX9_isLess_51 rfl rfl ?_
            refine gj_goto dX9_isLess_54 ?_
            exact ih2 _ (by omega) (fun j g0 g1 => by by_cases e : j = i; (rw [e]; exact h27); (exact he j g0 (by omega))) (by omega)
          · refine gj_al0 dX9_isLess_30 ?_
            refine gj_get dX9_isLess_31 fX9_46 q32 rfl rfl ?_
            refine gj_il2 dX9_isLess_34 ?_
            refine gj_iald dX9_isLess_35 q45 rfl rfl (by omega) ?_
            refine gj_al0 dX9_isLess_36 ?_
            refine gj_get dX9_isLess_37 fX9_55 q32 rfl rfl ?_
            refine gj_il2 dX9_isLess_40 ?_
            refine gj_iald dX9_isLess_41 q48 rfl rfl (by omega) ?_
            refine gj_icmp_ge dX9_isLess_42 (by omega) (fun h42 => ?_) (fun h42 => ?_)
            · refine gj_iconst dX9_isLess_49 ?_
              exact gj_zret (Or.inl rfl) dX9_isLess_50 rfl (rd_i (b2i_f (by unfold lexB; rw [fstZ_at _ 0 (min n bs + 1) i rfl hi.1 (by omega) (decide_eq_true h27) (fun j g0 g1 => by rw [decide_eq_false_iff_not]; exact fun z => z (he j g0 g1)), decide_eq_true_eq]; omega)).symm)
            · refine gj_iconst dX9_isLess_45 ?_
              refine gj_goto dX9_isLess_46 ?_
              exact gj_zret (Or.inr rfl) dX9_isLess_50 rfl (rd_i (b2i_t (by unfold lexB; rw [fstZ_at _ 0 (min n bs + 1) i rfl hi.1 (by omega) (decide_eq_true h27) (fun j g0 g1 => by rw [decide_eq_false_iff_not]; exact fun z => z (he j g0 g1)), decide_eq_true_eq]; omega)).symm)
  exact loop2 _ _ (by omega) (fun j g0 g1 => absurd g1 (by omega)) (Nat.lt_succ_self _)
set_option maxRecDepth 20000 in
set_option maxHeartbeats 4000000 in
theorem tX9_comes {l : Launch} {x : Cx} {d : Nat} {w : AW} {fi by0 a0 nr fc lw le bs bl bp mn mo : Int} {sp so lu bt : Int → Int} {t n hs ch : Int} {row : Int → Int} {B : BT} (hd : 1 ≤ d) (q32 : w 32 = (oM fi by0 a0 nr fc lw le bs bl bp mn mo)) (q45 : w 45 = cI 9 sp) (q46 : w 46 = cI 9 so) (q47 : w 47 = cI 9 lu) (q48 : w 48 = cI 9 bt) (hn : 1 ≤ n ∧ n ≤ 7) (hsp : ∀ j : Int, 0 ≤ j → j ≤ n → sp j = row j) (hso : so n = hs) (hlu : lu n = ch) (hin : ∀ j : Int, 0 ≤ j → j ≤ n → In7 (row j)) (hhs : 0 ≤ hs ∧ hs ≤ 1000) (hch : 0 ≤ ch ∧ ch ≤ 268435456) (hM : BM B bs bl bp bt) (hB : BOK t 268435456 B) : Mt l x iX9_comes d 0 0 50 w [vR 32, vI n] (Wv (fun w2 => ∃ (bs2 bl2 bp2 : Int) (bt2 : Int → Int), w2 32 = (oM fi by0 a0 nr fc lw le bs2 bl2 bp2 mn mo) ∧ w2 48 = cI 9 bt2 ∧ BM (arrF n hs ch row B) bs2 bl2 bp2 bt2 ∧ ∀ k : Nat, (k ≠ 32 ∧ k ≠ 48) → w2 k = w k)) := by
  have bb1 := hB.2.1
  have bb2 := hB.2.2
  have bs9 : 0 ≤ bs ∧ bs ≤ 7 := by
    rcases hM with z | ⟨z1, z2, -⟩
    · omega
    · rcases hB.1 with y | y <;> omega
  refine Mt.of (L0 := [some (vR 32), some (vI n), none, none]) rfl rfl rfl ?_
  have loop117 : ∀ (k : Nat), ∀ (i : Int), (0 ≤ i ∧ i ≤ n + 1) → ((arrF n hs ch row B) = (n, hs, ch, nrm row n)) → (n + 1 - i).toNat < k → Gj l x iX9_comes d 0 0 50 (Wv (fun w2 => ∃ (bs2 bl2 bp2 : Int) (bt2 : Int → Int), w2 32 = (oM fi by0 a0 nr fc lw le bs2 bl2 bp2 mn mo) ∧ w2 48 = cI 9 bt2 ∧ BM (arrF n hs ch row B) bs2 bl2 bp2 bt2 ∧ ∀ k : Nat, (k ≠ 32 ∧ k ≠ 48) → w2 k = w k)) 0 0 50 (upw (upw w 32 (oM fi by0 a0 nr fc lw le n (lu n) (so n) mn mo)) 48 (cI 9 (ovF bt sp i))) 117 [some (vR 32), some (vI n), none, some (vI i)] [] := by
    intro k
    induction k with
    | zero => intro _ _ _ hm; exact absurd hm (Nat.not_lt_zero _)
    | succ k ih117 =>
      intro i  hi hnew hm117
      refine gj_il3 dX9_comes_117 ?_
      refine gj_il1 dX9_comes_118 ?_
      refine gj_icmp_gt dX9_comes_119 (by omega) (fun h119 => ?_) (fun h119 => ?_)
      · exact gj_vret dX9_comes_140 rfl (wv_v ⟨_, _, _, _, upw_o (by decide) upw_s, upw_s, (by rw [hnew, hlu, hso]; exact bm_new (by omega) (fun j g0 g1 => by unfold ovF; rw [if_pos (by omega)]; exact hsp j g0 g1)), fun k hk => upw_o (by omega) (upw_o (by omega) rfl)⟩)
      · refine gj_al0 dX9_comes_122 ?_
        refine gj_get dX9_comes_123 fX9_55 (upw_o (by decide) upw_s) rfl rfl ?_
        refine gj_il3 dX9_comes_126 ?_
        refine gj_al0 dX9_comes_127 ?_
        refine gj_get dX9_comes_128 fX9_46 (upw_o (by decide) upw_s) rfl rfl ?_
        refine gj_il3 dX9_comes_131 ?_
        refine gj_iald dX9_comes_132 (upw_o (by decide) (upw_o (by decide) q45)) rfl rfl (by omega) ?_
        refine gj_iast dX9_comes_133 upw_s rfl rfl (by omega) ?_
        refine gj_ii3 dX9_comes_134 rfl rfl ?_
        refine gj_goto dX9_comes_137 ?_
        rw [upw_upw, ovF_s _ _ hi.1 rfl]
        exact ih117 _ (by omega) hnew (by omega)
  refine gj_al0 dX9_comes_0 ?_
  refine gj_get dX9_comes_1 fX9_233 q32 rfl rfl ?_
  refine gj_if_eq dX9_comes_4 (by omega) (fun h4 => ?_) (fun h4 => ?_)
  · have b0 : B = B0 := by
      rcases hM with z | z
      · exact z.1
      · omega
    refine gj_iconst dX9_comes_46 ?_
    refine gj_goto dX9_comes_47 ?_
    refine gj_is2 dX9_comes_51 rfl rfl ?_
    refine gj_il2 dX9_comes_52 ?_
    refine gj_if_ne dX9_comes_53 (by omega) (fun _ => ?_) (fun h => absurd h (by omega))
    refine gj_al0 dX9_comes_90 ?_
    refine gj_il1 dX9_comes_91 ?_
    refine gj_pI22 dX9_comes_92 fX9_233 q32 rfl ?_
    refine gj_al0 dX9_comes_95 ?_
    refine gj_al0 dX9_comes_96 ?_
    refine gj_get dX9_comes_97 fX9_52 upw_s rfl rfl ?_
    refine gj_il1 dX9_comes_100 ?_
    refine gj_iald dX9_comes_101 (upw_o (by decide) q47) rfl rfl (by omega) ?_
    refine gj_pI23 dX9_comes_102 fX9_236 upw_s rfl ?_
    refine gj_al0 dX9_comes_105 ?_
    refine gj_al0 dX9_comes_106 ?_
    refine gj_get dX9_comes_107 fX9_49 upw_s rfl rfl ?_
    refine gj_il1 dX9_comes_110 ?_
    refine gj_iald dX9_comes_111 (upw_o (by decide) (upw_o (by decide) q46)) rfl rfl (by omega) ?_
    refine gj_pI24 dX9_comes_112 fX9_239 upw_s rfl ?_
    refine gj_iconst dX9_comes_115 ?_
    refine gj_is3 dX9_comes_116 rfl rfl ?_
    refine gj_dr2 ?_
    rw [upw_upw, upw_upw]
    refine gj_eq rfl rfl (show (upw w 32 (oM fi by0 a0 nr fc lw le n (lu n) (so n) mn mo)) = upw (upw w 32 (oM fi by0 a0 nr fc lw le n (lu n) (so n) mn mo)) 48 (cI 9 (ovF bt sp 0)) from (by rw [ovF_0, upw_same (upw_o (by decide) q48)])) ?_
    exact loop117 _ 0 (by omega) (arr_new (Or.inl (by rw [b0]))) (Nat.lt_succ_self _)
  · obtain ⟨b1, b2, b3, b4, b5⟩ := hM.resolve_left (fun z => h4 z.2)
    have b6 : 0 ≤ B.1 ∧ B.1 ≤ 7 ∧ B.2.2.2 B.1 = t ∧ (∀ j : Int, 0 ≤ j → j < B.1 → B.2.2.2 j ≠ t) ∧ ∀ j : Int, 0 ≤ j → j ≤ B.1 → In7 (B.2.2.2 j) := hB.1.resolve_left (by omega)
    have lxe : lexB sp bt (min n bs + 1) = lexB row B.2.2.2 (min n B.1 + 1) := by
      rw [b2]
      exact lex_congr (fun j g0 g1 => ⟨hsp j g0 (by omega), b5 j g0 (by omega)⟩)
    refine gj_al0 dX9_comes_7 ?_
    refine gj_get dX9_comes_8 fX9_52 q32 rfl rfl ?_
    refine gj_il1 dX9_comes_11 ?_
    refine gj_iald dX9_comes_12 q47 rfl rfl (by omega) ?_
    refine gj_al0 dX9_comes_13 ?_
    refine gj_get dX9_comes_14 fX9_236 q32 rfl rfl ?_
    refine gj_icmp_gt dX9_comes_17 (by omega) (fun h17 => ?_) (fun h17 => ?_)
    · refine gj_iconst dX9_comes_46 ?_
      refine gj_goto dX9_comes_47 ?_
      refine gj_is2 dX9_comes_51 rfl rfl ?_
      refine gj_il2 dX9_comes_52 ?_
      refine gj_if_ne dX9_comes_53 (by omega) (fun _ => ?_) (fun h => absurd h (by omega))
      refine gj_al0 dX9_comes_90 ?_
      refine gj_il1 dX9_comes_91 ?_
      refine gj_pI22 dX9_comes_92 fX9_233 q32 rfl ?_
      refine gj_al0 dX9_comes_95 ?_
      refine gj_al0 dX9_comes_96 ?_
      refine gj_get dX9_comes_97 fX9_52 upw_s rfl rfl ?_
      refine gj_il1 dX9_comes_100 ?_
      refine gj_iald dX9_comes_101 (upw_o (by decide) q47) rfl rfl (by omega) ?_
      refine gj_pI23 dX9_comes_102 fX9_236 upw_s rfl ?_
      refine gj_al0 dX9_comes_105 ?_
      refine gj_al0 dX9_comes_106 ?_
      refine gj_get dX9_comes_107 fX9_49 upw_s rfl rfl ?_
      refine gj_il1 dX9_comes_110 ?_
      refine gj_iald dX9_comes_111 (upw_o (by decide) (upw_o (by decide) q46)) rfl rfl (by omega) ?_
      refine gj_pI24 dX9_comes_112 fX9_239 upw_s rfl ?_
      refine gj_iconst dX9_comes_115 ?_
      refine gj_is3 dX9_comes_116 rfl rfl ?_
      refine gj_dr2 ?_
      rw [upw_upw, upw_upw]
      refine gj_eq rfl rfl (show (upw w 32 (oM fi by0 a0 nr fc lw le n (lu n) (so n) mn mo)) = upw (upw w 32 (oM fi by0 a0 nr fc lw le n (lu n) (so n) mn mo)) 48 (cI 9 (ovF bt sp 0)) from (by rw [ovF_0, upw_same (upw_o (by decide) q48)])) ?_
      exact loop117 _ 0 (by omega) (arr_new (Or.inr (bet_iff.mpr (Or.inl (by omega))))) (Nat.lt_succ_self _)
    · refine gj_al0 dX9_comes_20 ?_
      refine gj_get dX9_comes_21 fX9_52 q32 rfl rfl ?_
      refine gj_il1 dX9_comes_24 ?_
      refine gj_iald dX9_comes_25 q47 rfl rfl (by omega) ?_
      refine gj_al0 dX9_comes_26 ?_
      refine gj_get dX9_comes_27 fX9_236 q32 rfl rfl ?_
      refine gj_icmp_ne dX9_comes_30 (by omega) (fun h30 => ?_) (fun h30 => ?_)
      · refine gj_iconst dX9_comes_50 ?_
        refine gj_is2 dX9_comes_51 rfl rfl ?_
        refine gj_il2 dX9_comes_52 ?_
        refine gj_if_ne dX9_comes_53 (by omega) (fun h => absurd h (by omega)) (fun _ => ?_)
        refine gj_al0 dX9_comes_56 ?_
        refine gj_get dX9_comes_57 fX9_52 q32 rfl rfl ?_
        refine gj_il1 dX9_comes_60 ?_
        refine gj_iald dX9_comes_61 q47 rfl rfl (by omega) ?_
        refine gj_al0 dX9_comes_62 ?_
        refine gj_get dX9_comes_63 fX9_236 q32 rfl rfl ?_
        refine gj_icmp_ne dX9_comes_66 (by omega) (fun h66 => ?_) (fun h66 => ?_)
        · exact gj_vret dX9_comes_140 rfl (wv_v ⟨_, _, _, _, q32, q48, (by rw [arr_old (B := B) (by
                          rw [bet_iff]
                          rintro (z | z | ⟨z1, z2 | ⟨z2, z3⟩⟩) <;> omega)]; exact hM), fun k hk => rfl⟩)
        · refine gj_al0 dX9_comes_69 ?_
          refine gj_get dX9_comes_70 fX9_49 q32 rfl rfl ?_
          refine gj_il1 dX9_comes_73 ?_
          refine gj_iald dX9_comes_74 q46 rfl rfl (by omega) ?_
          refine gj_al0 dX9_comes_75 ?_
          refine gj_get dX9_comes_76 fX9_239 q32 rfl rfl ?_
          refine gj_icmp_ne dX9_comes_79 (by omega) (fun h79 => ?_) (fun h79 => ?_)
          · exact gj_vret dX9_comes_140 rfl (wv_v ⟨_, _, _, _, q32, q48, (by rw [arr_old (B := B) (by
                            rw [bet_iff]
                            rintro (z | z | ⟨z1, z2 | ⟨z2, z3⟩⟩) <;> omega)]; exact hM), fun k hk => rfl⟩)
          · refine gj_al0 dX9_comes_82 ?_
            refine gj_il1 dX9_comes_83 ?_
            refine gj_cV1r dX9_comes_84 mX9_242 hX9_isLess q32 rfl (by omega) rfl (tX9_isLess  (by omega) q32 q45 q48 (by omega) (by omega) (fun j g0 g1 => by rw [hsp j g0 g1]; have := hin j g0 g1; omega) (fun j g0 g1 => by rw [b5 j g0 (by omega)]; have := b6.2.2.2.2 j g0 (by omega); omega)) ?_
            refine gj_ifB_eq dX9_comes_87 (fun h87 => ?_) (fun h87 => ?_)
            · exact gj_vret dX9_comes_140 rfl (wv_v ⟨_, _, _, _, q32, q48, (by rw [arr_old (B := B) (by
                              rw [bet_iff]
                              rintro (z | z | ⟨z1, z2 | ⟨z2, z3⟩⟩) <;> first | omega | (rw [← lxe] at z3; exact h87 z3))]; exact hM), fun k hk => rfl⟩)
            · refine gj_al0 dX9_comes_90 ?_
              refine gj_il1 dX9_comes_91 ?_
              refine gj_pI22 dX9_comes_92 fX9_233 q32 rfl ?_
              refine gj_al0 dX9_comes_95 ?_
              refine gj_al0 dX9_comes_96 ?_
              refine gj_get dX9_comes_97 fX9_52 upw_s rfl rfl ?_
              refine gj_il1 dX9_comes_100 ?_
              refine gj_iald dX9_comes_101 (upw_o (by decide) q47) rfl rfl (by omega) ?_
              refine gj_pI23 dX9_comes_102 fX9_236 upw_s rfl ?_
              refine gj_al0 dX9_comes_105 ?_
              refine gj_al0 dX9_comes_106 ?_
              refine gj_get dX9_comes_107 fX9_49 upw_s rfl rfl ?_
              refine gj_il1 dX9_comes_110 ?_
              refine gj_iald dX9_comes_111 (upw_o (by decide) (upw_o (by decide) q46)) rfl rfl (by omega) ?_
              refine gj_pI24 dX9_comes_112 fX9_239 upw_s rfl ?_
              refine gj_iconst dX9_comes_115 ?_
              refine gj_is3 dX9_comes_116 rfl rfl ?_
              refine gj_dr2 ?_
              rw [upw_upw, upw_upw]
              refine gj_eq rfl rfl (show (upw w 32 (oM fi by0 a0 nr fc lw le n (lu n) (so n) mn mo)) = upw (upw w 32 (oM fi by0 a0 nr fc lw le n (lu n) (so n) mn mo)) 48 (cI 9 (ovF bt sp 0)) from (by rw [ovF_0, upw_same (upw_o (by decide) q48)])) ?_
              exact loop117 _ 0 (by omega) (absurd h66 h30) (Nat.lt_succ_self _)
      · refine gj_al0 dX9_comes_33 ?_
        refine gj_get dX9_comes_34 fX9_49 q32 rfl rfl ?_
        refine gj_il1 dX9_comes_37 ?_
        refine gj_iald dX9_comes_38 q46 rfl rfl (by omega) ?_
        refine gj_al0 dX9_comes_39 ?_
        refine gj_get dX9_comes_40 fX9_239 q32 rfl rfl ?_
        refine gj_icmp_ge dX9_comes_43 (by omega) (fun h43 => ?_) (fun h43 => ?_)
        · refine gj_iconst dX9_comes_50 ?_
          refine gj_is2 dX9_comes_51 rfl rfl ?_
          refine gj_il2 dX9_comes_52 ?_
          refine gj_if_ne dX9_comes_53 (by omega) (fun h => absurd h (by omega)) (fun _ => ?_)
          refine gj_al0 dX9_comes_56 ?_
          refine gj_get dX9_comes_57 fX9_52 q32 rfl rfl ?_
          refine gj_il1 dX9_comes_60 ?_
          refine gj_iald dX9_comes_61 q47 rfl rfl (by omega) ?_
          refine gj_al0 dX9_comes_62 ?_
          refine gj_get dX9_comes_63 fX9_236 q32 rfl rfl ?_
          refine gj_icmp_ne dX9_comes_66 (by omega) (fun h66 => ?_) (fun h66 => ?_)
          · exact gj_vret dX9_comes_140 rfl (wv_v ⟨_, _, _, _, q32, q48, (by rw [arr_old (B := B) (by
                            rw [bet_iff]
                            rintro (z | z | ⟨z1, z2 | ⟨z2, z3⟩⟩) <;> omega)]; exact hM), fun k hk => rfl⟩)
          · refine gj_al0 dX9_comes_69 ?_
            refine gj_get dX9_comes_70 fX9_49 q32 rfl rfl ?_
            refine gj_il1 dX9_comes_73 ?_
            refine gj_iald dX9_comes_74 q46 rfl rfl (by omega) ?_
            refine gj_al0 dX9_comes_75 ?_
            refine gj_get dX9_comes_76 fX9_239 q32 rfl rfl ?_
            refine gj_icmp_ne dX9_comes_79 (by omega) (fun h79 => ?_) (fun h79 => ?_)
            · exact gj_vret dX9_comes_140 rfl (wv_v ⟨_, _, _, _, q32, q48, (by rw [arr_old (B := B) (by
                              rw [bet_iff]
                              rintro (z | z | ⟨z1, z2 | ⟨z2, z3⟩⟩) <;> omega)]; exact hM), fun k hk => rfl⟩)
            · refine gj_al0 dX9_comes_82 ?_
              refine gj_il1 dX9_comes_83 ?_
              refine gj_cV1r dX9_comes_84 mX9_242 hX9_isLess q32 rfl (by omega) rfl (tX9_isLess  (by omega) q32 q45 q48 (by omega) (by omega) (fun j g0 g1 => by rw [hsp j g0 g1]; have := hin j g0 g1; omega) (fun j g0 g1 => by rw [b5 j g0 (by omega)]; have := b6.2.2.2.2 j g0 (by omega); omega)) ?_
              refine gj_ifB_eq dX9_comes_87 (fun h87 => ?_) (fun h87 => ?_)
              · exact gj_vret dX9_comes_140 rfl (wv_v ⟨_, _, _, _, q32, q48, (by rw [arr_old (B := B) (by
                                rw [bet_iff]
                                rintro (z | z | ⟨z1, z2 | ⟨z2, z3⟩⟩) <;> first | omega | (rw [← lxe] at z3; exact h87 z3))]; exact hM), fun k hk => rfl⟩)
              · refine gj_al0 dX9_comes_90 ?_
                refine gj_il1 dX9_comes_91 ?_
                refine gj_pI22 dX9_comes_92 fX9_233 q32 rfl ?_
                refine gj_al0 dX9_comes_95 ?_
                refine gj_al0 dX9_comes_96 ?_
                refine gj_get dX9_comes_97 fX9_52 upw_s rfl rfl ?_
                refine gj_il1 dX9_comes_100 ?_
                refine gj_iald dX9_comes_101 (upw_o (by decide) q47) rfl rfl (by omega) ?_
                refine gj_pI23 dX9_comes_102 fX9_236 upw_s rfl ?_
                refine gj_al0 dX9_comes_105 ?_
                refine gj_al0 dX9_comes_106 ?_
                refine gj_get dX9_comes_107 fX9_49 upw_s rfl rfl ?_
                refine gj_il1 dX9_comes_110 ?_
                refine gj_iald dX9_comes_111 (upw_o (by decide) (upw_o (by decide) q46)) rfl rfl (by omega) ?_
                refine gj_pI24 dX9_comes_112 fX9_239 upw_s rfl ?_
                refine gj_iconst dX9_comes_115 ?_
                refine gj_is3 dX9_comes_116 rfl rfl ?_
                refine gj_dr2 ?_
                rw [upw_upw, upw_upw]
                refine gj_eq rfl rfl (show (upw w 32 (oM fi by0 a0 nr fc lw le n (lu n) (so n) mn mo)) = upw (upw w 32 (oM fi by0 a0 nr fc lw le n (lu n) (so n) mn mo)) 48 (cI 9 (ovF bt sp 0)) from (by rw [ovF_0, upw_same (upw_o (by decide) q48)])) ?_
                exact loop117 _ 0 (by omega) (arr_new (Or.inr (bet_iff.mpr (Or.inr ⟨by omega, Or.inr ⟨by omega, by rw [← lxe]; exact h87⟩⟩)))) (Nat.lt_succ_self _)
        · refine gj_iconst dX9_comes_46 ?_
          refine gj_goto dX9_comes_47 ?_
          refine gj_is2 dX9_comes_51 rfl rfl ?_
          refine gj_il2 dX9_comes_52 ?_
          refine gj_if_ne dX9_comes_53 (by omega) (fun _ => ?_) (fun h => absurd h (by omega))
          refine gj_al0 dX9_comes_90 ?_
          refine gj_il1 dX9_comes_91 ?_
          refine gj_pI22 dX9_comes_92 fX9_233 q32 rfl ?_
          refine gj_al0 dX9_comes_95 ?_
          refine gj_al0 dX9_comes_96 ?_
          refine gj_get dX9_comes_97 fX9_52 upw_s rfl rfl ?_
          refine gj_il1 dX9_comes_100 ?_
          refine gj_iald dX9_comes_101 (upw_o (by decide) q47) rfl rfl (by omega) ?_
          refine gj_pI23 dX9_comes_102 fX9_236 upw_s rfl ?_
          refine gj_al0 dX9_comes_105 ?_
          refine gj_al0 dX9_comes_106 ?_
          refine gj_get dX9_comes_107 fX9_49 upw_s rfl rfl ?_
          refine gj_il1 dX9_comes_110 ?_
          refine gj_iald dX9_comes_111 (upw_o (by decide) (upw_o (by decide) q46)) rfl rfl (by omega) ?_
          refine gj_pI24 dX9_comes_112 fX9_239 upw_s rfl ?_
          refine gj_iconst dX9_comes_115 ?_
          refine gj_is3 dX9_comes_116 rfl rfl ?_
          refine gj_dr2 ?_
          rw [upw_upw, upw_upw]
          refine gj_eq rfl rfl (show (upw w 32 (oM fi by0 a0 nr fc lw le n (lu n) (so n) mn mo)) = upw (upw w 32 (oM fi by0 a0 nr fc lw le n (lu n) (so n) mn mo)) 48 (cI 9 (ovF bt sp 0)) from (by rw [ovF_0, upw_same (upw_o (by decide) q48)])) ?_
          exact loop117 _ 0 (by omega) (arr_new (Or.inr (bet_iff.mpr (Or.inr ⟨by omega, Or.inl (by omega)⟩)))) (Nat.lt_succ_self _)
