/-! contracts: the model: bells, siege, season, sights -/
set_option maxRecDepth 20000 in
set_option maxHeartbeats 4000000 in
theorem tX9_unlikeOf {l : Launch} {x : Cx} {d : Nat} {w : AW} {fa ru fe : Int → Int} {fc lw : Int} {p q : Int} (hd : 2 ≤ d) (hM : MoAt w fa ru fe fc lw) (hR : RuOK ru) (hp : 0 ≤ p ∧ p ≤ 3) (hq : 0 ≤ q ∧ q ≤ 3) : Mt l x iX9_unlikeOf d 0 0 50 w [vR 32, vI p, vI q] (Rd (vI (unlF ru p q)) w) := by
  obtain ⟨⟨fi, by0, a0, nr, le, bs, bl, bp, mn, mo, q32⟩, q39, q40, q41⟩ := hM
  have rp0 := hR (2 * p + 0) (by omega) (by omega)
  have rp1 := hR (2 * p + 1) (by omega) (by omega)
  have rq0 := hR (2 * q + 0) (by omega) (by omega)
  have rq1 := hR (2 * q + 1) (by omega) (by omega)
  simp only [Int.add_zero] at rp0 rq0
  refine Mt.of (L0 := [some (vR 32), some (vI p), some (vI q), none, none]) rfl rfl rfl ?_
  refine gj_iconst dX9_unlikeOf_0 ?_
  refine gj_is3 dX9_unlikeOf_1 rfl rfl ?_
  refine gj_iconst dX9_unlikeOf_2 ?_
  refine gj_is4 dX9_unlikeOf_3 rfl rfl ?_
  have loop5 : ∀ (k : Nat), ∀ (a i : Int), (0 ≤ i ∧ i ≤ 168) → (a = max 0 (min (max (ru (2 * p)) (ru (2 * q))) i - min (ru (2 * p)) (ru (2 * q))) + max 0 (min (48 + max (ru (2 * p + 1)) (ru (2 * q + 1))) i - (48 + min (ru (2 * p + 1)) (ru (2 * q + 1))))) → (168 - i).toNat < k → Gj l x iX9_unlikeOf d 0 0 50 (Rd (vI (unlF ru p q)) w) 0 0 50 w 5 [some (vR 32), some (vI p), some (vI q), some (vI a), some (vI i)] [] := by
    intro k
    induction k with
    | zero => intro _ _ _ _ hm; exact absurd hm (Nat.not_lt_zero _)
    | succ k ih5 =>
      intro a i  hi ha hm5
      refine gj_il4 dX9_unlikeOf_5 ?_
      refine gj_sipush dX9_unlikeOf_7 rfl ?_
      refine gj_icmp_ge dX9_unlikeOf_10 (by omega) (fun h10 => ?_) (fun h10 => ?_)
      · refine gj_il3 dX9_unlikeOf_44 ?_
        exact gj_iret dX9_unlikeOf_45 rfl (rd_i (by unfold unlF; rw [ha, show i = 168 by omega]; simp only [Int.add_zero]; omega))
      · refine gj_il3 dX9_unlikeOf_13 ?_
        refine gj_al0 dX9_unlikeOf_14 ?_
        refine gj_il1 dX9_unlikeOf_15 ?_
        refine gj_il4 dX9_unlikeOf_16 ?_
        refine gj_cV2r dX9_unlikeOf_18 mX9_160 hX9_isWarBy q32 rfl (by omega) rfl (tX9_isWarBy  (by omega) ⟨⟨_, _, _, _, _, _, _, _, _, _, q32⟩, q39, q40, q41⟩ hR (by omega) (by omega)) ?_
        refine gj_al0 dX9_unlikeOf_21 ?_
        refine gj_il2 dX9_unlikeOf_22 ?_
        refine gj_il4 dX9_unlikeOf_23 ?_
        refine gj_cV2r dX9_unlikeOf_25 mX9_160 hX9_isWarBy q32 rfl (by omega) rfl (tX9_isWarBy  (by omega) ⟨⟨_, _, _, _, _, _, _, _, _, _, q32⟩, q39, q40, q41⟩ hR (by omega) (by omega)) ?_
        have z5 : (b2i (ru (2 * p) ≤ i ∧ i ≤ 47 + ru (2 * p + 1)) = 1 ∧ (ru (2 * p) ≤ i ∧ i ≤ 47 + ru (2 * p + 1))) ∨ (b2i (ru (2 * p) ≤ i ∧ i ≤ 47 + ru (2 * p + 1)) = 0 ∧ ¬ (ru (2 * p) ≤ i ∧ i ≤ 47 + ru (2 * p + 1))) := by
          by_cases z : ru (2 * p) ≤ i ∧ i ≤ 47 + ru (2 * p + 1)
          · exact Or.inl ⟨b2i_t z, z⟩
          · exact Or.inr ⟨b2i_f z, z⟩
        have z8 : (b2i (ru (2 * q) ≤ i ∧ i ≤ 47 + ru (2 * q + 1)) = 1 ∧ (ru (2 * q) ≤ i ∧ i ≤ 47 + ru (2 * q + 1))) ∨ (b2i (ru (2 * q) ≤ i ∧ i ≤ 47 + ru (2 * q + 1)) = 0 ∧ ¬ (ru (2 * q) ≤ i ∧ i ≤ 47 + ru (2 * q + 1))) := by
          by_cases z : ru (2 * q) ≤ i ∧ i ≤ 47 + ru (2 * q + 1)
          · exact Or.inl ⟨b2i_t z, z⟩
          · exact Or.inr ⟨b2i_f z, z⟩
        refine gj_icmp_ne dX9_unlikeOf_28 (by rcases z5 with ⟨z6, _⟩ | ⟨z6, _⟩ <;> rcases z8 with ⟨y6, _⟩ | ⟨y6, _⟩ <;> rw [z6, y6] <;> omega) (fun h28 => ?_) (fun h28 => ?_)
        · refine gj_iconst dX9_unlikeOf_35 ?_
          refine gj_iadd dX9_unlikeOf_36 ?_
          refine gj_is3 dX9_unlikeOf_37 rfl rfl ?_
          refine gj_ii4 dX9_unlikeOf_38 rfl rfl ?_
          refine gj_goto dX9_unlikeOf_41 ?_
          exact ih5 _ _ (by omega) (by rw [ha]; first | (rcases z5 with ⟨z6, z7⟩ | ⟨z6, z7⟩ <;> rcases z8 with ⟨y6, y7⟩ | ⟨y6, y7⟩ <;> omega)) (by omega)
        · refine gj_iconst dX9_unlikeOf_31 ?_
          refine gj_goto dX9_unlikeOf_32 ?_
          refine gj_iadd dX9_unlikeOf_36 ?_
          refine gj_is3 dX9_unlikeOf_37 rfl rfl ?_
          refine gj_ii4 dX9_unlikeOf_38 rfl rfl ?_
          refine gj_goto dX9_unlikeOf_41 ?_
          exact ih5 _ _ (by omega) (by rw [ha]; first | (rcases z5 with ⟨z6, z7⟩ | ⟨z6, z7⟩ <;> rcases z8 with ⟨y6, y7⟩ | ⟨y6, y7⟩ <;> omega)) (by omega)
  exact loop5 _ _ _ (by omega) (by omega) (Nat.lt_succ_self _)
set_option maxRecDepth 20000 in
set_option maxHeartbeats 4000000 in
theorem tX9_unlike {l : Launch} {x : Cx} {d : Nat} {w : AW} {fa ru fe : Int → Int} {fc lw : Int} {p q : Int} (hd : 3 ≤ d) (hM : MoAt w fa ru fe fc lw) (hR : RuOK ru) (hp : R32 p) (hq : R32 q) : Mt l x iX9_unlike d 0 0 50 w [vR 32, vI p, vI q] (Rd (vI (unlA ru p q)) w) := by
  obtain ⟨⟨fi, by0, a0, nr, le, bs, bl, bp, mn, mo, q32⟩, q39, q40, q41⟩ := hM
  refine Mt.of (L0 := [some (vR 32), some (vI p), some (vI q)]) rfl rfl rfl ?_
  refine gj_il1 dX9_unlike_0 ?_
  refine gj_cS1r dX9_unlike_1 mX9_132 hX9_isParish (by omega) rfl (tX9_isParish  (by omega) (by omega)) ?_
  refine gj_ifB_eq dX9_unlike_4 (fun h4 => ?_) (fun h4 => ?_)
  · refine gj_bipush dX9_unlike_23 rfl ?_
    exact gj_iret dX9_unlike_25 rfl (rd_i (by unfold unlA; first | (rw [if_pos (by omega)]) | (rw [if_neg (by omega)])))
  · refine gj_il2 dX9_unlike_7 ?_
    refine gj_cS1r dX9_unlike_8 mX9_132 hX9_isParish (by omega) rfl (tX9_isParish  (by omega) (by omega)) ?_
    refine gj_ifB_eq dX9_unlike_11 (fun h11 => ?_) (fun h11 => ?_)
    · refine gj_bipush dX9_unlike_23 rfl ?_
      exact gj_iret dX9_unlike_25 rfl (rd_i (by unfold unlA; first | (rw [if_pos (by omega)]) | (rw [if_neg (by omega)])))
    · refine gj_al0 dX9_unlike_14 ?_
      refine gj_il1 dX9_unlike_15 ?_
      refine gj_il2 dX9_unlike_16 ?_
      refine gj_cV2r dX9_unlike_17 mX9_185 hX9_unlikeOf q32 rfl (by omega) rfl (tX9_unlikeOf  (by omega) ⟨⟨_, _, _, _, _, _, _, _, _, _, q32⟩, q39, q40, q41⟩ hR (by omega) (by omega)) ?_
      refine gj_goto dX9_unlike_20 ?_
      exact gj_iret dX9_unlike_25 rfl (rd_i (by unfold unlA; first | (rw [if_pos (by omega)]) | (rw [if_neg (by omega)])))
set_option maxRecDepth 20000 in
set_option maxHeartbeats 4000000 in
theorem tX9_pairOf {l : Launch} {x : Cx} {d : Nat} {w : AW} {fa ru fe : Int → Int} {fc lw : Int} {p : Int} (hd : 0 ≤ d) (hM : MoAt w fa ru fe fc lw) (hR : RuOK ru) (hp : 0 ≤ p ∧ p ≤ 3) : Mt l x iX9_pairOf d 0 0 50 w [vR 32, vI p] (Rd (vI (rankF ru p)) w) := by
  obtain ⟨⟨fi, by0, a0, nr, le, bs, bl, bp, mn, mo, q32⟩, q39, q40, q41⟩ := hM
  refine Mt.of (L0 := [some (vR 32), some (vI p)]) rfl rfl rfl ?_
  refine gj_bipush dX9_pairOf_0 rfl ?_
  refine gj_al0 dX9_pairOf_2 ?_
  refine gj_get dX9_pairOf_3 fX9_31 q32 rfl rfl ?_
  refine gj_iconst dX9_pairOf_6 ?_
  refine gj_il1 dX9_pairOf_7 ?_
  refine gj_imul dX9_pairOf_8 ?_
  refine gj_iald dX9_pairOf_9 q40 rfl rfl (by omega) ?_
  refine gj_imul dX9_pairOf_10 ?_
  refine gj_al0 dX9_pairOf_11 ?_
  refine gj_get dX9_pairOf_12 fX9_31 q32 rfl rfl ?_
  refine gj_iconst dX9_pairOf_15 ?_
  refine gj_il1 dX9_pairOf_16 ?_
  refine gj_imul dX9_pairOf_17 ?_
  refine gj_iconst dX9_pairOf_18 ?_
  refine gj_iadd dX9_pairOf_19 ?_
  refine gj_iald dX9_pairOf_20 q40 rfl rfl (by omega) ?_
  refine gj_iadd dX9_pairOf_21 ?_
  exact gj_iret dX9_pairOf_22 rfl (rd_i (by unfold rankF; rw [show 2 * p + 0 = 2 * p by omega]; omega))
theorem rank_unl {ru : Int → Int} {p q : Int} (hR : RuOK ru) (hp : 0 ≤ p ∧ p ≤ 3) (hq : 0 ≤ q ∧ q ≤ 3) : rankF ru q = rankF ru p ↔ unlF ru q p = 0 := by
  have r1 := hR (2 * p + 0) (by omega) (by omega)
  have r2 := hR (2 * p + 1) (by omega) (by omega)
  have r3 := hR (2 * q + 0) (by omega) (by omega)
  have r4 := hR (2 * q + 1) (by omega) (by omega)
  unfold rankF unlF
  omega
theorem lik_0 (ru : Int → Int) : 1 ≤ likF ru 0 := by
  have e : b2i (unlF ru 0 0 = 0) = 1 := b2i_t (by unfold unlF; omega)
  have h1 := b2i_R (unlF ru 1 0 = 0)
  have h2 := b2i_R (unlF ru 2 0 = 0)
  have h3 := b2i_R (unlF ru 3 0 = 0)
  have s : likF ru 0 = 0 + b2i (unlF ru 0 0 = 0) + b2i (unlF ru 1 0 = 0) + b2i (unlF ru 2 0 = 0) + b2i (unlF ru 3 0 = 0) := rfl
  omega
theorem agr_yes {ru : Int → Int} {i m b n1 : Int} (hi : 0 ≤ i) (ha : (i = 0 ∧ m = 0 ∧ b = 0) ∨ (1 ≤ i ∧ m = likF ru (comF ru (i - 1).toNat) ∧ b = rankF ru (comF ru (i - 1).toNat))) (hn : n1 = likF ru i) (hb : m < n1 ∨ (n1 = m ∧ rankF ru i < b)) : (i + 1 = 0 ∧ n1 = 0 ∧ rankF ru i = 0) ∨ (1 ≤ i + 1 ∧ n1 = likF ru (comF ru (i + 1 - 1).toNat) ∧ rankF ru i = rankF ru (comF ru (i + 1 - 1).toNat)) := by
  right
  have e : comF ru (i + 1 - 1).toNat = i := by
    rw [show i + 1 - 1 = i by omega]
    rcases ha with ⟨e1, e2, e3⟩ | ⟨e1, e2, e3⟩
    · subst e1; rfl
    · rw [comF_s ru e1, if_pos (by omega)]
  rw [e]
  exact ⟨by omega, hn, rfl⟩
theorem agr_no {ru : Int → Int} {i m b n1 : Int} (hi : 0 ≤ i) (ha : (i = 0 ∧ m = 0 ∧ b = 0) ∨ (1 ≤ i ∧ m = likF ru (comF ru (i - 1).toNat) ∧ b = rankF ru (comF ru (i - 1).toNat))) (hn : n1 = likF ru i) (hb : ¬ (m < n1 ∨ (n1 = m ∧ rankF ru i < b))) : (i + 1 = 0 ∧ m = 0 ∧ b = 0) ∨ (1 ≤ i + 1 ∧ m = likF ru (comF ru (i + 1 - 1).toNat) ∧ b = rankF ru (comF ru (i + 1 - 1).toNat)) := by
  right
  have l0 := lik_0 ru
  rcases ha with ⟨e1, e2, e3⟩ | ⟨e1, e2, e3⟩
  · subst e1; omega
  · rw [show i + 1 - 1 = i by omega, comF_s ru e1, if_neg (by omega)]
    exact ⟨by omega, e2, e3⟩
set_option maxRecDepth 20000 in
set_option maxHeartbeats 4000000 in
theorem tX9_agreeOf {l : Launch} {x : Cx} {d : Nat} {w : AW} {fa ru fe : Int → Int} {fc lw : Int} {k0 : Int} (hd : 1 ≤ d) (hM : MoAt w fa ru fe fc lw) (hR : RuOK ru) (hk0 : 0 ≤ k0 ∧ k0 ≤ 2) : Mt l x iX9_agreeOf d 0 0 50 w [vR 32, vI k0] (Rd (vI (if k0 = 0 then 4 - likF ru (comF ru 3) else ru (2 * comF ru 3 + (k0 - 1)))) w) := by
  obtain ⟨⟨fi, by0, a0, nr, le, bs, bl, bp, mn, mo, q32⟩, q39, q40, q41⟩ := hM
  refine Mt.of (L0 := [some (vR 32), some (vI k0), none, none, none, none, none]) rfl rfl rfl ?_
  refine gj_iconst dX9_agreeOf_0 ?_
  refine gj_is2 dX9_agreeOf_1 rfl rfl ?_
  refine gj_iconst dX9_agreeOf_2 ?_
  refine gj_is3 dX9_agreeOf_3 rfl rfl ?_
  refine gj_iconst dX9_agreeOf_4 ?_
  refine gj_is4 dX9_agreeOf_5 rfl rfl ?_
  have loop7 : ∀ (k : Nat), ∀ (m b i : Int), (0 ≤ i ∧ i ≤ 4) → ((i = 0 ∧ m = 0 ∧ b = 0) ∨ (1 ≤ i ∧ m = likF ru (comF ru (i - 1).toNat) ∧ b = rankF ru (comF ru (i - 1).toNat))) → (4 - i).toNat < k → Gj l x iX9_agreeOf d 0 0 50 (Rd (vI (if k0 = 0 then 4 - likF ru (comF ru 3) else ru (2 * comF ru 3 + (k0 - 1)))) w) 0 0 50 w 7 [some (vR 32), some (vI k0), some (vI m), some (vI b), some (vI i), none, none] [] := by
    intro k
    induction k with
    | zero => intro _ _ _ _ _ hm; exact absurd hm (Nat.not_lt_zero _)
    | succ k ih7 =>
      intro m b i  hi ha hm7
      have c9 := comF_in ru (i - 1).toNat
      have c8 := likF_R ru (comF ru (i - 1).toNat)
      have c7 := rankF_R (p := comF ru (i - 1).toNat) hR (by omega)
      refine gj_il4 dX9_agreeOf_7 ?_
      refine gj_iconst dX9_agreeOf_9 ?_
      refine gj_icmp_ge dX9_agreeOf_10 (by omega) (fun h10 => ?_) (fun h10 => ?_)
      · have e3 : m = likF ru (comF ru 3) ∧ b = rankF ru (comF ru 3) := by
          rcases ha with ⟨e1, _, _⟩ | ⟨e1, e2, e3⟩
          · omega
          · rw [show (i - 1).toNat = 3 by omega] at e2 e3; exact ⟨e2, e3⟩
        have r0 := hR (2 * comF ru 3 + 0) (by have := comF_in ru 3; omega) (by have := comF_in ru 3; omega)
        have r1 := hR (2 * comF ru 3 + 1) (by have := comF_in ru 3; omega) (by have := comF_in ru 3; omega)
        have c6 := rankF_R (p := comF ru 3) hR (comF_in ru 3)
        have rk : rankF ru (comF ru 3) = ru (2 * comF ru 3 + 0) * 24 + ru (2 * comF ru 3 + 1) := rfl
        refine gj_il1 dX9_agreeOf_119 ?_
        refine gj_if_ne dX9_agreeOf_120 (by omega) (fun h120 => ?_) (fun h120 => ?_)
        · refine gj_il1 dX9_agreeOf_129 ?_
          refine gj_iconst dX9_agreeOf_130 ?_
          refine gj_icmp_ne dX9_agreeOf_131 (by omega) (fun h131 => ?_) (fun h131 => ?_)
          · refine gj_il3 dX9_agreeOf_141 ?_
            refine gj_bipush dX9_agreeOf_142 rfl ?_
            refine gj_irem dX9_agreeOf_144 (by omega) (by omega) ?_
            exact gj_iret dX9_agreeOf_145 rfl (rd_i (by first | (rw [if_pos (by omega)]; omega) | (rw [if_neg (by omega), show k0 - 1 = 0 by omega]; omega) | (rw [if_neg (by omega), show k0 - 1 = 1 by omega]; omega)))
          · refine gj_il3 dX9_agreeOf_134 ?_
            refine gj_bipush dX9_agreeOf_135 rfl ?_
            refine gj_idiv dX9_agreeOf_137 (by omega) (by omega) ?_
            refine gj_goto dX9_agreeOf_138 ?_
            exact gj_iret dX9_agreeOf_145 rfl (rd_i (by first | (rw [if_pos (by omega)]; omega) | (rw [if_neg (by omega), show k0 - 1 = 0 by omega]; omega) | (rw [if_neg (by omega), show k0 - 1 = 1 by omega]; omega)))
        · refine gj_iconst dX9_agreeOf_123 ?_
          refine gj_il2 dX9_agreeOf_124 ?_
          refine gj_isub dX9_agreeOf_125 ?_
          refine gj_goto dX9_agreeOf_126 ?_
          exact gj_iret dX9_agreeOf_145 rfl (rd_i (by first | (rw [if_pos (by omega)]; omega) | (rw [if_neg (by omega), show k0 - 1 = 0 by omega]; omega) | (rw [if_neg (by omega), show k0 - 1 = 1 by omega]; omega)))
      · refine gj_iconst dX9_agreeOf_13 ?_
        refine gj_is5 dX9_agreeOf_14 rfl rfl ?_
        refine gj_iconst dX9_agreeOf_16 ?_
        refine gj_is6 dX9_agreeOf_17 rfl rfl ?_
        have loop19 : ∀ (k : Nat), ∀ (n1 j : Int), (0 ≤ j ∧ j ≤ 4) → (n1 = sumZ (fun q => b2i (unlF ru q i = 0)) j) → (4 - j).toNat < k → Gj l x iX9_agreeOf d 0 0 50 (Rd (vI (if k0 = 0 then 4 - likF ru (comF ru 3) else ru (2 * comF ru 3 + (k0 - 1)))) w) 0 0 50 w 19 [some (vR 32), some (vI k0), some (vI m), some (vI b), some (vI i), some (vI n1), some (vI j)] [] := by
          intro k
          induction k with
          | zero => intro _ _ _ _ hm; exact absurd hm (Nat.not_lt_zero _)
          | succ k ih19 =>
            intro n1 j  hj hn hm19
            have ss := sumZ_s (fun q => b2i (unlF ru q i = 0)) hj.1
            rw [← hn] at ss
            have k7 := rankF_R (p := i) hR (by omega)
            refine gj_il6 dX9_agreeOf_19 ?_
            refine gj_iconst dX9_agreeOf_21 ?_
            refine gj_icmp_ge dX9_agreeOf_22 (by omega) (fun h22 => ?_) (fun h22 => ?_)
            · have hn4 : n1 = likF ru i := (by rw [hn, show j = 4 by omega]; rfl)
              have k9 := rankF_R (p := i) hR (by omega)
              have k8 := likF_R ru i
              refine gj_il5 dX9_agreeOf_56 ?_
              refine gj_il2 dX9_agreeOf_58 ?_
              refine gj_icmp_gt dX9_agreeOf_59 (by omega) (fun h59 => ?_) (fun h59 => ?_)
              · refine gj_iconst dX9_agreeOf_78 ?_
                refine gj_goto dX9_agreeOf_79 ?_
                refine gj_is6 dX9_agreeOf_83 rfl rfl ?_
                refine gj_il6 dX9_agreeOf_85 ?_
                refine gj_if_eq dX9_agreeOf_87 (by omega) (fun h => absurd h (by omega)) (fun _ => ?_)
                refine gj_al0 dX9_agreeOf_90 ?_
                refine gj_il4 dX9_agreeOf_91 ?_
                refine gj_cV1r dX9_agreeOf_93 mX9_267 hX9_pairOf q32 rfl (by omega) rfl (tX9_pairOf  (by omega) ⟨⟨_, _, _, _, _, _, _, _, _, _, q32⟩, q39, q40, q41⟩ hR (by omega)) ?_
                refine gj_goto dX9_agreeOf_96 ?_
                refine gj_is3 dX9_agreeOf_100 rfl rfl ?_
                refine gj_il6 dX9_agreeOf_101 ?_
                refine gj_if_eq dX9_agreeOf_103 (by omega) (fun h => absurd h (by omega)) (fun _ => ?_)
                refine gj_il5 dX9_agreeOf_106 ?_
                refine gj_goto dX9_agreeOf_108 ?_
                refine gj_is2 dX9_agreeOf_112 rfl rfl ?_
                refine gj_ii4 dX9_agreeOf_113 rfl rfl ?_
                refine gj_goto dX9_agreeOf_116 ?_
                refine gj_dr5 ?_
                refine gj_dr6 ?_
                exact ih7 _ _ _ (by omega) (agr_yes hi.1 ha hn4 (by omega)) (by omega)
              · refine gj_il5 dX9_agreeOf_62 ?_
                refine gj_il2 dX9_agreeOf_64 ?_
                refine gj_icmp_ne dX9_agreeOf_65 (by omega) (fun h65 => ?_) (fun h65 => ?_)
                · refine gj_iconst dX9_agreeOf_82 ?_
                  refine gj_is6 dX9_agreeOf_83 rfl rfl ?_
                  refine gj_il6 dX9_agreeOf_85 ?_
                  refine gj_if_eq dX9_agreeOf_87 (by omega) (fun _ => ?_) (fun h => absurd h (by omega))
                  refine gj_il3 dX9_agreeOf_99 ?_
                  refine gj_is3 dX9_agreeOf_100 rfl rfl ?_
                  refine gj_il6 dX9_agreeOf_101 ?_
                  refine gj_if_eq dX9_agreeOf_103 (by omega) (fun _ => ?_) (fun h => absurd h (by omega))
                  refine gj_il2 dX9_agreeOf_111 ?_
                  refine gj_is2 dX9_agreeOf_112 rfl rfl ?_
                  refine gj_ii4 dX9_agreeOf_113 rfl rfl ?_
                  refine gj_goto dX9_agreeOf_116 ?_
                  refine gj_dr5 ?_
                  refine gj_dr6 ?_
                  exact ih7 _ _ _ (by omega) (agr_no hi.1 ha hn4 (by omega)) (by omega)
                · refine gj_al0 dX9_agreeOf_68 ?_
                  refine gj_il4 dX9_agreeOf_69 ?_
                  refine gj_cV1r dX9_agreeOf_71 mX9_267 hX9_pairOf q32 rfl (by omega) rfl (tX9_pairOf  (by omega) ⟨⟨_, _, _, _, _, _, _, _, _, _, q32⟩, q39, q40, q41⟩ hR (by omega)) ?_
                  refine gj_il3 dX9_agreeOf_74 ?_
                  refine gj_icmp_ge dX9_agreeOf_75 (by omega) (fun h75 => ?_) (fun h75 => ?_)
                  · refine gj_iconst dX9_agreeOf_82 ?_
                    refine gj_is6 dX9_agreeOf_83 rfl rfl ?_
                    refine gj_il6 dX9_agreeOf_85 ?_
                    refine gj_if_eq dX9_agreeOf_87 (by omega) (fun _ => ?_) (fun h => absurd h (by omega))
                    refine gj_il3 dX9_agreeOf_99 ?_
                    refine gj_is3 dX9_agreeOf_100 rfl rfl ?_
                    refine gj_il6 dX9_agreeOf_101 ?_
                    refine gj_if_eq dX9_agreeOf_103 (by omega) (fun _ => ?_) (fun h => absurd h (by omega))
                    refine gj_il2 dX9_agreeOf_111 ?_
                    refine gj_is2 dX9_agreeOf_112 rfl rfl ?_
                    refine gj_ii4 dX9_agreeOf_113 rfl rfl ?_
                    refine gj_goto dX9_agreeOf_116 ?_
                    refine gj_dr5 ?_
                    refine gj_dr6 ?_
                    exact ih7 _ _ _ (by omega) (agr_no hi.1 ha hn4 (by omega)) (by omega)
                  · refine gj_iconst dX9_agreeOf_78 ?_
                    refine gj_goto dX9_agreeOf_79 ?_
                    refine gj_is6 dX9_agreeOf_83 rfl rfl ?_
                    refine gj_il6 dX9_agreeOf_85 ?_
                    refine gj_if_eq dX9_agreeOf_87 (by omega) (fun h => absurd h (by omega)) (fun _ => ?_)
                    refine gj_al0 dX9_agreeOf_90 ?_
                    refine gj_il4 dX9_agreeOf_91 ?_
                    refine gj_cV1r dX9_agreeOf_93 mX9_267 hX9_pairOf q32 rfl (by omega) rfl (tX9_pairOf  (by omega) ⟨⟨_, _, _, _, _, _, _, _, _, _, q32⟩, q39, q40, q41⟩ hR (by omega)) ?_
                    refine gj_goto dX9_agreeOf_96 ?_
                    refine gj_is3 dX9_agreeOf_100 rfl rfl ?_
                    refine gj_il6 dX9_agreeOf_101 ?_
                    refine gj_if_eq dX9_agreeOf_103 (by omega) (fun h => absurd h (by omega)) (fun _ => ?_)
                    refine gj_il5 dX9_agreeOf_106 ?_
                    refine gj_goto dX9_agreeOf_108 ?_
                    refine gj_is2 dX9_agreeOf_112 rfl rfl ?_
                    refine gj_ii4 dX9_agreeOf_113 rfl rfl ?_
                    refine gj_goto dX9_agreeOf_116 ?_
                    refine gj_dr5 ?_
                    refine gj_dr6 ?_
                    exact ih7 _ _ _ (by omega) (agr_yes hi.1 ha hn4 (by omega)) (by omega)
            · refine gj_il5 dX9_agreeOf_25 ?_
              refine gj_al0 dX9_agreeOf_27 ?_
              refine gj_il6 dX9_agreeOf_28 ?_
              refine gj_cV1r dX9_agreeOf_30 mX9_267 hX9_pairOf q32 rfl (by omega) rfl (tX9_pairOf  (by omega) ⟨⟨_, _, _, _, _, _, _, _, _, _, q32⟩, q39, q40, q41⟩ hR (by omega)) ?_
              refine gj_al0 dX9_agreeOf_33 ?_
              refine gj_il4 dX9_agreeOf_34 ?_
              refine gj_cV1r dX9_agreeOf_36 mX9_267 hX9_pairOf q32 rfl (by omega) rfl (tX9_pairOf  (by omega) ⟨⟨_, _, _, _, _, _, _, _, _, _, q32⟩, q39, q40, q41⟩ hR (by omega)) ?_
              have k9 := rankF_R (p := j) hR (by omega)
              refine gj_icmp_ne dX9_agreeOf_39 (by omega) (fun h39 => ?_) (fun h39 => ?_)
              · refine gj_iconst dX9_agreeOf_46 ?_
                refine gj_iadd dX9_agreeOf_47 ?_
                refine gj_is5 dX9_agreeOf_48 rfl rfl ?_
                refine gj_ii6 dX9_agreeOf_50 rfl rfl ?_
                refine gj_goto dX9_agreeOf_53 ?_
                exact ih19 _ _ (by omega) (by rw [ss, b2i_f (fun z => h39 ((rank_unl hR (by omega) (by omega)).mpr z))]) (by omega)
              · refine gj_iconst dX9_agreeOf_42 ?_
                refine gj_goto dX9_agreeOf_43 ?_
                refine gj_iadd dX9_agreeOf_47 ?_
                refine gj_is5 dX9_agreeOf_48 rfl rfl ?_
                refine gj_ii6 dX9_agreeOf_50 rfl rfl ?_
                refine gj_goto dX9_agreeOf_53 ?_
                exact ih19 _ _ (by omega) (by rw [ss, b2i_t ((rank_unl hR (by omega) (by omega)).mp (by omega))]) (by omega)
        exact loop19 _ _ _ (by omega) rfl (Nat.lt_succ_self _)
  exact loop7 _ _ _ _ (by omega) (Or.inl ⟨rfl, rfl, rfl⟩) (Nat.lt_succ_self _)
set_option maxRecDepth 20000 in
set_option maxHeartbeats 4000000 in
theorem tX9_agree {l : Launch} {x : Cx} {d : Nat} {w : AW} {fa ru fe : Int → Int} {fc lw : Int} {k0 : Int} (hd : 2 ≤ d) (hM : MoAt w fa ru fe fc lw) (hR : RuOK ru) (hk0 : R32 k0) : Mt l x iX9_agree d 0 0 50 w [vR 32, vI k0] (Rd (vI (agrA ru k0)) w) := by
  obtain ⟨⟨fi, by0, a0, nr, le, bs, bl, bp, mn, mo, q32⟩, q39, q40, q41⟩ := hM
  refine Mt.of (L0 := [some (vR 32), some (vI k0)]) rfl rfl rfl ?_
  refine gj_il1 dX9_agree_0 ?_
  refine gj_i2l dX9_agree_1 (by omega) ?_
  refine gj_lconst0 dX9_agree_2 ?_
  refine gj_ldc2 dX9_agree_3 kX9_78 ?_
  refine gj_cS3r dX9_agree_6 mX9_65 hX9_in (by omega) rfl (tX9_in  (by omega) (by omega) (by omega) (by omega)) ?_
  refine gj_ifB_eq dX9_agree_9 (fun h9 => ?_) (fun h9 => ?_)
  · refine gj_bipush dX9_agree_20 rfl ?_
    exact gj_iret dX9_agree_22 rfl (rd_i (by unfold agrA; first | (rw [if_pos (show 0 ≤ k0 ∧ k0 ≤ 2 by omega)]) | (rw [if_neg (by omega)])))
  · refine gj_al0 dX9_agree_12 ?_
    refine gj_il1 dX9_agree_13 ?_
    refine gj_cV1r dX9_agree_14 mX9_270 hX9_agreeOf q32 rfl (by omega) rfl (tX9_agreeOf  (by omega) ⟨⟨_, _, _, _, _, _, _, _, _, _, q32⟩, q39, q40, q41⟩ hR (by omega)) ?_
    refine gj_goto dX9_agree_17 ?_
    exact gj_iret dX9_agree_22 rfl (rd_i (by unfold agrA; first | (rw [if_pos (show 0 ≤ k0 ∧ k0 ≤ 2 by omega)]) | (rw [if_neg (by omega)])))
set_option maxRecDepth 20000 in
set_option maxHeartbeats 4000000 in
theorem tX9_changesBy {l : Launch} {x : Cx} {d : Nat} {w : AW} {fa ru fe : Int → Int} {fc lw : Int} {k0 v : Int} (hd : 1 ≤ d) (hM : MoAt w fa ru fe fc lw) (hR : RuOK ru) (hk0 : 0 ≤ k0 ∧ k0 ≤ 1) (hv : 0 ≤ v ∧ v ≤ 23) : Mt l x iX9_changesBy d 0 0 50 w [vR 32, vI k0, vI v] (Rd (vI (chgF ru k0 v)) w) := by
  obtain ⟨⟨fi, by0, a0, nr, le, bs, bl, bp, mn, mo, q32⟩, q39, q40, q41⟩ := hM
  refine Mt.of (L0 := [some (vR 32), some (vI k0), some (vI v), none, none]) rfl rfl rfl ?_
  refine gj_iconst dX9_changesBy_0 ?_
  refine gj_is3 dX9_changesBy_1 rfl rfl ?_
  refine gj_iconst dX9_changesBy_2 ?_
  refine gj_is4 dX9_changesBy_3 rfl rfl ?_
  have loop5 : ∀ (k : Nat), ∀ (a i : Int), (0 ≤ i ∧ i ≤ 4) → (a = sumZ (fun p => max (ru (2 * p + k0) - v) (-(ru (2 * p + k0) - v))) i) → (4 - i).toNat < k → Gj l x iX9_changesBy d 0 0 50 (Rd (vI (chgF ru k0 v)) w) 0 0 50 w 5 [some (vR 32), some (vI k0), some (vI v), some (vI a), some (vI i)] [] := by
    intro k
    induction k with
    | zero => intro _ _ _ _ hm; exact absurd hm (Nat.not_lt_zero _)
    | succ k ih5 =>
      intro a i  hi ha hm5
      refine gj_il4 dX9_changesBy_5 ?_
      refine gj_iconst dX9_changesBy_7 ?_
      refine gj_icmp_ge dX9_changesBy_8 (by omega) (fun h8 => ?_) (fun h8 => ?_)
      · refine gj_il3 dX9_changesBy_36 ?_
        exact gj_iret dX9_changesBy_37 rfl (rd_i (by unfold chgF; rw [ha, show i = 4 by omega]))
      · refine gj_il3 dX9_changesBy_11 ?_
        refine gj_al0 dX9_changesBy_12 ?_
        refine gj_get dX9_changesBy_13 fX9_31 q32 rfl rfl ?_
        refine gj_iconst dX9_changesBy_16 ?_
        refine gj_il4 dX9_changesBy_17 ?_
        refine gj_imul dX9_changesBy_19 ?_
        refine gj_il1 dX9_changesBy_20 ?_
        refine gj_iadd dX9_changesBy_21 ?_
        refine gj_iald dX9_changesBy_22 q40 rfl rfl (by omega) ?_
        refine gj_il2 dX9_changesBy_23 ?_
        refine gj_isub dX9_changesBy_24 ?_
        have r9 := hR (2 * i + k0) (by omega) (by omega)
        refine gj_cS1r dX9_changesBy_25 mX9_273 hX9_amount (by omega) rfl (tX9_amount  (by omega) (by omega)) ?_
        refine gj_iadd dX9_changesBy_28 ?_
        refine gj_is3 dX9_changesBy_29 rfl rfl ?_
        refine gj_ii4 dX9_changesBy_30 rfl rfl ?_
        refine gj_goto dX9_changesBy_33 ?_
        exact ih5 _ _ (by omega) (by rw [sumZ_s _ hi.1, ha]) (by omega)
  exact loop5 _ _ _ (by omega) rfl (Nat.lt_succ_self _)
set_option maxRecDepth 20000 in
set_option maxHeartbeats 4000000 in
theorem tX9_middleBell {l : Launch} {x : Cx} {d : Nat} {w : AW} {fa ru fe : Int → Int} {fc lw : Int} {k0 : Int} (hd : 2 ≤ d) (hM : MoAt w fa ru fe fc lw) (hR : RuOK ru) (hk0 : 0 ≤ k0 ∧ k0 ≤ 1) : Mt l x iX9_middleBell d 0 0 50 w [vR 32, vI k0] (Rd (vI (midF ru k0)) w) := by
  obtain ⟨⟨fi, by0, a0, nr, le, bs, bl, bp, mn, mo, q32⟩, q39, q40, q41⟩ := hM
  refine Mt.of (L0 := [some (vR 32), some (vI k0), none, none]) rfl rfl rfl ?_
  refine gj_iconst dX9_middleBell_0 ?_
  refine gj_is2 dX9_middleBell_1 rfl rfl ?_
  refine gj_iconst dX9_middleBell_2 ?_
  refine gj_is3 dX9_middleBell_3 rfl rfl ?_
  have loop4 : ∀ (k : Nat), ∀ (a i : Int), (1 ≤ i ∧ i ≤ 24) → (a = argl (chgF ru k0) (i - 1).toNat) → (24 - i).toNat < k → Gj l x iX9_middleBell d 0 0 50 (Rd (vI (midF ru k0)) w) 0 0 50 w 4 [some (vR 32), some (vI k0), some (vI a), some (vI i)] [] := by
    intro k
    induction k with
    | zero => intro _ _ _ _ hm; exact absurd hm (Nat.not_lt_zero _)
    | succ k ih4 =>
      intro a i  hi ha hm4
      have hc := argl_in (chgF ru k0) (i - 1).toNat
      have hcs := argl_s (chgF ru k0) hi.1
      rw [← ha] at hc hcs
      refine gj_il3 dX9_middleBell_4 ?_
      refine gj_bipush dX9_middleBell_5 rfl ?_
      refine gj_icmp_ge dX9_middleBell_7 (by omega) (fun h7 => ?_) (fun h7 => ?_)
      · refine gj_il2 dX9_middleBell_37 ?_
        exact gj_iret dX9_middleBell_38 rfl (rd_i (by unfold midF; rw [ha, show (i - 1).toNat = 23 by omega]))
      · refine gj_al0 dX9_middleBell_10 ?_
        refine gj_il1 dX9_middleBell_11 ?_
        refine gj_il3 dX9_middleBell_12 ?_
        refine gj_cV2r dX9_middleBell_13 mX9_276 hX9_changesBy q32 rfl (by omega) rfl (tX9_changesBy  (by omega) ⟨⟨_, _, _, _, _, _, _, _, _, _, q32⟩, q39, q40, q41⟩ hR (by omega) (by omega)) ?_
        refine gj_al0 dX9_middleBell_16 ?_
        refine gj_il1 dX9_middleBell_17 ?_
        refine gj_il2 dX9_middleBell_18 ?_
        refine gj_cV2r dX9_middleBell_19 mX9_276 hX9_changesBy q32 rfl (by omega) rfl (tX9_changesBy  (by omega) ⟨⟨_, _, _, _, _, _, _, _, _, _, q32⟩, q39, q40, q41⟩ hR (by omega) (by omega)) ?_
        have k1 := chgF_R (v := i) hR hk0 (by omega)
        have k2 := chgF_R (v := a) hR hk0 (by omega)
        refine gj_icmp_ge dX9_middleBell_22 (by omega) (fun h22 => ?_) (fun h22 => ?_)
        · refine gj_il2 dX9_middleBell_29 ?_
          refine gj_is2 dX9_middleBell_30 rfl rfl ?_
          refine gj_ii3 dX9_middleBell_31 rfl rfl ?_
          refine gj_goto dX9_middleBell_34 ?_
          exact ih4 _ _ (by omega) (by rw [show i + 1 - 1 = i by omega, hcs, if_neg (by omega)]) (by omega)
        · refine gj_il3 dX9_middleBell_25 ?_
          refine gj_goto dX9_middleBell_26 ?_
          refine gj_is2 dX9_middleBell_30 rfl rfl ?_
          refine gj_ii3 dX9_middleBell_31 rfl rfl ?_
          refine gj_goto dX9_middleBell_34 ?_
          exact ih4 _ _ (by omega) (by rw [show i + 1 - 1 = i by omega, hcs, if_pos (by omega)]) (by omega)
  exact loop4 _ _ _ (by omega) rfl (Nat.lt_succ_self _)
set_option maxRecDepth 20000 in
set_option maxHeartbeats 4000000 in
theorem tX9_middleOf {l : Launch} {x : Cx} {d : Nat} {w : AW} {fa ru fe : Int → Int} {fc lw : Int} {k0 : Int} (hd : 3 ≤ d) (hM : MoAt w fa ru fe fc lw) (hR : RuOK ru) (hk0 : 0 ≤ k0 ∧ k0 ≤ 2) : Mt l x iX9_middleOf d 0 0 50 w [vR 32, vI k0] (Rd (vI (if k0 = 0 then chgF ru 0 (midF ru 0) + chgF ru 1 (midF ru 1) else if k0 = 1 then midF ru 0 else midF ru 1)) w) := by
  obtain ⟨⟨fi, by0, a0, nr, le, bs, bl, bp, mn, mo, q32⟩, q39, q40, q41⟩ := hM
  have c8 : 0 ≤ midF ru 0 ∧ midF ru 0 ≤ 23 := argl_in (chgF ru 0) 23
  have c9 : 0 ≤ midF ru 1 ∧ midF ru 1 ≤ 23 := argl_in (chgF ru 1) 23
  refine Mt.of (L0 := [some (vR 32), some (vI k0), none, none]) rfl rfl rfl ?_
  refine gj_al0 dX9_middleOf_0 ?_
  refine gj_iconst dX9_middleOf_1 ?_
  refine gj_cV1r dX9_middleOf_2 mX9_279 hX9_middleBell q32 rfl (by omega) rfl (tX9_middleBell  (by omega) ⟨⟨_, _, _, _, _, _, _, _, _, _, q32⟩, q39, q40, q41⟩ hR (by omega)) ?_
  refine gj_is2 dX9_middleOf_5 rfl rfl ?_
  refine gj_al0 dX9_middleOf_6 ?_
  refine gj_iconst dX9_middleOf_7 ?_
  refine gj_cV1r dX9_middleOf_8 mX9_279 hX9_middleBell q32 rfl (by omega) rfl (tX9_middleBell  (by omega) ⟨⟨_, _, _, _, _, _, _, _, _, _, q32⟩, q39, q40, q41⟩ hR (by omega)) ?_
  refine gj_is3 dX9_middleOf_11 rfl rfl ?_
  refine gj_il1 dX9_middleOf_12 ?_
  refine gj_if_ne dX9_middleOf_13 (by omega) (fun h13 => ?_) (fun h13 => ?_)
  · refine gj_il1 dX9_middleOf_32 ?_
    refine gj_iconst dX9_middleOf_33 ?_
    refine gj_icmp_ne dX9_middleOf_34 (by omega) (fun h34 => ?_) (fun h34 => ?_)
    · refine gj_il3 dX9_middleOf_41 ?_
      exact gj_iret dX9_middleOf_42 rfl (rd_i (by first | (rw [if_pos (by omega)]) | (rw [if_neg (by omega), if_pos (by omega)]) | (rw [if_neg (by omega), if_neg (by omega)])))
    · refine gj_il2 dX9_middleOf_37 ?_
      refine gj_goto dX9_middleOf_38 ?_
      exact gj_iret dX9_middleOf_42 rfl (rd_i (by first | (rw [if_pos (by omega)]) | (rw [if_neg (by omega), if_pos (by omega)]) | (rw [if_neg (by omega), if_neg (by omega)])))
  · refine gj_al0 dX9_middleOf_16 ?_
    refine gj_iconst dX9_middleOf_17 ?_
    refine gj_il2 dX9_middleOf_18 ?_
    refine gj_cV2r dX9_middleOf_19 mX9_276 hX9_changesBy q32 rfl (by omega) rfl (tX9_changesBy  (by omega) ⟨⟨_, _, _, _, _, _, _, _, _, _, q32⟩, q39, q40, q41⟩ hR (by omega) (by omega)) ?_
    refine gj_al0 dX9_middleOf_22 ?_
    refine gj_iconst dX9_middleOf_23 ?_
    refine gj_il3 dX9_middleOf_24 ?_
    refine gj_cV2r dX9_middleOf_25 mX9_276 hX9_changesBy q32 rfl (by omega) rfl (tX9_changesBy  (by omega) ⟨⟨_, _, _, _, _, _, _, _, _, _, q32⟩, q39, q40, q41⟩ hR (by omega) (by omega)) ?_
    refine gj_iadd dX9_middleOf_28 ?_
    refine gj_goto dX9_middleOf_29 ?_
    exact gj_iret dX9_middleOf_42 rfl (rd_i (by first | (rw [if_pos (by omega)]) | (rw [if_neg (by omega), if_pos (by omega)]) | (rw [if_neg (by omega), if_neg (by omega)])))
set_option maxRecDepth 20000 in
set_option maxHeartbeats 4000000 in
theorem tX9_middle {l : Launch} {x : Cx} {d : Nat} {w : AW} {fa ru fe : Int → Int} {fc lw : Int} {k0 : Int} (hd : 4 ≤ d) (hM : MoAt w fa ru fe fc lw) (hR : RuOK ru) (hk0 : R32 k0) : Mt l x iX9_middle d 0 0 50 w [vR 32, vI k0] (Rd (vI (midA ru k0)) w) := by
  obtain ⟨⟨fi, by0, a0, nr, le, bs, bl, bp, mn, mo, q32⟩, q39, q40, q41⟩ := hM
  refine Mt.of (L0 := [some (vR 32), some (vI k0)]) rfl rfl rfl ?_
  refine gj_il1 dX9_middle_0 ?_
  refine gj_i2l dX9_middle_1 (by omega) ?_
  refine gj_lconst0 dX9_middle_2 ?_
  refine gj_ldc2 dX9_middle_3 kX9_78 ?_
  refine gj_cS3r dX9_middle_6 mX9_65 hX9_in (by omega) rfl (tX9_in  (by omega) (by omega) (by omega) (by omega)) ?_
  refine gj_ifB_eq dX9_middle_9 (fun h9 => ?_) (fun h9 => ?_)
  · refine gj_bipush dX9_middle_20 rfl ?_
    exact gj_iret dX9_middle_22 rfl (rd_i (by unfold midA; first | (rw [if_pos (show 0 ≤ k0 ∧ k0 ≤ 2 by omega)]) | (rw [if_neg (by omega)])))
  · refine gj_al0 dX9_middle_12 ?_
    refine gj_il1 dX9_middle_13 ?_
    refine gj_cV1r dX9_middle_14 mX9_282 hX9_middleOf q32 rfl (by omega) rfl (tX9_middleOf  (by omega) ⟨⟨_, _, _, _, _, _, _, _, _, _, q32⟩, q39, q40, q41⟩ hR (by omega)) ?_
    refine gj_goto dX9_middle_17 ?_
    exact gj_iret dX9_middle_22 rfl (rd_i (by unfold midA; first | (rw [if_pos (show 0 ≤ k0 ∧ k0 ≤ 2 by omega)]) | (rw [if_neg (by omega)])))
set_option maxRecDepth 20000 in
set_option maxHeartbeats 4000000 in
theorem tX9_falls {l : Launch} {x : Cx} {d : Nat} {w : AW} {fa ru fe : Int → Int} {fi by0 a0 nr fc lw le bs bl bp mn mo : Int} {se : Int → Int} {l0 h st m : Int} (hd : 3 ≤ d) (q32 : w 32 = (oM fi by0 a0 nr fc lw le bs bl bp mn mo)) (q39 : w 39 = cI 24 fa) (q40 : w 40 = cI 8 ru) (q41 : w 41 = cI 8 fe) (q42 : w 42 = cI 2 se) (hO : MoOK fa ru fe fc lw) (hs : 0 ≤ se 0 ∧ se 0 ≤ 99) (hl0 : 0 ≤ l0 ∧ l0 ≤ 7) (hh : 0 ≤ h ∧ h ≤ 671) (hst : 1 ≤ st ∧ st ≤ 999) (hm : 0 ≤ m ∧ m ≤ 99) : Mt l x iX9_falls d 0 0 50 w [vR 32, vI l0, vI h, vI st, vI m] (Wr (vI (bat (warB lw fa ru fe fc) (se 0) m st l0 h st).1) (fun w2 => w2 = upw w 32 (oM fi by0 a0 nr fc lw (bat (warB lw fa ru fe fc) (se 0) m st l0 h st).2 bs bl bp mn mo))) := by
  refine Mt.of (L0 := [some (vR 32), some (vI l0), some (vI h), some (vI st), some (vI m), none]) rfl rfl rfl ?_
  refine gj_al0 dX9_falls_0 ?_
  refine gj_il3 dX9_falls_1 ?_
  refine gj_pI17 dX9_falls_2 fX9_219 q32 rfl ?_
  refine gj_il2 dX9_falls_5 ?_
  refine gj_is5 dX9_falls_6 rfl rfl ?_
  have loop8 : ∀ (k : Nat), ∀ (now i : Int), (0 ≤ i ∧ i ≤ 672) → (0 ≤ now ∧ now ≤ 999) → (bat (warB lw fa ru fe fc) (se 0) m st l0 i now = (bat (warB lw fa ru fe fc) (se 0) m st l0 h st)) → (672 - i).toNat < k → Gj l x iX9_falls d 0 0 50 (Wr (vI (bat (warB lw fa ru fe fc) (se 0) m st l0 h st).1) (fun w2 => w2 = upw w 32 (oM fi by0 a0 nr fc lw (bat (warB lw fa ru fe fc) (se 0) m st l0 h st).2 bs bl bp mn mo))) 0 0 50 (upw w 32 (oM fi by0 a0 nr fc lw now bs bl bp mn mo)) 8 [some (vR 32), some (vI l0), some (vI h), some (vI st), some (vI m), some (vI i)] [] := by
    intro k
    induction k with
    | zero => intro _ _ _ _ _ hm; exact absurd hm (Nat.not_lt_zero _)
    | succ k ih8 =>
      intro now i  hi hn ha hm8
      refine gj_il5 dX9_falls_8 ?_
      refine gj_sipush dX9_falls_10 rfl ?_
      refine gj_icmp_ge dX9_falls_13 (by omega) (fun h13 => ?_) (fun h13 => ?_)
      · refine gj_iconst dX9_falls_76 ?_
        exact gj_iret dX9_falls_77 rfl (wr_i (by rw [← ha, bat_end (by omega)]) (by rw [← ha, bat_end (by omega)]))
      · refine gj_al0 dX9_falls_16 ?_
        refine gj_al0 dX9_falls_17 ?_
        refine gj_il5 dX9_falls_18 ?_
        refine gj_il1 dX9_falls_20 ?_
        refine gj_cV2r dX9_falls_21 mX9_169 hX9_isWar upw_s rfl (by omega) rfl (tX9_isWar  (by omega) ⟨⟨_, _, _, _, _, _, _, _, _, _, upw_s⟩, (upw_o (by decide) q39), (upw_o (by decide) q40), (upw_o (by decide) q41)⟩ hO (by omega) (by omega)) ?_
        refine gj_ifB_eq dX9_falls_24 (fun h24 => ?_) (fun h24 => ?_)
        · refine gj_al0 dX9_falls_41 ?_
          refine gj_get dX9_falls_42 fX9_219 upw_s rfl rfl ?_
          refine gj_il4 dX9_falls_45 ?_
          refine gj_iadd dX9_falls_47 ?_
          refine gj_il3 dX9_falls_48 ?_
          refine gj_cS2r dX9_falls_49 mX9_140 hX9_lesser (by omega) rfl (tX9_lesser  (by omega) (by omega) (by omega)) ?_
          refine gj_pI17 dX9_falls_52 fX9_219 upw_s rfl ?_
          refine gj_al0 dX9_falls_55 ?_
          refine gj_get dX9_falls_56 fX9_219 upw_s rfl rfl ?_
          refine gj_if_gt dX9_falls_59 (by omega) (fun h59 => ?_) (fun h59 => ?_)
          · refine gj_ii5 dX9_falls_70 rfl rfl ?_
            refine gj_goto dX9_falls_73 ?_
            rw [upw_upw]
            exact ih8 _ _ (by omega) (by omega) (by rw [← ha, bat_s (h := i) (nw := min (now + m) st) (by omega) (by rw [if_neg h24, Int.min_comm]), if_neg (by omega)]) (by omega)
          · refine gj_al0 dX9_falls_62 ?_
            refine gj_iconst dX9_falls_63 ?_
            refine gj_pI17 dX9_falls_64 fX9_219 upw_s rfl ?_
            refine gj_il5 dX9_falls_67 ?_
            exact gj_iret dX9_falls_69 rfl (wr_i (by rw [← ha, bat_s (h := i) (nw := min (now + m) st) (by omega) (by rw [if_neg h24, Int.min_comm]), if_pos (by omega)]) (by rw [← ha, bat_s (h := i) (nw := min (now + m) st) (by omega) (by rw [if_neg h24, Int.min_comm]), if_pos (by omega), upw_upw, upw_upw]))
        · refine gj_al0 dX9_falls_27 ?_
          refine gj_get dX9_falls_28 fX9_219 upw_s rfl rfl ?_
          refine gj_al0 dX9_falls_31 ?_
          refine gj_get dX9_falls_32 fX9_37 upw_s rfl rfl ?_
          refine gj_iconst dX9_falls_35 ?_
          refine gj_iald dX9_falls_36 (upw_o (by decide) q42) rfl rfl (by omega) ?_
          refine gj_isub dX9_falls_37 ?_
          refine gj_goto dX9_falls_38 ?_
          refine gj_pI17 dX9_falls_52 fX9_219 upw_s rfl ?_
          refine gj_al0 dX9_falls_55 ?_
          refine gj_get dX9_falls_56 fX9_219 upw_s rfl rfl ?_
          refine gj_if_gt dX9_falls_59 (by omega) (fun h59 => ?_) (fun h59 => ?_)
          · refine gj_ii5 dX9_falls_70 rfl rfl ?_
            refine gj_goto dX9_falls_73 ?_
            rw [upw_upw]
            exact ih8 _ _ (by omega) (by omega) (by rw [← ha, bat_s (h := i) (nw := now - se 0) (by omega) (by rw [if_pos h24]), if_neg (by omega)]) (by omega)
          · refine gj_al0 dX9_falls_62 ?_
            refine gj_iconst dX9_falls_63 ?_
            refine gj_pI17 dX9_falls_64 fX9_219 upw_s rfl ?_
            refine gj_il5 dX9_falls_67 ?_
            exact gj_iret dX9_falls_69 rfl (wr_i (by rw [← ha, bat_s (h := i) (nw := now - se 0) (by omega) (by rw [if_pos h24]), if_pos (by omega)]) (by rw [← ha, bat_s (h := i) (nw := now - se 0) (by omega) (by rw [if_pos h24]), if_pos (by omega), upw_upw, upw_upw]))
  exact loop8 _ _ _ (by omega) (by omega) rfl (Nat.lt_succ_self _)
set_option maxRecDepth 20000 in
set_option maxHeartbeats 4000000 in
theorem tX9_siegeOf {l : Launch} {x : Cx} {d : Nat} {w : AW} {fa ru fe : Int → Int} {fi by0 a0 nr fc lw le bs bl bp mn mo : Int} {se : Int → Int} {l0 h st k0 : Int} (hd : 4 ≤ d) (q32 : w 32 = (oM fi by0 a0 nr fc lw le bs bl bp mn mo)) (q39 : w 39 = cI 24 fa) (q40 : w 40 = cI 8 ru) (q41 : w 41 = cI 8 fe) (q42 : w 42 = cI 2 se) (hO : MoOK fa ru fe fc lw) (hs : 0 ≤ se 0 ∧ se 0 ≤ 99) (hl0 : 0 ≤ l0 ∧ l0 ≤ 7) (hh : 0 ≤ h ∧ h ≤ 671) (hst : 1 ≤ st ∧ st ≤ 999) (hm : 0 ≤ se 1 ∧ se 1 ≤ 99) (hk0 : R32 k0) : Mt l x iX9_siegeOf d 0 0 50 w [vR 32, vI l0, vI h, vI st, vI k0] (Wr (vI (if k0 = 0 then (bat (warB lw fa ru fe fc) (se 0) (se 1) st l0 h st).1 else (bat (warB lw fa ru fe fc) (se 0) (se 1) st l0 h st).2)) (fun w2 => w2 = upw w 32 (oM fi by0 a0 nr fc lw (bat (warB lw fa ru fe fc) (se 0) (se 1) st l0 h st).2 bs bl bp mn mo))) := by
  refine Mt.of (L0 := [some (vR 32), some (vI l0), some (vI h), some (vI st), some (vI k0), none]) rfl rfl rfl ?_
  refine gj_al0 dX9_siegeOf_0 ?_
  refine gj_il1 dX9_siegeOf_1 ?_
  refine gj_il2 dX9_siegeOf_2 ?_
  refine gj_il3 dX9_siegeOf_3 ?_
  refine gj_al0 dX9_siegeOf_4 ?_
  refine gj_get dX9_siegeOf_5 fX9_37 q32 rfl rfl ?_
  refine gj_iconst dX9_siegeOf_8 ?_
  refine gj_iald dX9_siegeOf_9 q42 rfl rfl (by omega) ?_
  refine gj_cV4w dX9_siegeOf_10 mX9_222 hX9_falls q32 rfl (by omega) rfl (tX9_falls  (by omega) q32 q39 q40 q41 q42 hO (by omega) (by omega) (by omega) (by omega) (by omega)) (fun w10 P10 => ?_)
  obtain rfl := P10
  refine gj_is5 dX9_siegeOf_13 rfl rfl ?_
  refine gj_il4 dX9_siegeOf_15 ?_
  refine gj_if_ne dX9_siegeOf_17 (by omega) (fun h17 => ?_) (fun h17 => ?_)
  · refine gj_al0 dX9_siegeOf_25 ?_
    refine gj_get dX9_siegeOf_26 fX9_219 upw_s rfl rfl ?_
    exact gj_iret dX9_siegeOf_29 rfl (wr_i (by first | (rw [if_pos (by omega)]) | (rw [if_neg (by omega)])) rfl)
  · refine gj_il5 dX9_siegeOf_20 ?_
    refine gj_goto dX9_siegeOf_22 ?_
    exact gj_iret dX9_siegeOf_29 rfl (wr_i (by first | (rw [if_pos (by omega)]) | (rw [if_neg (by omega)])) rfl)
set_option maxRecDepth 20000 in
set_option maxHeartbeats 4000000 in
theorem tX9_holdsBy {l : Launch} {x : Cx} {d : Nat} {w : AW} {fa ru fe : Int → Int} {fi by0 a0 nr fc lw le bs bl bp mn mo : Int} {se : Int → Int} {l0 h st : Int} (hd : 4 ≤ d) (q32 : w 32 = (oM fi by0 a0 nr fc lw le bs bl bp mn mo)) (q39 : w 39 = cI 24 fa) (q40 : w 40 = cI 8 ru) (q41 : w 41 = cI 8 fe) (q42 : w 42 = cI 2 se) (hO : MoOK fa ru fe fc lw) (hs : 0 ≤ se 0 ∧ se 0 ≤ 99) (hl0 : 0 ≤ l0 ∧ l0 ≤ 7) (hh : 0 ≤ h ∧ h ≤ 671) (hst : 1 ≤ st ∧ st ≤ 999) : Mt l x iX9_holdsBy d 0 0 50 w [vR 32, vI l0, vI h, vI st] (Wr (vI (hldF (warB lw fa ru fe fc) (se 0) st l0 h)) (fun w2 => ∃ z : Int, w2 = upw w 32 (oM fi by0 a0 nr fc lw z bs bl bp mn mo))) := by
  refine Mt.of (L0 := [some (vR 32), some (vI l0), some (vI h), some (vI st), none]) rfl rfl rfl ?_
  refine gj_iconst dX9_holdsBy_0 ?_
  refine gj_is4 dX9_holdsBy_1 rfl rfl ?_
  refine gj_eq rfl rfl (show w = upw w 32 (oM fi by0 a0 nr fc lw le bs bl bp mn mo) from (upw_same q32).symm) ?_
  have loop3 : ∀ (k : Nat), ∀ (z i : Int), (0 ≤ i ∧ i ≤ 100) → (fstZ (hldB (warB lw fa ru fe fc) (se 0) st l0 h) i 100 = hldF (warB lw fa ru fe fc) (se 0) st l0 h) → (100 - i).toNat < k → Gj l x iX9_holdsBy d 0 0 50 (Wr (vI (hldF (warB lw fa ru fe fc) (se 0) st l0 h)) (fun w2 => ∃ z : Int, w2 = upw w 32 (oM fi by0 a0 nr fc lw z bs bl bp mn mo))) 0 0 50 (upw w 32 (oM fi by0 a0 nr fc lw z bs bl bp mn mo)) 3 [some (vR 32), some (vI l0), some (vI h), some (vI st), some (vI i)] [] := by
    intro k
    induction k with
    | zero => intro _ _ _ _ hm; exact absurd hm (Nat.not_lt_zero _)
    | succ k ih3 =>
      intro z i  hi ha hm3
      refine gj_il4 dX9_holdsBy_3 ?_
      refine gj_bipush dX9_holdsBy_5 rfl ?_
      refine gj_icmp_ge dX9_holdsBy_7 (by omega) (fun h7 => ?_) (fun h7 => ?_)
      · refine gj_iconst dX9_holdsBy_32 ?_
        exact gj_iret dX9_holdsBy_33 rfl (wr_i (by rw [← ha, fstZ_end (by omega)]) ⟨_, rfl⟩)
      · refine gj_al0 dX9_holdsBy_10 ?_
        refine gj_il1 dX9_holdsBy_11 ?_
        refine gj_il2 dX9_holdsBy_12 ?_
        refine gj_il3 dX9_holdsBy_13 ?_
        refine gj_il4 dX9_holdsBy_14 ?_
        refine gj_cV4w dX9_holdsBy_16 mX9_222 hX9_falls upw_s rfl (by omega) rfl (tX9_falls  (by omega) upw_s (upw_o (by decide) q39) (upw_o (by decide) q40) (upw_o (by decide) q41) (upw_o (by decide) q42) hO (by omega) (by omega) (by omega) (by omega) (by omega)) (fun w16 P16 => ?_)
        obtain rfl := P16
        refine gj_iconst dX9_holdsBy_19 ?_
        have bb := (bat_R (W := (warB lw fa ru fe fc)) (br := se 0) (m := i) (st := st) (l0 := l0) hs (by omega) (by omega) _ h st rfl (by omega) (by omega)).1
        refine gj_icmp_ne dX9_holdsBy_20 (by omega) (fun h20 => ?_) (fun h20 => ?_)
        · refine gj_ii4 dX9_holdsBy_26 rfl rfl ?_
          refine gj_goto dX9_holdsBy_29 ?_
          rw [upw_upw]
          exact ih3 _ _ (by omega) (by rw [← ha, ← fstZ_no (by omega) (by rw [hldB_f h20]; decide)]) (by omega)
        · refine gj_il4 dX9_holdsBy_23 ?_
          exact gj_iret dX9_holdsBy_25 rfl (wr_i (by rw [← ha, fstZ_yes (by omega) (hldB_t (by omega))]) ⟨_, by rw [upw_upw]⟩)
  exact loop3 _ le 0 (by omega) rfl (Nat.lt_succ_self _)
theorem sumZ_plus (f g : Int → Int) {n : Int} (hn : 0 ≤ n) : sumZ (fun i => f i + g i) n = sumZ f n + sumZ g n := by
  have : ∀ k : Nat, sumZ (fun i => f i + g i) (k : Int) = sumZ f (k : Int) + sumZ g (k : Int) := by
    intro k
    induction k with
    | zero => rfl
    | succ k ih =>
      rw [show ((k + 1 : Nat) : Int) = (k : Int) + 1 by omega, sumZ_s _ (by omega), sumZ_s _ (by omega), sumZ_s _ (by omega), ih]
      omega
  have h := this n.toNat
  rw [show ((n.toNat : Nat) : Int) = n by omega] at h
  exact h
theorem sumZ_zero {f : Int → Int} {n : Int} (hn : 0 ≤ n) (h : ∀ i : Int, 0 ≤ i → i < n → f i = 0) : sumZ f n = 0 := by
  have := sumZ_bd (f := f) (a := 0) (b := 0) hn (fun i a b => by rw [h i a b]; omega)
  omega
theorem season_week (W : Int → Int → Bool) {k m l0 : Int} (hm : 7 * k ≤ m ∧ m < 7 * k + 7) : sumZ (fun i => b2i (¬ (168 * k + i) / 24 = m ∧ W (168 * k + i) l0 = true)) 168 = leftF W k l0 - dayF W m l0 := by
  have h1 := sumZ_plus (fun i => b2i (¬ (168 * k + i) / 24 = m ∧ W (168 * k + i) l0 = true)) (fun i => b2i ((168 * k + i) / 24 = m ∧ W (168 * k + i) l0 = true)) (n := 168) (by omega)
  have h2 : sumZ (fun i => b2i (¬ (168 * k + i) / 24 = m ∧ W (168 * k + i) l0 = true) + b2i ((168 * k + i) / 24 = m ∧ W (168 * k + i) l0 = true)) 168 = leftF W k l0 := by
    unfold leftF
    refine sumZ_congr (fun i _ _ => ?_)
    by_cases a : (168 * k + i) / 24 = m <;> by_cases b : W (168 * k + i) l0 = true <;> unfold b2i <;> simp [a, b]
  have h3 : sumZ (fun i => b2i ((168 * k + i) / 24 = m ∧ W (168 * k + i) l0 = true)) 168 = dayF W m l0 := by
    rw [show (168 : Int) = 24 * (m - 7 * k) + (24 + (168 - 24 - 24 * (m - 7 * k))) by omega, sumZ_add _ (by omega) (by omega), sumZ_add _ (by omega) (by omega), sumZ_zero (n := 24 * (m - 7 * k)) (by omega) (fun i _ _ => b2i_f (by omega)), sumZ_zero (n := 168 - 24 - 24 * (m - 7 * k)) (by omega) (fun i _ _ => b2i_f (by omega)), Int.zero_add, Int.add_zero]
    unfold dayF
    refine sumZ_congr (fun i _ _ => ?_)
    rw [show (24 * (m - 7 * k) + (24 + (168 - 24 - 24 * (m - 7 * k)))) * k + (24 * (m - 7 * k) + i) = 24 * m + i by rw [show 24 * (m - 7 * k) + (24 + (168 - 24 - 24 * (m - 7 * k))) = (168 : Int) by omega]; omega]
    exact b2i_iff ⟨fun z => z.2, fun z => ⟨by omega, z⟩⟩
  rw [h2, h3] at h1
  omega
set_option maxRecDepth 20000 in
set_option maxHeartbeats 4000000 in
theorem tX9_seasonOf {l : Launch} {x : Cx} {d : Nat} {w : AW} {fa ru fe : Int → Int} {fi by0 a0 nr fc lw le bs bl bp mn mo : Int} {sd l0 : Int} (hd : 3 ≤ d) (q32 : w 32 = (oM fi by0 a0 nr fc lw le bs bl bp mn mo)) (q39 : w 39 = cI 24 fa) (q40 : w 40 = cI 8 ru) (q41 : w 41 = cI 8 fe) (hO : MoOK fa ru fe fc lw) (hl0 : 0 ≤ l0 ∧ l0 ≤ 7) : Mt l x iX9_seasonOf d 0 0 50 w [vR 32, vI sd, vI l0] (Wr (vI (seasF (warB lw fa ru fe fc) sd l0)) (fun w2 => ∃ z : Int, w2 = upw w 32 (oM fi by0 a0 nr fc lw le bs bl bp mn z))) := by
  refine Mt.of (L0 := [some (vR 32), some (vI sd), some (vI l0), none, none, none, none]) rfl rfl rfl ?_
  refine gj_il1 dX9_seasonOf_0 ?_
  refine gj_is3 dX9_seasonOf_1 rfl rfl ?_
  refine gj_iconst dX9_seasonOf_2 ?_
  refine gj_is4 dX9_seasonOf_3 rfl rfl ?_
  refine gj_iconst dX9_seasonOf_5 ?_
  refine gj_is5 dX9_seasonOf_6 rfl rfl ?_
  refine gj_eq rfl rfl (show w = upw w 32 (oM fi by0 a0 nr fc lw le bs bl bp mn mo) from (upw_same q32).symm) ?_
  have loop8 : ∀ (k : Nat), ∀ (lt a c z : Int), (0 ≤ c ∧ c ≤ 4) → (a = sumZ (fun k => leftF (warB lw fa ru fe fc) k l0 - dayF (warB lw fa ru fe fc) (k * 7 + bUshr (lotF sd (k.toNat + 1)) 16 % 7) l0) c) → (lt = lotF sd c.toNat) → (4 - c).toNat < k → Gj l x iX9_seasonOf d 0 0 50 (Wr (vI (seasF (warB lw fa ru fe fc) sd l0)) (fun w2 => ∃ z : Int, w2 = upw w 32 (oM fi by0 a0 nr fc lw le bs bl bp mn z))) 0 0 50 (upw w 32 (oM fi by0 a0 nr fc lw le bs bl bp mn z)) 8 [some (vR 32), some (vI sd), some (vI l0), some (vI lt), some (vI a), some (vI c), none] [] := by
    intro k
    induction k with
    | zero => intro _ _ _ _ _ _ _ hm; exact absurd hm (Nat.not_lt_zero _)
    | succ k ih8 =>
      intro lt a c z  hi ha hlt hm8
      refine gj_il5 dX9_seasonOf_8 ?_
      refine gj_iconst dX9_seasonOf_10 ?_
      refine gj_icmp_ge dX9_seasonOf_11 (by omega) (fun h11 => ?_) (fun h11 => ?_)
      · refine gj_il4 dX9_seasonOf_108 ?_
        exact gj_iret dX9_seasonOf_110 rfl (wr_i (by unfold seasF; rw [ha, show c = 4 by omega]) ⟨_, rfl⟩)
      · refine gj_ldcw dX9_seasonOf_14 kX9_291 ?_
        refine gj_il3 dX9_seasonOf_17 ?_
        refine gj_imul dX9_seasonOf_18 ?_
        refine gj_sipush dX9_seasonOf_19 rfl ?_
        refine gj_iadd dX9_seasonOf_22 ?_
        refine gj_is3 dX9_seasonOf_23 rfl rfl ?_
        refine gj_al0 dX9_seasonOf_24 ?_
        refine gj_bipush dX9_seasonOf_25 rfl ?_
        refine gj_il5 dX9_seasonOf_27 ?_
        refine gj_imul dX9_seasonOf_29 ?_
        refine gj_il3 dX9_seasonOf_30 ?_
        refine gj_bipush dX9_seasonOf_31 rfl ?_
        refine gj_iushr dX9_seasonOf_33 ?_
        refine gj_bipush dX9_seasonOf_34 rfl ?_
        have u9 := bUshr16 (1103515245 * lt + 12345)
        refine gj_irem dX9_seasonOf_36 (by omega) (by omega) ?_
        refine gj_iadd dX9_seasonOf_37 ?_
        refine gj_pI28 dX9_seasonOf_38 fX9_61 upw_s rfl ?_
        refine gj_sipush dX9_seasonOf_41 rfl ?_
        refine gj_il5 dX9_seasonOf_44 ?_
        refine gj_imul dX9_seasonOf_46 ?_
        refine gj_is6 dX9_seasonOf_47 rfl rfl ?_
        rw [upw_upw]
        have loop49 : ∀ (k : Nat), ∀ (b i : Int), (168 * c ≤ i ∧ i ≤ 168 * c + 168) → (b = a + sumZ (fun q => b2i (¬ (168 * c + q) / 24 = 7 * c + bUshr (1103515245 * lt + 12345) 16 % 7 ∧ (warB lw fa ru fe fc) (168 * c + q) l0 = true)) (i - 168 * c)) → (168 * c + 168 - i).toNat < k → Gj l x iX9_seasonOf d 0 0 50 (Wr (vI (seasF (warB lw fa ru fe fc) sd l0)) (fun w2 => ∃ z : Int, w2 = upw w 32 (oM fi by0 a0 nr fc lw le bs bl bp mn z))) 0 0 50 (upw w 32 (oM fi by0 a0 nr fc lw le bs bl bp mn (7 * c + bUshr (1103515245 * lt + 12345) 16 % 7))) 49 [some (vR 32), some (vI sd), some (vI l0), some (vI (1103515245 * lt + 12345)), some (vI b), some (vI c), some (vI i)] [] := by
          intro k
          induction k with
          | zero => intro _ _ _ _ hm; exact absurd hm (Nat.not_lt_zero _)
          | succ k ih49 =>
            intro b i  hj hb hm49
            have ss := sumZ_s (fun q => b2i (¬ (168 * c + q) / 24 = 7 * c + bUshr (1103515245 * lt + 12345) 16 % 7 ∧ (warB lw fa ru fe fc) (168 * c + q) l0 = true)) (i := i - 168 * c) (by omega)
            rw [show i - 168 * c + 1 = i + 1 - 168 * c by omega] at ss
            simp only [show 168 * c + (i - 168 * c) = i by omega] at ss
            have u9 := bUshr16 (1103515245 * lt + 12345)
            refine gj_il6 dX9_seasonOf_49 ?_
            refine gj_sipush dX9_seasonOf_51 rfl ?_
            refine gj_il5 dX9_seasonOf_54 ?_
            refine gj_imul dX9_seasonOf_56 ?_
            refine gj_sipush dX9_seasonOf_57 rfl ?_
            refine gj_iadd dX9_seasonOf_60 ?_
            refine gj_icmp_ge dX9_seasonOf_61 (by omega) (fun h61 => ?_) (fun h61 => ?_)
            · have u9 := bUshr16 (1103515245 * lt + 12345)
              refine gj_ii5 dX9_seasonOf_102 rfl rfl ?_
              refine gj_goto dX9_seasonOf_105 ?_
              refine gj_dr6 ?_
              exact ih8 _ _ _ _ (by omega) (by rw [sumZ_s _ hi.1, ← ha, hb, show i - 168 * c = 168 by omega, season_week _ (by omega), show lotF sd (c.toNat + 1) = 1103515245 * lt + 12345 from by rw [hlt]; rfl, show 7 * c = c * 7 by omega]) (by rw [show (c + 1).toNat = c.toNat + 1 by omega, hlt]; rfl) (by omega)
            · refine gj_il4 dX9_seasonOf_64 ?_
              refine gj_il6 dX9_seasonOf_66 ?_
              refine gj_bipush dX9_seasonOf_68 rfl ?_
              refine gj_idiv dX9_seasonOf_70 (by omega) (by omega) ?_
              refine gj_al0 dX9_seasonOf_71 ?_
              refine gj_get dX9_seasonOf_72 fX9_61 upw_s rfl rfl ?_
              refine gj_icmp_eq dX9_seasonOf_75 (by omega) (fun h75 => ?_) (fun h75 => ?_)
              · refine gj_iconst dX9_seasonOf_92 ?_
                refine gj_iadd dX9_seasonOf_93 ?_
                refine gj_is4 dX9_seasonOf_94 rfl rfl ?_
                refine gj_ii6 dX9_seasonOf_96 rfl rfl ?_
                refine gj_goto dX9_seasonOf_99 ?_
                exact ih49 _ _ (by omega) (by rw [ss, hb, b2i_f (show ¬ (¬ i / 24 = 7 * c + bUshr (1103515245 * lt + 12345) 16 % 7 ∧ (warB lw fa ru fe fc) i l0 = true) from fun z => z.1 h75), Int.add_assoc]) (by omega)
              · refine gj_al0 dX9_seasonOf_78 ?_
                refine gj_il6 dX9_seasonOf_79 ?_
                refine gj_il2 dX9_seasonOf_81 ?_
                refine gj_cV2r dX9_seasonOf_82 mX9_169 hX9_isWar upw_s rfl (by omega) rfl (tX9_isWar  (by omega) ⟨⟨_, _, _, _, _, _, _, _, _, _, upw_s⟩, (upw_o (by decide) q39), (upw_o (by decide) q40), (upw_o (by decide) q41)⟩ hO (by omega) (by omega)) ?_
                refine gj_ifB_eq dX9_seasonOf_85 (fun h85 => ?_) (fun h85 => ?_)
                · refine gj_iconst dX9_seasonOf_92 ?_
                  refine gj_iadd dX9_seasonOf_93 ?_
                  refine gj_is4 dX9_seasonOf_94 rfl rfl ?_
                  refine gj_ii6 dX9_seasonOf_96 rfl rfl ?_
                  refine gj_goto dX9_seasonOf_99 ?_
                  exact ih49 _ _ (by omega) (by rw [ss, hb, b2i_f (show ¬ (¬ i / 24 = 7 * c + bUshr (1103515245 * lt + 12345) 16 % 7 ∧ (warB lw fa ru fe fc) i l0 = true) from fun z => h85 z.2), Int.add_assoc]) (by omega)
                · refine gj_iconst dX9_seasonOf_88 ?_
                  refine gj_goto dX9_seasonOf_89 ?_
                  refine gj_iadd dX9_seasonOf_93 ?_
                  refine gj_is4 dX9_seasonOf_94 rfl rfl ?_
                  refine gj_ii6 dX9_seasonOf_96 rfl rfl ?_
                  refine gj_goto dX9_seasonOf_99 ?_
                  exact ih49 _ _ (by omega) (by rw [ss, hb, b2i_t (show ¬ i / 24 = 7 * c + bUshr (1103515245 * lt + 12345) 16 % 7 ∧ (warB lw fa ru fe fc) i l0 = true from ⟨h75, h85⟩), Int.add_assoc]) (by omega)
        exact loop49 _ a (168 * c) (by omega) (by rw [show 168 * c - 168 * c = 0 by omega]; exact (Int.add_zero a).symm) (Nat.lt_succ_self _)
  exact loop8 _ sd 0 0 mo (by omega) rfl rfl (Nat.lt_succ_self _)
theorem fit_y {W : Int → Int → Bool} {mh ml mw : Int → Int} {c i : Int} (hi : 0 ≤ i) (h1 : b2i (fitZ W mh ml mw c i = true) = 1) (h2 : b2i (W (24 * c + mh i) (ml i) = true) = mw i) : 1 = b2i (fitZ W mh ml mw c (i + 1) = true) := by
  have z : fitZ W mh ml mw c i = true := by
    by_cases z : fitZ W mh ml mw c i = true
    · exact z
    · rw [b2i_f z] at h1; omega
  rw [b2i_t]
  rw [fitZ_s _ _ _ _ _ hi, z, Bool.true_and, decide_eq_true_eq]
  exact h2
theorem fit_n {W : Int → Int → Bool} {mh ml mw : Int → Int} {c i : Int} (hi : 0 ≤ i) (h : b2i (fitZ W mh ml mw c i = true) = 0 ∨ ¬ b2i (W (24 * c + mh i) (ml i) = true) = mw i) : 0 = b2i (fitZ W mh ml mw c (i + 1) = true) := by
  rw [b2i_f]
  rw [fitZ_s _ _ _ _ _ hi, Bool.and_eq_true, decide_eq_true_eq]
  rintro ⟨z1, z2⟩
  rcases h with h | h
  · rw [b2i_t z1] at h; omega
  · exact h z2
set_option maxRecDepth 20000 in
set_option maxHeartbeats 4000000 in
theorem tX9_whichNow {l : Launch} {x : Cx} {d : Nat} {w : AW} {fa ru fe : Int → Int} {fi by0 a0 nr fc lw le bs bl bp mn mo : Int} {sg mh ml mw : Int → Int} (hd : 3 ≤ d) (q32 : w 32 = (oM fi by0 a0 nr fc lw le bs bl bp mn mo)) (q39 : w 39 = cI 24 fa) (q40 : w 40 = cI 8 ru) (q41 : w 41 = cI 8 fe) (q49 : w 49 = cI 18 sg) (hO : MoOK fa ru fe fc lw) (hsg : ∀ k : Int, 0 ≤ k → k < mn → sg (3 * k) = mh k ∧ sg (3 * k + 1) = ml k ∧ sg (3 * k + 2) = mw k) (hMm : MemOK mh ml mw mn) : Mt l x iX9_whichNow d 0 0 50 w [vR 32] (Rd (vI (wchF (warB lw fa ru fe fc) mh ml mw mn)) w) := by
  have m9 := hMm.1
  refine Mt.of (L0 := [some (vR 32), none, none, none, none]) rfl rfl rfl ?_
  refine gj_iconst dX9_whichNow_0 ?_
  refine gj_is1 dX9_whichNow_1 rfl rfl ?_
  refine gj_iconst dX9_whichNow_2 ?_
  refine gj_is2 dX9_whichNow_3 rfl rfl ?_
  have loop4 : ∀ (k : Nat), ∀ (a c : Int), (0 ≤ c ∧ c ≤ 28) → (a = wchN (fun day => fitZ (warB lw fa ru fe fc) mh ml mw day mn) c.toNat) → (28 - c).toNat < k → Gj l x iX9_whichNow d 0 0 50 (Rd (vI (wchF (warB lw fa ru fe fc) mh ml mw mn)) w) 0 0 50 w 4 [some (vR 32), some (vI a), some (vI c), none, none] [] := by
    intro k
    induction k with
    | zero => intro _ _ _ _ hm; exact absurd hm (Nat.not_lt_zero _)
    | succ k ih4 =>
      intro a c  hi ha hm4
      refine gj_il2 dX9_whichNow_4 ?_
      refine gj_bipush dX9_whichNow_5 rfl ?_
      refine gj_icmp_ge dX9_whichNow_7 (by omega) (fun h7 => ?_) (fun h7 => ?_)
      · refine gj_il1 dX9_whichNow_112 ?_
        exact gj_iret dX9_whichNow_113 rfl (rd_i (by unfold wchF; rw [ha, show c.toNat = 28 by omega]))
      · refine gj_iconst dX9_whichNow_10 ?_
        refine gj_is3 dX9_whichNow_11 rfl rfl ?_
        refine gj_iconst dX9_whichNow_12 ?_
        refine gj_is4 dX9_whichNow_13 rfl rfl ?_
        have loop15 : ∀ (k : Nat), ∀ (b i : Int), (0 ≤ i ∧ i ≤ mn) → (b = b2i (fitZ (warB lw fa ru fe fc) mh ml mw c i = true)) → (mn - i).toNat < k → Gj l x iX9_whichNow d 0 0 50 (Rd (vI (wchF (warB lw fa ru fe fc) mh ml mw mn)) w) 0 0 50 w 15 [some (vR 32), some (vI a), some (vI c), some (vI b), some (vI i)] [] := by
          intro k
          induction k with
          | zero => intro _ _ _ _ hm; exact absurd hm (Nat.not_lt_zero _)
          | succ k ih15 =>
            intro b i  hj hb hm15
            have bb := b2i_R (fitZ (warB lw fa ru fe fc) mh ml mw c i = true)
            have fs := fitZ_s (warB lw fa ru fe fc) mh ml mw c hj.1
            refine gj_il4 dX9_whichNow_15 ?_
            refine gj_al0 dX9_whichNow_17 ?_
            refine gj_get dX9_whichNow_18 fX9_285 q32 rfl rfl ?_
            refine gj_icmp_ge dX9_whichNow_21 (by omega) (fun h21 => ?_) (fun h21 => ?_)
            · refine gj_il1 dX9_whichNow_92 ?_
              refine gj_il3 dX9_whichNow_93 ?_
              refine gj_if_eq dX9_whichNow_94 (by omega) (fun h94 => ?_) (fun h94 => ?_)
              · refine gj_iconst dX9_whichNow_103 ?_
                refine gj_ior dX9_whichNow_104 ?_
                refine gj_is1 dX9_whichNow_105 rfl rfl ?_
                refine gj_ii2 dX9_whichNow_106 rfl rfl ?_
                refine gj_goto dX9_whichNow_109 ?_
                refine gj_dr3 ?_
                refine gj_dr4 ?_
                exact ih4 _ _ (by omega) (by rw [wch_s _ hi.1, if_neg (by intro z; rw [show i = mn by omega] at hb; rw [b2i_t z] at hb; omega), ← ha]; exact bOr_0 (by rw [ha]; exact wch_R _ _)) (by omega)
              · refine gj_iconst dX9_whichNow_97 ?_
                refine gj_il2 dX9_whichNow_98 ?_
                refine gj_ishl dX9_whichNow_99 ?_
                refine gj_goto dX9_whichNow_100 ?_
                refine gj_ior dX9_whichNow_104 ?_
                refine gj_is1 dX9_whichNow_105 rfl rfl ?_
                refine gj_ii2 dX9_whichNow_106 rfl rfl ?_
                refine gj_goto dX9_whichNow_109 ?_
                refine gj_dr3 ?_
                refine gj_dr4 ?_
                exact ih4 _ _ (by omega) (by rw [wch_s _ hi.1, if_pos (by by_cases z : fitZ (warB lw fa ru fe fc) mh ml mw c mn = true; exact z; (rw [show i = mn by omega, b2i_f z] at hb; omega)), ← ha]) (by omega)
            · refine gj_il3 dX9_whichNow_24 ?_
              refine gj_if_eq dX9_whichNow_25 (by omega) (fun h25 => ?_) (fun h25 => ?_)
              · refine gj_iconst dX9_whichNow_84 ?_
                refine gj_is3 dX9_whichNow_85 rfl rfl ?_
                refine gj_ii4 dX9_whichNow_86 rfl rfl ?_
                refine gj_goto dX9_whichNow_89 ?_
                exact ih15 _ _ (by omega) (fit_n hj.1 (Or.inl (by omega))) (by omega)
              · have g9 := hMm.2 i hj.1 (by omega)
                have sg9 := hsg i hj.1 (by omega)
                refine gj_al0 dX9_whichNow_28 ?_
                refine gj_bipush dX9_whichNow_29 rfl ?_
                refine gj_il2 dX9_whichNow_31 ?_
                refine gj_imul dX9_whichNow_32 ?_
                refine gj_al0 dX9_whichNow_33 ?_
                refine gj_get dX9_whichNow_34 fX9_58 q32 rfl rfl ?_
                refine gj_iconst dX9_whichNow_37 ?_
                refine gj_il4 dX9_whichNow_38 ?_
                refine gj_imul dX9_whichNow_40 ?_
                refine gj_iald dX9_whichNow_41 q49 rfl rfl (by omega) ?_
                refine gj_iadd dX9_whichNow_42 ?_
                refine gj_al0 dX9_whichNow_43 ?_
                refine gj_get dX9_whichNow_44 fX9_58 q32 rfl rfl ?_
                refine gj_iconst dX9_whichNow_47 ?_
                refine gj_il4 dX9_whichNow_48 ?_
                refine gj_imul dX9_whichNow_50 ?_
                refine gj_iconst dX9_whichNow_51 ?_
                refine gj_iadd dX9_whichNow_52 ?_
                refine gj_iald dX9_whichNow_53 q49 rfl rfl (by omega) ?_
                refine gj_cV2r dX9_whichNow_54 mX9_169 hX9_isWar q32 rfl (by omega) rfl (tX9_isWar  (by omega) ⟨⟨_, _, _, _, _, _, _, _, _, _, q32⟩, q39, q40, q41⟩ hO (by omega) (by omega)) ?_
                rw [sg9.1, sg9.2.1]
                have wb := b2i_R ((warB lw fa ru fe fc) (24 * c + mh i) (ml i) = true)
                refine gj_al0 dX9_whichNow_57 ?_
                refine gj_get dX9_whichNow_58 fX9_58 q32 rfl rfl ?_
                refine gj_iconst dX9_whichNow_61 ?_
                refine gj_il4 dX9_whichNow_62 ?_
                refine gj_imul dX9_whichNow_64 ?_
                refine gj_iconst dX9_whichNow_65 ?_
                refine gj_iadd dX9_whichNow_66 ?_
                refine gj_iald dX9_whichNow_67 q49 rfl rfl (by omega) ?_
                rw [sg9.2.2]
                refine gj_iconst dX9_whichNow_68 ?_
                refine gj_icmp_ne dX9_whichNow_69 (by omega) (fun h69 => ?_) (fun h69 => ?_)
                · refine gj_iconst dX9_whichNow_76 ?_
                  refine gj_icmp_ne dX9_whichNow_77 (by omega) (fun h77 => ?_) (fun h77 => ?_)
                  · refine gj_iconst dX9_whichNow_84 ?_
                    refine gj_is3 dX9_whichNow_85 rfl rfl ?_
                    refine gj_ii4 dX9_whichNow_86 rfl rfl ?_
                    refine gj_goto dX9_whichNow_89 ?_
                    exact ih15 _ _ (by omega) (fit_n hj.1 (Or.inr (by omega))) (by omega)
                  · refine gj_iconst dX9_whichNow_80 ?_
                    refine gj_goto dX9_whichNow_81 ?_
                    refine gj_is3 dX9_whichNow_85 rfl rfl ?_
                    refine gj_ii4 dX9_whichNow_86 rfl rfl ?_
                    refine gj_goto dX9_whichNow_89 ?_
                    exact ih15 _ _ (by omega) (fit_y hj.1 (by omega) (by omega)) (by omega)
                · refine gj_iconst dX9_whichNow_72 ?_
                  refine gj_goto dX9_whichNow_73 ?_
                  refine gj_icmp_ne dX9_whichNow_77 (by omega) (fun h77 => ?_) (fun h77 => ?_)
                  · refine gj_iconst dX9_whichNow_84 ?_
                    refine gj_is3 dX9_whichNow_85 rfl rfl ?_
                    refine gj_ii4 dX9_whichNow_86 rfl rfl ?_
                    refine gj_goto dX9_whichNow_89 ?_
                    exact ih15 _ _ (by omega) (fit_n hj.1 (Or.inr (by omega))) (by omega)
                  · refine gj_iconst dX9_whichNow_80 ?_
                    refine gj_goto dX9_whichNow_81 ?_
                    refine gj_is3 dX9_whichNow_85 rfl rfl ?_
                    refine gj_ii4 dX9_whichNow_86 rfl rfl ?_
                    refine gj_goto dX9_whichNow_89 ?_
                    exact ih15 _ _ (by omega) (fit_y hj.1 (by omega) (by omega)) (by omega)
        exact loop15 _ _ _ (by omega) rfl (Nat.lt_succ_self _)
  exact loop4 _ _ _ (by omega) rfl (Nat.lt_succ_self _)
