/-! the model's ways: the next land, raids -/
abbrev hrC (on ot : Int → Int) (a b r : Int) : Prop := (on r = a ∧ ot r = b) ∨ (on r = b ∧ ot r = a)
def hrN (on ot ho : Int → Int) (a b : Int) : Nat → Int
  | 0 => 9999
  | k + 1 => if hrC on ot a b (k : Int) then min (ho (k : Int)) (hrN on ot ho a b k) else hrN on ot ho a b k
def hrZ (on ot ho : Int → Int) (a b i : Int) : Int := hrN on ot ho a b i.toNat
theorem hr_s (on ot ho : Int → Int) (a b : Int) {i : Int} (h : 0 ≤ i) : hrZ on ot ho a b (i + 1) = if hrC on ot a b i then min (ho i) (hrZ on ot ho a b i) else hrZ on ot ho a b i := by
  unfold hrZ
  rw [show (i + 1).toNat = i.toNat + 1 by omega, hrN, show ((i.toNat : Nat) : Int) = i by omega]
theorem hr_y {on ot ho : Int → Int} {a b i z : Int} (h : 0 ≤ i) (hz : z = hrZ on ot ho a b i) (hc : hrC on ot a b i) : min (ho i) z = hrZ on ot ho a b (i + 1) := by rw [hr_s _ _ _ _ _ h, if_pos hc, hz]
theorem hr_n {on ot ho : Int → Int} {a b i z : Int} (h : 0 ≤ i) (hz : z = hrZ on ot ho a b i) (hc : ¬ hrC on ot a b i) : z = hrZ on ot ho a b (i + 1) := by rw [hr_s _ _ _ _ _ h, if_neg hc, hz]
theorem hr_inv {on ot ho : Int → Int} {nu a b : Int} (hE : EdOK on ot ho nu) : ∀ k : Nat, (k : Int) ≤ nu → (hrN on ot ho a b k = 9999 ∧ ∀ r : Int, 0 ≤ r → r < (k : Int) → ¬ hrC on ot a b r) ∨ ((1 ≤ hrN on ot ho a b k ∧ hrN on ot ho a b k ≤ 9) ∧ (∃ r : Int, 0 ≤ r ∧ r < (k : Int) ∧ hrC on ot a b r ∧ ho r = hrN on ot ho a b k) ∧ ∀ r : Int, 0 ≤ r → r < (k : Int) → hrC on ot a b r → hrN on ot ho a b k ≤ ho r)
  | 0, _ => Or.inl ⟨rfl, fun r h0 h1 => absurd h1 (by omega)⟩
  | k + 1, hk => by
    have ih := hr_inv (a := a) (b := b) hE k (by omega)
    have e := hE.2 (k : Int) (by omega) (by omega)
    rw [hrN]
    by_cases c : hrC on ot a b (k : Int)
    · rw [if_pos c]
      right
      rcases ih with ⟨i1, i2⟩ | ⟨i1, ⟨q, q0, q1, q2, q3⟩, i3⟩
      · rw [i1]
        refine ⟨by omega, ⟨(k : Int), by omega, by omega, c, by omega⟩, fun r h0 h1 h2 => ?_⟩
        by_cases z : r = (k : Int)
        · rw [z]; omega
        · exact absurd h2 (i2 r h0 (by omega))
      · refine ⟨by omega, ?_, fun r h0 h1 h2 => ?_⟩
        · by_cases z : ho (k : Int) ≤ hrN on ot ho a b k
          · exact ⟨(k : Int), by omega, by omega, c, by omega⟩
          · exact ⟨q, q0, by omega, q2, by omega⟩
        · by_cases z : r = (k : Int)
          · rw [z]; omega
          · have := i3 r h0 (by omega) h2
            omega
    · rw [if_neg c]
      rcases ih with ⟨i1, i2⟩ | ⟨i1, ⟨q, q0, q1, q2, q3⟩, i3⟩
      · refine Or.inl ⟨i1, fun r h0 h1 h2 => ?_⟩
        by_cases z : r = (k : Int)
        · rw [z] at h2; exact c h2
        · exact i2 r h0 (by omega) h2
      · refine Or.inr ⟨i1, ⟨q, q0, by omega, q2, q3⟩, fun r h0 h1 h2 => ?_⟩
        by_cases z : r = (k : Int)
        · rw [z] at h2; exact absurd h2 c
        · exact i3 r h0 (by omega) h2
theorem hr_acr {on ot ho : Int → Int} {nu a b r : Int} (hE : EdOK on ot ho nu) (h0 : 0 ≤ r) (h1 : r < nu) (hb : In7 b) (hab : a ≠ b) : hrC on ot a b r ↔ acrF on ot r a = b := by
  have e := hE.2 r h0 h1
  unfold hrC acrF
  by_cases c : on r = a
  · rw [if_pos c]; omega
  · rw [if_neg c]
    by_cases c2 : ot r = a
    · rw [if_pos c2]; omega
    · rw [if_neg c2]; omega
def nxP (on ot ho wy : Int → Int) (nu l0 t k : Int) : Prop := ∃ r : Int, 0 ≤ r ∧ r < nu ∧ acrF on ot r l0 = k ∧ ho r + wy (k * 8 + t) = wy (l0 * 8 + t)
def nxI (on ot ho wy : Int → Int) (nu l0 t b i : Int) : Prop := (b = -1 ∧ ∀ k : Int, i < k → k ≤ 7 → ¬ nxP on ot ho wy nu l0 t k) ∨ ((i < b ∧ b ≤ 7) ∧ nxP on ot ho wy nu l0 t b ∧ ∀ k : Int, i < k → k < b → ¬ nxP on ot ho wy nu l0 t k)
theorem nxI_y {on ot ho wy : Int → Int} {nu l0 t b i : Int} (hi : i ≤ 7) (h : nxP on ot ho wy nu l0 t i) : nxI on ot ho wy nu l0 t i (i - 1) := Or.inr ⟨by omega, h, fun k h0 h1 => absurd h1 (by omega)⟩
theorem nxI_n {on ot ho wy : Int → Int} {nu l0 t b i : Int} (h : nxI on ot ho wy nu l0 t b i) (hn : ¬ nxP on ot ho wy nu l0 t i) : nxI on ot ho wy nu l0 t b (i - 1) := by
  have st : ∀ k : Int, i - 1 < k → ¬ i < k → ¬ nxP on ot ho wy nu l0 t k := fun k h1 h2 => by rw [show k = i by omega]; exact hn
  rcases h with ⟨h1, h2⟩ | ⟨h1, h2, h3⟩
  · exact Or.inl ⟨h1, fun k a b => by by_cases c : i < k; exact h2 k c b; exact st k a c⟩
  · exact Or.inr ⟨by omega, h2, fun k a b => by by_cases c : i < k; exact h3 k c b; exact st k a c⟩
theorem nxI_end {on ot ho wy : Int → Int} {nu l0 t b : Int} (hE : EdOK on ot ho nu) (hG : GrOK on ot ho wy nu) (hl : In7 l0) (ht : In7 t) (hlt : l0 ≠ t) (hd : wy (l0 * 8 + t) < 1000) (h : nxI on ot ho wy nu l0 t b (-1)) : b = nxtF on ot ho wy l0 t nu := by
  obtain ⟨n1, n2, n3, n4⟩ := nxt_ok hE hG hl ht hlt hd
  rcases h with ⟨h1, h2⟩ | ⟨h1, ⟨r, r0, r1, r2, r3⟩, h3⟩
  · exact absurd n3 (h2 _ (by omega) (by omega))
  · have := n4 r r0 r1 (by rw [r2]; omega) (by rw [r2]; exact r3)
    rw [r2] at this
    by_cases c : nxtF on ot ho wy l0 t nu < b
    · exact absurd n3 (h3 _ (by omega) c)
    · omega
theorem nx_same {on ot ho wy : Int → Int} {nu l0 t : Int} (hE : EdOK on ot ho nu) : ¬ nxP on ot ho wy nu l0 t l0 := by
  rintro ⟨r, r0, r1, r2, r3⟩
  have := hE.2 r r0 r1
  omega
theorem nx_far {on ot ho wy : Int → Int} {nu l0 t i : Int} (hE : EdOK on ot ho nu) (hi : In7 i) (hne : l0 ≠ i) (h : 9999 ≤ hrZ on ot ho l0 i nu) : ¬ nxP on ot ho wy nu l0 t i := by
  rintro ⟨r, r0, r1, r2, r3⟩
  have hn := hE.1
  rcases hr_inv (a := l0) (b := i) hE nu.toNat (by omega) with ⟨h1, h2⟩ | ⟨h1, -, -⟩
  · exact h2 r r0 (by omega) ((hr_acr hE r0 r1 hi hne).mpr r2)
  · unfold hrZ at h; omega
theorem nx_near {on ot ho wy : Int → Int} {nu l0 t i : Int} (hE : EdOK on ot ho nu) (hG : GrOK on ot ho wy nu) (hl : In7 l0) (ht : In7 t) (hi : In7 i) (hne : l0 ≠ i) (hd : wy (l0 * 8 + t) < 1000) (h : ¬ 9999 ≤ hrZ on ot ho l0 i nu) : wy (i * 8 + t) < 1000 ∧ (1 ≤ hrZ on ot ho l0 i nu ∧ hrZ on ot ho l0 i nu ≤ 9) ∧ (wy (l0 * 8 + t) = wy (i * 8 + t) + hrZ on ot ho l0 i nu ↔ nxP on ot ho wy nu l0 t i) := by
  have hn := hE.1
  have w63 := way_le hE hG hl ht hd
  rcases hr_inv (a := l0) (b := i) hE nu.toNat (by omega) with ⟨h1, h2⟩ | ⟨h1, ⟨q, q0, q1, q2, q3⟩, h3⟩
  · unfold hrZ at h; omega
  · have qa := (hr_acr hE q0 (by omega) hi hne).mp q2
    have qb : acrF on ot q i = l0 := (hr_acr hE q0 (by omega) hl (fun z => hne z.symm)).mp (Or.symm q2)
    have g1 := hG.2.2.2.1 i t q hi ht q0 (by omega) (by rw [qb]; omega)
    have g2 := hG.2.2.2.1 l0 t q hl ht q0 (by omega) (by rw [qa]; omega)
    rw [qb] at g1
    rw [qa] at g2
    refine ⟨by omega, h1, ⟨fun z => ⟨q, q0, by omega, qa, by unfold hrZ at z; omega⟩, ?_⟩⟩
    rintro ⟨r, r0, r1, r2, r3⟩
    have := h3 r r0 (by omega) ((hr_acr hE r0 r1 hi hne).mpr r2)
    unfold hrZ
    omega
theorem nx_hours {on ot ho wy : Int → Int} {nu l0 t : Int} (hE : EdOK on ot ho nu) (hG : GrOK on ot ho wy nu) (hl : In7 l0) (ht : In7 t) (hlt : l0 ≠ t) (hd : wy (l0 * 8 + t) < 1000) : hrZ on ot ho l0 (nxtF on ot ho wy l0 t nu) nu = wy (l0 * 8 + t) - wy (nxtF on ot ho wy l0 t nu * 8 + t) := by
  obtain ⟨n1, n2, n3, n4⟩ := nxt_ok hE hG hl ht hlt hd
  have hne : l0 ≠ nxtF on ot ho wy l0 t nu := fun z => by rw [← z] at n2; omega
  by_cases c : 9999 ≤ hrZ on ot ho l0 (nxtF on ot ho wy l0 t nu) nu
  · exact absurd n3 (nx_far hE n1 hne c)
  · have := ((nx_near hE hG hl ht n1 hne hd c).2.2).mpr n3
    omega
set_option maxRecDepth 20000 in
set_option maxHeartbeats 4000000 in
theorem tX9_hoursOf {l : Launch} {x : Cx} {d : Nat} {w : AW} {fi by0 a0 fc lw le bs bl bp mn mo : Int} {rd tx : Int → Int} {a b : Int} (hd : 1 ≤ d) (q32 : w 32 = (oM fi by0 a0 (numF tx by0) fc lw le bs bl bp mn mo)) (q38 : w 38 = cI 36 rd) (hT : TxOK tx by0) (hR : RdT rd tx (numF tx by0)) (ha : 0 ≤ a ∧ a ≤ 7) (hb : 0 ≤ b ∧ b ≤ 7) : Mt l x iX9_hoursOf d 0 0 50 w [vR 32, vI a, vI b] (Rd (vI (hrZ (mOn rd) (mOt rd) (mHo rd) a b (numF tx by0))) w) := by
  have hE := rdt_ed hT hR
  have hG := rdt_gr hT hR
  have n9 := numF_R (tx := tx) hT.1
  refine Mt.of (L0 := [some (vR 32), some (vI a), some (vI b), none, none, none]) rfl rfl rfl ?_
  refine gj_sipush dX9_hoursOf_0 rfl ?_
  refine gj_is3 dX9_hoursOf_3 rfl rfl ?_
  refine gj_iconst dX9_hoursOf_4 ?_
  refine gj_is4 dX9_hoursOf_5 rfl rfl ?_
  have loop7 : ∀ (k : Nat), ∀ (z i : Int), (0 ≤ i ∧ i ≤ (numF tx by0)) → (z = hrZ (mOn rd) (mOt rd) (mHo rd) a b i) → (0 ≤ z ∧ z ≤ 9999) → ((numF tx by0) - i).toNat < k → Gj l x iX9_hoursOf d 0 0 50 (Rd (vI (hrZ (mOn rd) (mOt rd) (mHo rd) a b (numF tx by0))) w) 0 0 50 w 7 [some (vR 32), some (vI a), some (vI b), some (vI z), some (vI i), none] [] := by
    intro k
    induction k with
    | zero => intro _ _ _ _ _ hm; exact absurd hm (Nat.not_lt_zero _)
    | succ k ih7 =>
      intro z i  hi ha hz hm7
      refine gj_il4 dX9_hoursOf_7 ?_
      refine gj_al0 dX9_hoursOf_9 ?_
      refine gj_get dX9_hoursOf_10 fX9_106 q32 rfl rfl ?_
      refine gj_icmp_ge dX9_hoursOf_13 (by omega) (fun h13 => ?_) (fun h13 => ?_)
      · refine gj_il3 dX9_hoursOf_110 ?_
        exact gj_iret dX9_hoursOf_111 rfl (rd_i (by rw [ha, show i = (numF tx by0) by omega]))
      · have e9 := rdt_in hT hR hi.1 (by omega)
        refine gj_al0 dX9_hoursOf_16 ?_
        refine gj_get dX9_hoursOf_17 fX9_25 q32 rfl rfl ?_
        refine gj_iconst dX9_hoursOf_20 ?_
        refine gj_il4 dX9_hoursOf_21 ?_
        refine gj_imul dX9_hoursOf_23 ?_
        refine gj_iald dX9_hoursOf_24 q38 rfl rfl (by omega) ?_
        refine gj_il1 dX9_hoursOf_25 ?_
        refine gj_icmp_ne dX9_hoursOf_26 (by omega) (fun h26 => ?_) (fun h26 => ?_)
        · refine gj_al0 dX9_hoursOf_44 ?_
          refine gj_get dX9_hoursOf_45 fX9_25 q32 rfl rfl ?_
          refine gj_iconst dX9_hoursOf_48 ?_
          refine gj_il4 dX9_hoursOf_49 ?_
          refine gj_imul dX9_hoursOf_51 ?_
          refine gj_iald dX9_hoursOf_52 q38 rfl rfl (by omega) ?_
          refine gj_il2 dX9_hoursOf_53 ?_
          refine gj_icmp_ne dX9_hoursOf_54 (by omega) (fun h54 => ?_) (fun h54 => ?_)
          · refine gj_iconst dX9_hoursOf_76 ?_
            refine gj_is5 dX9_hoursOf_77 rfl rfl ?_
            refine gj_il5 dX9_hoursOf_79 ?_
            refine gj_if_eq dX9_hoursOf_81 (by omega) (fun _ => ?_) (fun h => absurd h (by omega))
            refine gj_il3 dX9_hoursOf_102 ?_
            refine gj_is3 dX9_hoursOf_103 rfl rfl ?_
            refine gj_ii4 dX9_hoursOf_104 rfl rfl ?_
            refine gj_goto dX9_hoursOf_107 ?_
            refine gj_dr5 ?_
            exact ih7 _ _ (by omega) (by first | exact hr_y hi.1 ha (show ((rd (3 * i) = a ∧ rd (3 * i + 1) = b) ∨ (rd (3 * i) = b ∧ rd (3 * i + 1) = a)) by omega) | exact hr_n hi.1 ha (show ¬ ((rd (3 * i) = a ∧ rd (3 * i + 1) = b) ∨ (rd (3 * i) = b ∧ rd (3 * i + 1) = a)) by omega)) (by omega) (by omega)
          · refine gj_al0 dX9_hoursOf_57 ?_
            refine gj_get dX9_hoursOf_58 fX9_25 q32 rfl rfl ?_
            refine gj_iconst dX9_hoursOf_61 ?_
            refine gj_il4 dX9_hoursOf_62 ?_
            refine gj_imul dX9_hoursOf_64 ?_
            refine gj_iconst dX9_hoursOf_65 ?_
            refine gj_iadd dX9_hoursOf_66 ?_
            refine gj_iald dX9_hoursOf_67 q38 rfl rfl (by omega) ?_
            refine gj_il1 dX9_hoursOf_68 ?_
            refine gj_icmp_ne dX9_hoursOf_69 (by omega) (fun h69 => ?_) (fun h69 => ?_)
            · refine gj_iconst dX9_hoursOf_76 ?_
              refine gj_is5 dX9_hoursOf_77 rfl rfl ?_
              refine gj_il5 dX9_hoursOf_79 ?_
              refine gj_if_eq dX9_hoursOf_81 (by omega) (fun _ => ?_) (fun h => absurd h (by omega))
              refine gj_il3 dX9_hoursOf_102 ?_
              refine gj_is3 dX9_hoursOf_103 rfl rfl ?_
              refine gj_ii4 dX9_hoursOf_104 rfl rfl ?_
              refine gj_goto dX9_hoursOf_107 ?_
              refine gj_dr5 ?_
              exact ih7 _ _ (by omega) (by first | exact hr_y hi.1 ha (show ((rd (3 * i) = a ∧ rd (3 * i + 1) = b) ∨ (rd (3 * i) = b ∧ rd (3 * i + 1) = a)) by omega) | exact hr_n hi.1 ha (show ¬ ((rd (3 * i) = a ∧ rd (3 * i + 1) = b) ∨ (rd (3 * i) = b ∧ rd (3 * i + 1) = a)) by omega)) (by omega) (by omega)
            · refine gj_iconst dX9_hoursOf_72 ?_
              refine gj_goto dX9_hoursOf_73 ?_
              refine gj_is5 dX9_hoursOf_77 rfl rfl ?_
              refine gj_il5 dX9_hoursOf_79 ?_
              refine gj_if_eq dX9_hoursOf_81 (by omega) (fun h => absurd h (by omega)) (fun _ => ?_)
              refine gj_al0 dX9_hoursOf_84 ?_
              refine gj_get dX9_hoursOf_85 fX9_25 q32 rfl rfl ?_
              refine gj_iconst dX9_hoursOf_88 ?_
              refine gj_il4 dX9_hoursOf_89 ?_
              refine gj_imul dX9_hoursOf_91 ?_
              refine gj_iconst dX9_hoursOf_92 ?_
              refine gj_iadd dX9_hoursOf_93 ?_
              refine gj_iald dX9_hoursOf_94 q38 rfl rfl (by omega) ?_
              refine gj_il3 dX9_hoursOf_95 ?_
              refine gj_cS2r dX9_hoursOf_96 mX9_140 hX9_lesser (by omega) rfl (tX9_lesser  (by omega) (by omega) (by omega)) ?_
              refine gj_goto dX9_hoursOf_99 ?_
              refine gj_is3 dX9_hoursOf_103 rfl rfl ?_
              refine gj_ii4 dX9_hoursOf_104 rfl rfl ?_
              refine gj_goto dX9_hoursOf_107 ?_
              refine gj_dr5 ?_
              exact ih7 _ _ (by omega) (by first | exact hr_y hi.1 ha (show ((rd (3 * i) = a ∧ rd (3 * i + 1) = b) ∨ (rd (3 * i) = b ∧ rd (3 * i + 1) = a)) by omega) | exact hr_n hi.1 ha (show ¬ ((rd (3 * i) = a ∧ rd (3 * i + 1) = b) ∨ (rd (3 * i) = b ∧ rd (3 * i + 1) = a)) by omega)) (by omega) (by omega)
        · refine gj_al0 dX9_hoursOf_29 ?_
          refine gj_get dX9_hoursOf_30 fX9_25 q32 rfl rfl ?_
          refine gj_iconst dX9_hoursOf_33 ?_
          refine gj_il4 dX9_hoursOf_34 ?_
          refine gj_imul dX9_hoursOf_36 ?_
          refine gj_iconst dX9_hoursOf_37 ?_
          refine gj_iadd dX9_hoursOf_38 ?_
          refine gj_iald dX9_hoursOf_39 q38 rfl rfl (by omega) ?_
          refine gj_il2 dX9_hoursOf_40 ?_
          refine gj_icmp_eq dX9_hoursOf_41 (by omega) (fun h41 => ?_) (fun h41 => ?_)
          · refine gj_iconst dX9_hoursOf_72 ?_
            refine gj_goto dX9_hoursOf_73 ?_
            refine gj_is5 dX9_hoursOf_77 rfl rfl ?_
            refine gj_il5 dX9_hoursOf_79 ?_
            refine gj_if_eq dX9_hoursOf_81 (by omega) (fun h => absurd h (by omega)) (fun _ => ?_)
            refine gj_al0 dX9_hoursOf_84 ?_
            refine gj_get dX9_hoursOf_85 fX9_25 q32 rfl rfl ?_
            refine gj_iconst dX9_hoursOf_88 ?_
            refine gj_il4 dX9_hoursOf_89 ?_
            refine gj_imul dX9_hoursOf_91 ?_
            refine gj_iconst dX9_hoursOf_92 ?_
            refine gj_iadd dX9_hoursOf_93 ?_
            refine gj_iald dX9_hoursOf_94 q38 rfl rfl (by omega) ?_
            refine gj_il3 dX9_hoursOf_95 ?_
            refine gj_cS2r dX9_hoursOf_96 mX9_140 hX9_lesser (by omega) rfl (tX9_lesser  (by omega) (by omega) (by omega)) ?_
            refine gj_goto dX9_hoursOf_99 ?_
            refine gj_is3 dX9_hoursOf_103 rfl rfl ?_
            refine gj_ii4 dX9_hoursOf_104 rfl rfl ?_
            refine gj_goto dX9_hoursOf_107 ?_
            refine gj_dr5 ?_
            exact ih7 _ _ (by omega) (by first | exact hr_y hi.1 ha (show ((rd (3 * i) = a ∧ rd (3 * i + 1) = b) ∨ (rd (3 * i) = b ∧ rd (3 * i + 1) = a)) by omega) | exact hr_n hi.1 ha (show ¬ ((rd (3 * i) = a ∧ rd (3 * i + 1) = b) ∨ (rd (3 * i) = b ∧ rd (3 * i + 1) = a)) by omega)) (by omega) (by omega)
          · refine gj_al0 dX9_hoursOf_44 ?_
            refine gj_get dX9_hoursOf_45 fX9_25 q32 rfl rfl ?_
            refine gj_iconst dX9_hoursOf_48 ?_
            refine gj_il4 dX9_hoursOf_49 ?_
            refine gj_imul dX9_hoursOf_51 ?_
            refine gj_iald dX9_hoursOf_52 q38 rfl rfl (by omega) ?_
            refine gj_il2 dX9_hoursOf_53 ?_
            refine gj_icmp_ne dX9_hoursOf_54 (by omega) (fun h54 => ?_) (fun h54 => ?_)
            · refine gj_iconst dX9_hoursOf_76 ?_
              refine gj_is5 dX9_hoursOf_77 rfl rfl ?_
              refine gj_il5 dX9_hoursOf_79 ?_
              refine gj_if_eq dX9_hoursOf_81 (by omega) (fun _ => ?_) (fun h => absurd h (by omega))
              refine gj_il3 dX9_hoursOf_102 ?_
              refine gj_is3 dX9_hoursOf_103 rfl rfl ?_
              refine gj_ii4 dX9_hoursOf_104 rfl rfl ?_
              refine gj_goto dX9_hoursOf_107 ?_
              refine gj_dr5 ?_
              exact ih7 _ _ (by omega) (by first | exact hr_y hi.1 ha (show ((rd (3 * i) = a ∧ rd (3 * i + 1) = b) ∨ (rd (3 * i) = b ∧ rd (3 * i + 1) = a)) by omega) | exact hr_n hi.1 ha (show ¬ ((rd (3 * i) = a ∧ rd (3 * i + 1) = b) ∨ (rd (3 * i) = b ∧ rd (3 * i + 1) = a)) by omega)) (by omega) (by omega)
            · refine gj_al0 dX9_hoursOf_57 ?_
              refine gj_get dX9_hoursOf_58 fX9_25 q32 rfl rfl ?_
              refine gj_iconst dX9_hoursOf_61 ?_
              refine gj_il4 dX9_hoursOf_62 ?_
              refine gj_imul dX9_hoursOf_64 ?_
              refine gj_iconst dX9_hoursOf_65 ?_
              refine gj_iadd dX9_hoursOf_66 ?_
              refine gj_iald dX9_hoursOf_67 q38 rfl rfl (by omega) ?_
              refine gj_il1 dX9_hoursOf_68 ?_
              refine gj_icmp_ne dX9_hoursOf_69 (by omega) (fun h69 => ?_) (fun h69 => ?_)
              · refine gj_iconst dX9_hoursOf_76 ?_
                refine gj_is5 dX9_hoursOf_77 rfl rfl ?_
                refine gj_il5 dX9_hoursOf_79 ?_
                refine gj_if_eq dX9_hoursOf_81 (by omega) (fun _ => ?_) (fun h => absurd h (by omega))
                refine gj_il3 dX9_hoursOf_102 ?_
                refine gj_is3 dX9_hoursOf_103 rfl rfl ?_
                refine gj_ii4 dX9_hoursOf_104 rfl rfl ?_
                refine gj_goto dX9_hoursOf_107 ?_
                refine gj_dr5 ?_
                exact ih7 _ _ (by omega) (by first | exact hr_y hi.1 ha (show ((rd (3 * i) = a ∧ rd (3 * i + 1) = b) ∨ (rd (3 * i) = b ∧ rd (3 * i + 1) = a)) by omega) | exact hr_n hi.1 ha (show ¬ ((rd (3 * i) = a ∧ rd (3 * i + 1) = b) ∨ (rd (3 * i) = b ∧ rd (3 * i + 1) = a)) by omega)) (by omega) (by omega)
              · refine gj_iconst dX9_hoursOf_72 ?_
                refine gj_goto dX9_hoursOf_73 ?_
                refine gj_is5 dX9_hoursOf_77 rfl rfl ?_
                refine gj_il5 dX9_hoursOf_79 ?_
                refine gj_if_eq dX9_hoursOf_81 (by omega) (fun h => absurd h (by omega)) (fun _ => ?_)
                refine gj_al0 dX9_hoursOf_84 ?_
                refine gj_get dX9_hoursOf_85 fX9_25 q32 rfl rfl ?_
                refine gj_iconst dX9_hoursOf_88 ?_
                refine gj_il4 dX9_hoursOf_89 ?_
                refine gj_imul dX9_hoursOf_91 ?_
                refine gj_iconst dX9_hoursOf_92 ?_
                refine gj_iadd dX9_hoursOf_93 ?_
                refine gj_iald dX9_hoursOf_94 q38 rfl rfl (by omega) ?_
                refine gj_il3 dX9_hoursOf_95 ?_
                refine gj_cS2r dX9_hoursOf_96 mX9_140 hX9_lesser (by omega) rfl (tX9_lesser  (by omega) (by omega) (by omega)) ?_
                refine gj_goto dX9_hoursOf_99 ?_
                refine gj_is3 dX9_hoursOf_103 rfl rfl ?_
                refine gj_ii4 dX9_hoursOf_104 rfl rfl ?_
                refine gj_goto dX9_hoursOf_107 ?_
                refine gj_dr5 ?_
                exact ih7 _ _ (by omega) (by first | exact hr_y hi.1 ha (show ((rd (3 * i) = a ∧ rd (3 * i + 1) = b) ∨ (rd (3 * i) = b ∧ rd (3 * i + 1) = a)) by omega) | exact hr_n hi.1 ha (show ¬ ((rd (3 * i) = a ∧ rd (3 * i + 1) = b) ∨ (rd (3 * i) = b ∧ rd (3 * i + 1) = a)) by omega)) (by omega) (by omega)
  exact loop7 _ _ _ (by omega) rfl (by omega) (Nat.lt_succ_self _)
set_option maxRecDepth 20000 in
set_option maxHeartbeats 4000000 in
theorem tX9_nextLand {l : Launch} {x : Cx} {d : Nat} {w : AW} {fi by0 a0 fc lw le bs bl bp mn mo : Int} {rd tx : Int → Int} {f : Int → Int} {t l0 : Int} (hd : 2 ≤ d) (q32 : w 32 = (oM fi by0 a0 (numF tx by0) fc lw le bs bl bp mn mo)) (q38 : w 38 = cI 36 rd) (q43 : w 43 = cI 8 f) (hT : TxOK tx by0) (hR : RdT rd tx (numF tx by0)) (hf : FarC (cWy tx by0) t f) (ht : In7 t) (hl : In7 l0) (hlt : l0 ≠ t) (hd1 : (cWy tx by0) (l0 * 8 + t) < 1000) : Mt l x iX9_nextLand d 0 0 50 w [vR 32, vI l0] (Rd (vI (nxtF (mOn rd) (mOt rd) (mHo rd) (cWy tx by0) l0 t (numF tx by0))) w) := by
  have hE := rdt_ed hT hR
  have hG := rdt_gr hT hR
  have n9 := numF_R (tx := tx) hT.1
  have w63 := way_le hE hG hl ht hd1
  have w0 := way_0 hG hl ht
  have fl := (hf l0 hl).1 hd1
  refine Mt.of (L0 := [some (vR 32), some (vI l0), none, none, none]) rfl rfl rfl ?_
  refine gj_iconst dX9_nextLand_0 ?_
  refine gj_is2 dX9_nextLand_1 rfl rfl ?_
  refine gj_bipush dX9_nextLand_2 rfl ?_
  refine gj_is3 dX9_nextLand_4 rfl rfl ?_
  have loop5 : ∀ (k : Nat), ∀ (b i : Int), (-1 ≤ i ∧ i ≤ 7) → (nxI (mOn rd) (mOt rd) (mHo rd) (cWy tx by0) (numF tx by0) l0 t b i) → (i + 1).toNat < k → Gj l x iX9_nextLand d 0 0 50 (Rd (vI (nxtF (mOn rd) (mOt rd) (mHo rd) (cWy tx by0) l0 t (numF tx by0))) w) 0 0 50 w 5 [some (vR 32), some (vI l0), some (vI b), some (vI i), none] [] := by
    intro k
    induction k with
    | zero => intro _ _ _ _ hm; exact absurd hm (Nat.not_lt_zero _)
    | succ k ih5 =>
      intro b i  hi ha hm5
      refine gj_il3 dX9_nextLand_5 ?_
      refine gj_if_lt dX9_nextLand_6 (by omega) (fun h6 => ?_) (fun h6 => ?_)
      · refine gj_il2 dX9_nextLand_66 ?_
        exact gj_iret dX9_nextLand_67 rfl (rd_i (nxI_end hE hG hl ht hlt hd1 (by rw [show (-1 : Int) = i by omega]; exact ha)))
      · refine gj_il3 dX9_nextLand_9 ?_
        refine gj_il1 dX9_nextLand_10 ?_
        refine gj_icmp_ne dX9_nextLand_11 (by omega) (fun h11 => ?_) (fun h11 => ?_)
        · refine gj_al0 dX9_nextLand_20 ?_
          refine gj_il1 dX9_nextLand_21 ?_
          refine gj_il3 dX9_nextLand_22 ?_
          refine gj_cV2r dX9_nextLand_23 mX9_188 hX9_hoursOf q32 rfl (by omega) rfl (tX9_hoursOf  (by omega) q32 q38 hT hR (by omega) (by omega)) ?_
          refine gj_is4 dX9_nextLand_26 rfl rfl ?_
          refine gj_il4 dX9_nextLand_28 ?_
          refine gj_sipush dX9_nextLand_30 rfl ?_
          refine gj_icmp_ge dX9_nextLand_33 (by rcases hr_inv (a := l0) (b := i) hE (numF tx by0).toNat (by omega) with z | z <;> (unfold hrZ; omega)) (fun h33 => ?_) (fun h33 => ?_)
          · refine gj_il2 dX9_nextLand_58 ?_
            refine gj_is2 dX9_nextLand_59 rfl rfl ?_
            refine gj_ii3 dX9_nextLand_60 rfl rfl ?_
            refine gj_goto dX9_nextLand_63 ?_
            refine gj_dr4 ?_
            exact ih5 _ _ (by omega) (nxI_n ha (nx_far hE (by omega) (by omega) h33)) (by omega)
          · have near := nx_near (i := i) hE hG hl ht (by omega) (by omega) hd1 h33
            have fi9 := (hf i (by omega)).1 near.1
            have w1 := way_0 (a := i) hG (by omega) ht
            refine gj_al0 dX9_nextLand_36 ?_
            refine gj_get dX9_nextLand_37 fX9_40 q32 rfl rfl ?_
            refine gj_il1 dX9_nextLand_40 ?_
            refine gj_iald dX9_nextLand_41 q43 rfl rfl (by omega) ?_
            refine gj_al0 dX9_nextLand_42 ?_
            refine gj_get dX9_nextLand_43 fX9_40 q32 rfl rfl ?_
            refine gj_il3 dX9_nextLand_46 ?_
            refine gj_iald dX9_nextLand_47 q43 rfl rfl (by omega) ?_
            refine gj_il4 dX9_nextLand_48 ?_
            refine gj_iadd dX9_nextLand_50 ?_
            refine gj_icmp_ne dX9_nextLand_51 (by omega) (fun h51 => ?_) (fun h51 => ?_)
            · refine gj_il2 dX9_nextLand_58 ?_
              refine gj_is2 dX9_nextLand_59 rfl rfl ?_
              refine gj_ii3 dX9_nextLand_60 rfl rfl ?_
              refine gj_goto dX9_nextLand_63 ?_
              refine gj_dr4 ?_
              exact ih5 _ _ (by omega) (nxI_n ha (fun z => h51 (by rw [fl, fi9]; exact near.2.2.mpr z))) (by omega)
            · refine gj_il3 dX9_nextLand_54 ?_
              refine gj_goto dX9_nextLand_55 ?_
              refine gj_is2 dX9_nextLand_59 rfl rfl ?_
              refine gj_ii3 dX9_nextLand_60 rfl rfl ?_
              refine gj_goto dX9_nextLand_63 ?_
              refine gj_dr4 ?_
              exact ih5 _ _ (by omega) (nxI_y (b := b) hi.2 (near.2.2.mp (by rw [← fl, ← fi9]; exact h51))) (by omega)
        · refine gj_sipush dX9_nextLand_14 rfl ?_
          refine gj_goto dX9_nextLand_17 ?_
          refine gj_is4 dX9_nextLand_26 rfl rfl ?_
          refine gj_il4 dX9_nextLand_28 ?_
          refine gj_sipush dX9_nextLand_30 rfl ?_
          refine gj_icmp_ge dX9_nextLand_33 (by omega) (fun _ => ?_) (fun h => absurd h (by omega))
          refine gj_il2 dX9_nextLand_58 ?_
          refine gj_is2 dX9_nextLand_59 rfl rfl ?_
          refine gj_ii3 dX9_nextLand_60 rfl rfl ?_
          refine gj_goto dX9_nextLand_63 ?_
          refine gj_dr4 ?_
          exact ih5 _ _ (by omega) (nxI_n ha (by rw [show i = l0 by omega]; exact nx_same hE)) (by omega)
  exact loop5 _ _ _ (by omega) (Or.inl ⟨rfl, fun k g0 g1 => absurd g1 (by omega)⟩) (Nat.lt_succ_self _)
