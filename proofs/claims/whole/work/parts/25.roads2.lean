/-! contracts: the rest of Roads -/
def acrF (on ot : Int → Int) (r l0 : Int) : Int := if on r = l0 then ot r else if ot r = l0 then on r else -1
theorem acrF_R {on ot ho : Int → Int} {nu r l0 : Int} (hE : EdOK on ot ho nu) (hr : 0 ≤ r ∧ r < nu) : -1 ≤ acrF on ot r l0 ∧ acrF on ot r l0 ≤ 7 := by
  have := hE.2 r hr.1 hr.2
  unfold acrF
  (repeat' split) <;> omega
/-- the next land on the way, among the first k roads -/
def nxtN (on ot ho wy : Int → Int) (f t : Int) : Nat → Int
  | 0 => -1
  | k + 1 => if acrF on ot (k : Int) f ≠ -1 ∧ ho (k : Int) + wy (acrF on ot (k : Int) f * 8 + t) = wy (f * 8 + t) ∧ (nxtN on ot ho wy f t k = -1 ∨ acrF on ot (k : Int) f < nxtN on ot ho wy f t k) then acrF on ot (k : Int) f else nxtN on ot ho wy f t k
def nxtF (on ot ho wy : Int → Int) (f t i : Int) : Int := nxtN on ot ho wy f t i.toNat
theorem nxtF_s (on ot ho wy : Int → Int) (f t : Int) {i : Int} (h : 0 ≤ i) : nxtF on ot ho wy f t (i + 1) = if acrF on ot i f ≠ -1 ∧ ho i + wy (acrF on ot i f * 8 + t) = wy (f * 8 + t) ∧ (nxtF on ot ho wy f t i = -1 ∨ acrF on ot i f < nxtF on ot ho wy f t i) then acrF on ot i f else nxtF on ot ho wy f t i := by
  unfold nxtF
  rw [show (i + 1).toNat = i.toNat + 1 by omega, nxtN, show ((i.toNat : Nat) : Int) = i by omega]
theorem nxtF_R {on ot ho wy : Int → Int} {f t nu : Int} (hE : EdOK on ot ho nu) : ∀ k : Nat, (k : Int) ≤ nu → -1 ≤ nxtN on ot ho wy f t k ∧ nxtN on ot ho wy f t k ≤ 7
  | 0, _ => by simp [nxtN]
  | k + 1, hk => by
    have h1 := nxtF_R (wy := wy) (f := f) (t := t) hE k (by omega)
    have h2 := acrF_R (l0 := f) hE (r := (k : Int)) (by omega)
    rw [nxtN]
    split <;> omega
def RdOK (tx on ot ho wy : Int → Int) (by0 nu fl : Int) : Prop := TxOK tx by0 ∧ fl = fltF tx by0 ∧ nu = numF tx by0 ∧ (∀ r : Int, 0 ≤ r → r < nu → on r = tx (4 * r) - 97 ∧ ot r = tx (4 * r + 1) - 97 ∧ ho r = tx (4 * r + 2) - 48) ∧ ∃ wy0, wy = wayF on ot ho wy0 nu
/-- the cells 1 to 6 tell the roads of a text -/
def RoadsC (w : AW) (tx : Int → Int) (by0 : Int) : Prop := ∃ (on ot ho wy : Int → Int) (nu fl : Int), RoadsAt w tx on ot ho wy by0 nu fl ∧ RdOK tx on ot ho wy by0 nu fl
theorem ed_of {tx on ot ho : Int → Int} {by0 nu : Int} (hT : TxOK tx by0) (hn : nu = numF tx by0) (hv : ∀ r : Int, 0 ≤ r → r < nu → on r = tx (4 * r) - 97 ∧ ot r = tx (4 * r + 1) - 97 ∧ ho r = tx (4 * r + 2) - 48) : EdOK on ot ho nu := by
  have hR := numF_R (tx := tx) hT.1
  refine ⟨by omega, fun r h0 h1 => ?_⟩
  obtain ⟨e1, e2, e3⟩ := hv r h0 h1
  have := road_in (tx := tx) (r := r) hT.1 (by omega)
  omega
theorem RdOK.ed {tx on ot ho wy : Int → Int} {by0 nu fl : Int} (h : RdOK tx on ot ho wy by0 nu fl) : EdOK on ot ho nu := ed_of h.1 h.2.2.1 h.2.2.2.1
theorem RdOK.mat {tx on ot ho wy : Int → Int} {by0 nu fl : Int} (h : RdOK tx on ot ho wy by0 nu fl) : MatOK wy := by
  obtain ⟨wy0, e⟩ := h.2.2.2.2
  rw [e]
  exact way_ok h.ed
theorem RoadsC.fr {w w2 : AW} {tx : Int → Int} {by0 : Int} (fr : ∀ k : Nat, 1 ≤ k → k ≤ 6 → w2 k = w k) (h : RoadsC w tx by0) : RoadsC w2 tx by0 := by
  obtain ⟨on, ot, ho, wy, nu, fl, ⟨h1, h2, h3, h4, h5, h6⟩, h7⟩ := h
  exact ⟨on, ot, ho, wy, nu, fl, ⟨(fr 1 (by omega) (by omega)).trans h1, (fr 2 (by omega) (by omega)).trans h2, (fr 3 (by omega) (by omega)).trans h3, (fr 4 (by omega) (by omega)).trans h4, (fr 5 (by omega) (by omega)).trans h5, (fr 6 (by omega) (by omega)).trans h6⟩, h7⟩
theorem RoadsC.up {w : AW} {tx : Int → Int} {by0 : Int} {k : Nat} {c : AC} (hk : k < 1 ∨ 6 < k) (h : RoadsC w tx by0) : RoadsC (upw w k c) tx by0 := h.fr (fun j h1 h2 => upw_o (by omega) rfl)
set_option maxRecDepth 20000 in
set_option maxHeartbeats 4000000 in
theorem tX6_reaches {l : Launch} {x : Cx} {d : Nat} {w : AW} {tx on ot ho wy : Int → Int} {by0 nu fl : Int} {a b : Int} (hd : 1 ≤ d) (hA : RoadsAt w tx on ot ho wy by0 nu fl) (hM : MatOK wy) (hl : 0 ≤ a ∧ a ≤ 7) (hb : 0 ≤ b ∧ b ≤ 7) : Mt l x iX6_reaches d 0 0 50 w [vR 1, vI a, vI b] (Rd (vI (b2i (wy (a * 8 + b) < 1000))) w) := by
  obtain ⟨q1, q2, q3, q4, q5, q6⟩ := hA
  refine Mt.of (L0 := [some (vR 1), some (vI a), some (vI b)]) rfl rfl rfl ?_
  refine gj_al0 dX6_reaches_0 ?_
  refine gj_il1 dX6_reaches_1 ?_
  refine gj_il2 dX6_reaches_2 ?_
  refine gj_cV2r dX6_reaches_3 mX6_61 hX6_shortest q1 rfl (by omega) rfl (tX6_shortest  (by omega) ⟨q1, q2, q3, q4, q5, q6⟩ (by omega) (by omega)) ?_
  refine gj_sipush dX6_reaches_6 rfl ?_
  have m1 := hM (a * 8 + b) (by omega) (by omega)
  refine gj_icmp_ge dX6_reaches_9 (by omega) (fun h9 => ?_) (fun h9 => ?_)
  · refine gj_iconst dX6_reaches_16 ?_
    exact gj_zret (Or.inl rfl) dX6_reaches_17 rfl (rd_i (b2i_f (by omega)).symm)
  · refine gj_iconst dX6_reaches_12 ?_
    refine gj_goto dX6_reaches_13 ?_
    exact gj_zret (Or.inr rfl) dX6_reaches_17 rfl (rd_i (b2i_t (by omega)).symm)
set_option maxRecDepth 20000 in
set_option maxHeartbeats 4000000 in
theorem tX6_end {l : Launch} {x : Cx} {d : Nat} {w : AW} {tx on ot ho wy : Int → Int} {by0 nu fl : Int} {r k : Int} (hd : 0 ≤ d) (hA : RoadsAt w tx on ot ho wy by0 nu fl) (hr : 0 ≤ r ∧ r < 12) (hk : R32 k) : Mt l x iX6_end d 0 0 50 w [vR 1, vI r, vI k] (Rd (vI (if k = 0 then on r else ot r)) w) := by
  obtain ⟨q1, q2, q3, q4, q5, q6⟩ := hA
  refine Mt.of (L0 := [some (vR 1), some (vI r), some (vI k)]) rfl rfl rfl ?_
  refine gj_il2 dX6_end_0 ?_
  refine gj_if_ne dX6_end_1 (by omega) (fun h1 => ?_) (fun h1 => ?_)
  · refine gj_al0 dX6_end_13 ?_
    refine gj_get dX6_end_14 fX6_18 q1 rfl rfl ?_
    refine gj_il1 dX6_end_17 ?_
    refine gj_iald dX6_end_18 q4 rfl rfl (by omega) ?_
    exact gj_iret dX6_end_19 rfl (rd_i (by rw [if_neg h1]))
  · refine gj_al0 dX6_end_4 ?_
    refine gj_get dX6_end_5 fX6_15 q1 rfl rfl ?_
    refine gj_il1 dX6_end_8 ?_
    refine gj_iald dX6_end_9 q3 rfl rfl (by omega) ?_
    refine gj_goto dX6_end_10 ?_
    exact gj_iret dX6_end_19 rfl (rd_i (by rw [if_pos h1]))
set_option maxRecDepth 20000 in
set_option maxHeartbeats 4000000 in
theorem tX6_across {l : Launch} {x : Cx} {d : Nat} {w : AW} {tx on ot ho wy : Int → Int} {by0 nu fl : Int} {r l0 : Int} (hd : 0 ≤ d) (hA : RoadsAt w tx on ot ho wy by0 nu fl) (hE : EdOK on ot ho nu) (hr : 0 ≤ r ∧ r < nu) (hl : R32 l0) : Mt l x iX6_across d 0 0 50 w [vR 1, vI r, vI l0] (Rd (vI (acrF on ot r l0)) w) := by
  obtain ⟨q1, q2, q3, q4, q5, q6⟩ := hA
  have e9 := hE.2 r hr.1 hr.2
  have n9 := hE.1
  refine Mt.of (L0 := [some (vR 1), some (vI r), some (vI l0)]) rfl rfl rfl ?_
  refine gj_al0 dX6_across_0 ?_
  refine gj_get dX6_across_1 fX6_15 q1 rfl rfl ?_
  refine gj_il1 dX6_across_4 ?_
  refine gj_iald dX6_across_5 q3 rfl rfl (by omega) ?_
  refine gj_il2 dX6_across_6 ?_
  refine gj_icmp_ne dX6_across_7 (by omega) (fun h7 => ?_) (fun h7 => ?_)
  · refine gj_al0 dX6_across_17 ?_
    refine gj_get dX6_across_18 fX6_18 q1 rfl rfl ?_
    refine gj_il1 dX6_across_21 ?_
    refine gj_iald dX6_across_22 q4 rfl rfl (by omega) ?_
    refine gj_il2 dX6_across_23 ?_
    refine gj_icmp_ne dX6_across_24 (by omega) (fun h24 => ?_) (fun h24 => ?_)
    · refine gj_iconst dX6_across_36 ?_
      exact gj_iret dX6_across_37 rfl (rd_i (by unfold acrF; rw [if_neg h7, if_neg h24]))
    · refine gj_al0 dX6_across_27 ?_
      refine gj_get dX6_across_28 fX6_15 q1 rfl rfl ?_
      refine gj_il1 dX6_across_31 ?_
      refine gj_iald dX6_across_32 q3 rfl rfl (by omega) ?_
      refine gj_goto dX6_across_33 ?_
      exact gj_iret dX6_across_37 rfl (rd_i (by unfold acrF; rw [if_neg h7, if_pos h24]))
  · refine gj_al0 dX6_across_10 ?_
    refine gj_get dX6_across_11 fX6_18 q1 rfl rfl ?_
    refine gj_il1 dX6_across_14 ?_
    refine gj_iald dX6_across_15 q4 rfl rfl (by omega) ?_
    exact gj_iret dX6_across_16 rfl (rd_i (by unfold acrF; rw [if_pos h7]))
set_option maxRecDepth 20000 in
set_option maxHeartbeats 4000000 in
theorem tX6_nextLand {l : Launch} {x : Cx} {d : Nat} {w : AW} {tx on ot ho wy : Int → Int} {by0 nu fl : Int} {a b : Int} (hd : 1 ≤ d) (hA : RoadsAt w tx on ot ho wy by0 nu fl) (hE : EdOK on ot ho nu) (hM : MatOK wy) (hl : 0 ≤ a ∧ a ≤ 7) (hb : 0 ≤ b ∧ b ≤ 7) : Mt l x iX6_nextLand d 0 0 50 w [vR 1, vI a, vI b] (Rd (vI (nxtF on ot ho wy a b nu)) w) := by
  obtain ⟨q1, q2, q3, q4, q5, q6⟩ := hA
  refine Mt.of (L0 := [some (vR 1), some (vI a), some (vI b), none, none, none, none]) rfl rfl rfl ?_
  refine gj_iconst dX6_nextLand_0 ?_
  refine gj_is3 dX6_nextLand_1 rfl rfl ?_
  refine gj_iconst dX6_nextLand_2 ?_
  refine gj_is4 dX6_nextLand_3 rfl rfl ?_
  have loop5 : ∀ (k : Nat), ∀ (m i : Int), (0 ≤ i ∧ i ≤ nu) → (m = nxtF on ot ho wy a b i) → (nu - i).toNat < k → Gj l x iX6_nextLand d 0 0 50 (Rd (vI (nxtF on ot ho wy a b nu)) w) 0 0 50 w 5 [some (vR 1), some (vI a), some (vI b), some (vI m), some (vI i), none, none] [] := by
    intro k
    induction k with
    | zero => intro _ _ _ _ hm; exact absurd hm (Nat.not_lt_zero _)
    | succ k ih5 =>
      intro m i  hi ha hm5
      have n9 := hE.1
      have x9 := nxtF_R (wy := wy) (f := a) (t := b) hE i.toNat (by omega)
      have x8 : nxtN on ot ho wy a b i.toNat = m := ha.symm
      rw [x8] at x9
      have m0 := hM (a * 8 + b) (by omega) (by omega)
      refine gj_il4 dX6_nextLand_5 ?_
      refine gj_al0 dX6_nextLand_7 ?_
      refine gj_get dX6_nextLand_8 fX6_31 q1 rfl rfl ?_
      refine gj_icmp_ge dX6_nextLand_11 (by omega) (fun h11 => ?_) (fun h11 => ?_)
      · refine gj_il3 dX6_nextLand_85 ?_
        exact gj_iret dX6_nextLand_86 rfl (rd_i (by rw [ha, show i = nu by omega]))
      · have e9 := hE.2 i hi.1 (by omega)
        have a9 := acrF_R (l0 := a) hE (r := i) (by omega)
        refine gj_al0 dX6_nextLand_14 ?_
        refine gj_il4 dX6_nextLand_15 ?_
        refine gj_il1 dX6_nextLand_17 ?_
        refine gj_cV2r dX6_nextLand_18 mX6_70 hX6_across q1 rfl (by omega) rfl (tX6_across  (by omega) ⟨q1, q2, q3, q4, q5, q6⟩ hE (by omega) (by omega)) ?_
        refine gj_is5 dX6_nextLand_21 rfl rfl ?_
        refine gj_il5 dX6_nextLand_23 ?_
        refine gj_iconst dX6_nextLand_25 ?_
        refine gj_icmp_eq dX6_nextLand_26 (by omega) (fun h26 => ?_) (fun h26 => ?_)
        · refine gj_iconst dX6_nextLand_57 ?_
          refine gj_is6 dX6_nextLand_58 rfl rfl ?_
          refine gj_il6 dX6_nextLand_60 ?_
          refine gj_if_eq dX6_nextLand_62 (by omega) (fun _ => ?_) (fun h => absurd h (by omega))
          refine gj_ii4 dX6_nextLand_79 rfl rfl ?_
          refine gj_goto dX6_nextLand_82 ?_
          refine gj_dr5 ?_
          refine gj_dr6 ?_
          exact ih5 _ _ (by omega) (by rw [nxtF_s _ _ _ _ _ _ hi.1, if_neg (by rw [← ha]; omega), ha]) (by omega)
        · have m1 := hM (acrF on ot i a * 8 + b) (by omega) (by omega)
          refine gj_al0 dX6_nextLand_29 ?_
          refine gj_get dX6_nextLand_30 fX6_21 q1 rfl rfl ?_
          refine gj_il4 dX6_nextLand_33 ?_
          refine gj_iald dX6_nextLand_35 q5 rfl rfl (by omega) ?_
          refine gj_al0 dX6_nextLand_36 ?_
          refine gj_il5 dX6_nextLand_37 ?_
          refine gj_il2 dX6_nextLand_39 ?_
          refine gj_cV2r dX6_nextLand_40 mX6_61 hX6_shortest q1 rfl (by omega) rfl (tX6_shortest  (by omega) ⟨q1, q2, q3, q4, q5, q6⟩ (by omega) (by omega)) ?_
          refine gj_iadd dX6_nextLand_43 ?_
          refine gj_al0 dX6_nextLand_44 ?_
          refine gj_il1 dX6_nextLand_45 ?_
          refine gj_il2 dX6_nextLand_46 ?_
          refine gj_cV2r dX6_nextLand_47 mX6_61 hX6_shortest q1 rfl (by omega) rfl (tX6_shortest  (by omega) ⟨q1, q2, q3, q4, q5, q6⟩ (by omega) (by omega)) ?_
          refine gj_icmp_ne dX6_nextLand_50 (by omega) (fun h50 => ?_) (fun h50 => ?_)
          · refine gj_iconst dX6_nextLand_57 ?_
            refine gj_is6 dX6_nextLand_58 rfl rfl ?_
            refine gj_il6 dX6_nextLand_60 ?_
            refine gj_if_eq dX6_nextLand_62 (by omega) (fun _ => ?_) (fun h => absurd h (by omega))
            refine gj_ii4 dX6_nextLand_79 rfl rfl ?_
            refine gj_goto dX6_nextLand_82 ?_
            refine gj_dr5 ?_
            refine gj_dr6 ?_
            exact ih5 _ _ (by omega) (by rw [nxtF_s _ _ _ _ _ _ hi.1, if_neg (by rw [← ha]; omega), ha]) (by omega)
          · refine gj_iconst dX6_nextLand_53 ?_
            refine gj_goto dX6_nextLand_54 ?_
            refine gj_is6 dX6_nextLand_58 rfl rfl ?_
            refine gj_il6 dX6_nextLand_60 ?_
            refine gj_if_eq dX6_nextLand_62 (by omega) (fun h => absurd h (by omega)) (fun _ => ?_)
            refine gj_il3 dX6_nextLand_65 ?_
            refine gj_iconst dX6_nextLand_66 ?_
            refine gj_icmp_eq dX6_nextLand_67 (by omega) (fun h67 => ?_) (fun h67 => ?_)
            · refine gj_il5 dX6_nextLand_76 ?_
              refine gj_is3 dX6_nextLand_78 rfl rfl ?_
              refine gj_ii4 dX6_nextLand_79 rfl rfl ?_
              refine gj_goto dX6_nextLand_82 ?_
              refine gj_dr5 ?_
              refine gj_dr6 ?_
              exact ih5 _ _ (by omega) (by rw [nxtF_s _ _ _ _ _ _ hi.1, if_pos (by rw [← ha]; omega)]) (by omega)
            · refine gj_il5 dX6_nextLand_70 ?_
              refine gj_il3 dX6_nextLand_72 ?_
              refine gj_icmp_ge dX6_nextLand_73 (by omega) (fun h73 => ?_) (fun h73 => ?_)
              · refine gj_ii4 dX6_nextLand_79 rfl rfl ?_
                refine gj_goto dX6_nextLand_82 ?_
                refine gj_dr5 ?_
                refine gj_dr6 ?_
                exact ih5 _ _ (by omega) (by rw [nxtF_s _ _ _ _ _ _ hi.1, if_neg (by rw [← ha]; omega), ha]) (by omega)
              · refine gj_il5 dX6_nextLand_76 ?_
                refine gj_is3 dX6_nextLand_78 rfl rfl ?_
                refine gj_ii4 dX6_nextLand_79 rfl rfl ?_
                refine gj_goto dX6_nextLand_82 ?_
                refine gj_dr5 ?_
                refine gj_dr6 ?_
                exact ih5 _ _ (by omega) (by rw [nxtF_s _ _ _ _ _ _ hi.1, if_pos (by rw [← ha]; omega)]) (by omega)
  exact loop5 _ _ _ (by omega) rfl (Nat.lt_succ_self _)
set_option maxRecDepth 20000 in
set_option maxHeartbeats 4000000 in
theorem tX6_allHours {l : Launch} {x : Cx} {d : Nat} {w : AW} {tx on ot ho wy : Int → Int} {by0 nu fl : Int} (hd : 0 ≤ d) (hA : RoadsAt w tx on ot ho wy by0 nu fl) (hn : 0 ≤ nu ∧ nu ≤ 12) : Mt l x iX6_allHours d 0 0 50 w [vR 1] (Rd (vI (sumZ ho nu)) w) := by
  obtain ⟨q1, q2, q3, q4, q5, q6⟩ := hA
  refine Mt.of (L0 := [some (vR 1), none, none]) rfl rfl rfl ?_
  refine gj_iconst dX6_allHours_0 ?_
  refine gj_is1 dX6_allHours_1 rfl rfl ?_
  refine gj_iconst dX6_allHours_2 ?_
  refine gj_is2 dX6_allHours_3 rfl rfl ?_
  have loop4 : ∀ (k : Nat), ∀ (a i : Int), (0 ≤ i ∧ i ≤ nu) → (a = sumZ ho i) → (nu - i).toNat < k → Gj l x iX6_allHours d 0 0 50 (Rd (vI (sumZ ho nu)) w) 0 0 50 w 4 [some (vR 1), some (vI a), some (vI i)] [] := by
    intro k
    induction k with
    | zero => intro _ _ _ _ hm; exact absurd hm (Nat.not_lt_zero _)
    | succ k ih4 =>
      intro a i  hi ha hm4
      refine gj_il2 dX6_allHours_4 ?_
      refine gj_al0 dX6_allHours_5 ?_
      refine gj_get dX6_allHours_6 fX6_31 q1 rfl rfl ?_
      refine gj_icmp_ge dX6_allHours_9 (by omega) (fun h9 => ?_) (fun h9 => ?_)
      · refine gj_il1 dX6_allHours_27 ?_
        exact gj_iret dX6_allHours_28 rfl (rd_i (by rw [ha, show i = nu by omega]))
      · refine gj_il1 dX6_allHours_12 ?_
        refine gj_al0 dX6_allHours_13 ?_
        refine gj_get dX6_allHours_14 fX6_21 q1 rfl rfl ?_
        refine gj_il2 dX6_allHours_17 ?_
        refine gj_iald dX6_allHours_18 q5 rfl rfl (by omega) ?_
        refine gj_iadd dX6_allHours_19 ?_
        refine gj_is1 dX6_allHours_20 rfl rfl ?_
        refine gj_ii2 dX6_allHours_21 rfl rfl ?_
        refine gj_goto dX6_allHours_24 ?_
        exact ih4 _ _ (by omega) (by rw [sumZ_s _ hi.1, ha]) (by omega)
  exact loop4 _ _ _ (by omega) rfl (Nat.lt_succ_self _)
set_option maxRecDepth 20000 in
set_option maxHeartbeats 4000000 in
theorem tX6_goesOn {l : Launch} {x : Cx} {d : Nat} {w : AW} {tx on ot ho wy : Int → Int} {by0 nu fl : Int} {p : Int} (hd : 0 ≤ d) (hA : RoadsAt w tx on ot ho wy by0 nu fl) (hT : TxOK tx by0) (hp : 0 ≤ p ∧ p < by0) : Mt l x iX6_goesOn d 0 0 50 w [vR 1, vI p] (Rd (vI (b2i (goB tx p = true))) w) := by
  obtain ⟨q1, q2, q3, q4, q5, q6⟩ := hA
  have t9 := hT.2 p hp.1 hp.2
  have b9 := hT.1
  refine Mt.of (L0 := [some (vR 1), some (vI p), none]) rfl rfl rfl ?_
  refine gj_al0 dX6_goesOn_0 ?_
  refine gj_get dX6_goesOn_1 fX6_11 q1 rfl rfl ?_
  refine gj_il1 dX6_goesOn_4 ?_
  refine gj_iald dX6_goesOn_5 q2 rfl rfl (by omega) ?_
  refine gj_is2 dX6_goesOn_6 rfl rfl ?_
  refine gj_il1 dX6_goesOn_7 ?_
  refine gj_iconst dX6_goesOn_8 ?_
  refine gj_irem dX6_goesOn_9 (by omega) (by omega) ?_
  refine gj_tsw3 (t0 := 36) (t1 := 54) (t2 := 84) (td := 102) dX6_goesOn_10 (by omega) (by decide) (by decide) (by decide) (by decide) (fun h10 => ?_) (fun h10 => ?_) (fun h10 => ?_) (fun h10 => ?_)
  · refine gj_il2 dX6_goesOn_36 ?_
    refine gj_bipush dX6_goesOn_37 rfl ?_
    refine gj_icmp_lt dX6_goesOn_39 (by omega) (fun h39 => ?_) (fun h39 => ?_)
    · refine gj_iconst dX6_goesOn_52 ?_
      exact gj_zret (Or.inl rfl) dX6_goesOn_53 rfl (rd_i (by first | exact (b2i_t ((goB_0 (by omega)).mpr (by omega))).symm | exact (b2i_f (by rw [goB_0 (by omega)]; omega)).symm))
    · refine gj_il2 dX6_goesOn_42 ?_
      refine gj_bipush dX6_goesOn_43 rfl ?_
      refine gj_icmp_gt dX6_goesOn_45 (by omega) (fun h45 => ?_) (fun h45 => ?_)
      · refine gj_iconst dX6_goesOn_52 ?_
        exact gj_zret (Or.inl rfl) dX6_goesOn_53 rfl (rd_i (by first | exact (b2i_t ((goB_0 (by omega)).mpr (by omega))).symm | exact (b2i_f (by rw [goB_0 (by omega)]; omega)).symm))
      · refine gj_iconst dX6_goesOn_48 ?_
        refine gj_goto dX6_goesOn_49 ?_
        exact gj_zret (Or.inr rfl) dX6_goesOn_53 rfl (rd_i (by first | exact (b2i_t ((goB_0 (by omega)).mpr (by omega))).symm | exact (b2i_f (by rw [goB_0 (by omega)]; omega)).symm))
  · refine gj_il2 dX6_goesOn_54 ?_
    refine gj_bipush dX6_goesOn_55 rfl ?_
    refine gj_icmp_lt dX6_goesOn_57 (by omega) (fun h57 => ?_) (fun h57 => ?_)
    · refine gj_iconst dX6_goesOn_82 ?_
      exact gj_zret (Or.inl rfl) dX6_goesOn_83 rfl (rd_i (by first | exact (b2i_t ((goB_1 (by omega)).mpr (by omega))).symm | exact (b2i_f (by rw [goB_1 (by omega)]; omega)).symm))
    · refine gj_il2 dX6_goesOn_60 ?_
      refine gj_bipush dX6_goesOn_61 rfl ?_
      refine gj_icmp_gt dX6_goesOn_63 (by omega) (fun h63 => ?_) (fun h63 => ?_)
      · refine gj_iconst dX6_goesOn_82 ?_
        exact gj_zret (Or.inl rfl) dX6_goesOn_83 rfl (rd_i (by first | exact (b2i_t ((goB_1 (by omega)).mpr (by omega))).symm | exact (b2i_f (by rw [goB_1 (by omega)]; omega)).symm))
      · refine gj_il2 dX6_goesOn_66 ?_
        refine gj_al0 dX6_goesOn_67 ?_
        refine gj_get dX6_goesOn_68 fX6_11 q1 rfl rfl ?_
        refine gj_il1 dX6_goesOn_71 ?_
        refine gj_iconst dX6_goesOn_72 ?_
        refine gj_isub dX6_goesOn_73 ?_
        refine gj_iald dX6_goesOn_74 q2 rfl rfl (by omega) ?_
        have t8 := hT.2 (p - 1) (by omega) (by omega)
        refine gj_icmp_eq dX6_goesOn_75 (by omega) (fun h75 => ?_) (fun h75 => ?_)
        · refine gj_iconst dX6_goesOn_82 ?_
          exact gj_zret (Or.inl rfl) dX6_goesOn_83 rfl (rd_i (by first | exact (b2i_t ((goB_1 (by omega)).mpr (by omega))).symm | exact (b2i_f (by rw [goB_1 (by omega)]; omega)).symm))
        · refine gj_iconst dX6_goesOn_78 ?_
          refine gj_goto dX6_goesOn_79 ?_
          exact gj_zret (Or.inr rfl) dX6_goesOn_83 rfl (rd_i (by first | exact (b2i_t ((goB_1 (by omega)).mpr (by omega))).symm | exact (b2i_f (by rw [goB_1 (by omega)]; omega)).symm))
  · refine gj_il2 dX6_goesOn_84 ?_
    refine gj_bipush dX6_goesOn_85 rfl ?_
    refine gj_icmp_lt dX6_goesOn_87 (by omega) (fun h87 => ?_) (fun h87 => ?_)
    · refine gj_iconst dX6_goesOn_100 ?_
      exact gj_zret (Or.inl rfl) dX6_goesOn_101 rfl (rd_i (by first | exact (b2i_t ((goB_2 (by omega)).mpr (by omega))).symm | exact (b2i_f (by rw [goB_2 (by omega)]; omega)).symm))
    · refine gj_il2 dX6_goesOn_90 ?_
      refine gj_bipush dX6_goesOn_91 rfl ?_
      refine gj_icmp_gt dX6_goesOn_93 (by omega) (fun h93 => ?_) (fun h93 => ?_)
      · refine gj_iconst dX6_goesOn_100 ?_
        exact gj_zret (Or.inl rfl) dX6_goesOn_101 rfl (rd_i (by first | exact (b2i_t ((goB_2 (by omega)).mpr (by omega))).symm | exact (b2i_f (by rw [goB_2 (by omega)]; omega)).symm))
      · refine gj_iconst dX6_goesOn_96 ?_
        refine gj_goto dX6_goesOn_97 ?_
        exact gj_zret (Or.inr rfl) dX6_goesOn_101 rfl (rd_i (by first | exact (b2i_t ((goB_2 (by omega)).mpr (by omega))).symm | exact (b2i_f (by rw [goB_2 (by omega)]; omega)).symm))
  · refine gj_il2 dX6_goesOn_102 ?_
    refine gj_bipush dX6_goesOn_103 rfl ?_
    refine gj_icmp_ne dX6_goesOn_105 (by omega) (fun h105 => ?_) (fun h105 => ?_)
    · refine gj_iconst dX6_goesOn_112 ?_
      exact gj_zret (Or.inl rfl) dX6_goesOn_113 rfl (rd_i (by first | exact (b2i_t ((goB_3 (by omega)).mpr (by omega))).symm | exact (b2i_f (by rw [goB_3 (by omega)]; omega)).symm))
    · refine gj_iconst dX6_goesOn_108 ?_
      refine gj_goto dX6_goesOn_109 ?_
      exact gj_zret (Or.inr rfl) dX6_goesOn_113 rfl (rd_i (by first | exact (b2i_t ((goB_3 (by omega)).mpr (by omega))).symm | exact (b2i_f (by rw [goB_3 (by omega)]; omega)).symm))
set_option maxRecDepth 20000 in
set_option maxHeartbeats 4000000 in
theorem tX6_firstFault {l : Launch} {x : Cx} {d : Nat} {w : AW} {tx on ot ho wy : Int → Int} {by0 nu fl : Int} (hd : 1 ≤ d) (hA : RoadsAt w tx on ot ho wy by0 nu fl) (hT : TxOK tx by0) : Mt l x iX6_firstFault d 0 0 50 w [vR 1] (Rd (vI (fltF tx by0)) w) := by
  obtain ⟨q1, q2, q3, q4, q5, q6⟩ := hA
  have b9 := hT.1
  refine Mt.of (L0 := [some (vR 1), none]) rfl rfl rfl ?_
  refine gj_iconst dX6_firstFault_0 ?_
  refine gj_is1 dX6_firstFault_1 rfl rfl ?_
  have loop2 : ∀ (k : Nat), ∀ (i : Int), (0 ≤ i ∧ i ≤ by0) → (fstZ (fun p => !(goB tx p)) i by0 = fstZ (fun p => !(goB tx p)) 0 by0) → (by0 - i).toNat < k → Gj l x iX6_firstFault d 0 0 50 (Rd (vI (fltF tx by0)) w) 0 0 50 w 2 [some (vR 1), some (vI i)] [] := by
    intro k
    induction k with
    | zero => intro _ _ _ hm; exact absurd hm (Nat.not_lt_zero _)
    | succ k ih2 =>
      intro i  hi ha hm2
      refine gj_il1 dX6_firstFault_2 ?_
      refine gj_al0 dX6_firstFault_3 ?_
      refine gj_get dX6_firstFault_4 fX6_27 q1 rfl rfl ?_
      refine gj_icmp_ge dX6_firstFault_7 (by omega) (fun h7 => ?_) (fun h7 => ?_)
      · refine gj_al0 dX6_firstFault_26 ?_
        refine gj_get dX6_firstFault_27 fX6_27 q1 rfl rfl ?_
        refine gj_if_eq dX6_firstFault_30 (by omega) (fun h30 => ?_) (fun h30 => ?_)
        · refine gj_iconst dX6_firstFault_43 ?_
          refine gj_goto dX6_firstFault_44 ?_
          exact gj_iret dX6_firstFault_51 rfl (rd_i (by unfold fltF; rw [← ha, fstZ_end (by omega), if_neg (by omega), if_pos (by omega)]))
        · refine gj_al0 dX6_firstFault_33 ?_
          refine gj_get dX6_firstFault_34 fX6_27 q1 rfl rfl ?_
          refine gj_iconst dX6_firstFault_37 ?_
          refine gj_irem dX6_firstFault_38 (by omega) (by omega) ?_
          refine gj_iconst dX6_firstFault_39 ?_
          refine gj_icmp_ne dX6_firstFault_40 (by omega) (fun h40 => ?_) (fun h40 => ?_)
          · refine gj_al0 dX6_firstFault_47 ?_
            refine gj_get dX6_firstFault_48 fX6_27 q1 rfl rfl ?_
            exact gj_iret dX6_firstFault_51 rfl (rd_i (by unfold fltF; rw [← ha, fstZ_end (by omega), if_neg (by omega), if_neg (by omega)]))
          · refine gj_iconst dX6_firstFault_43 ?_
            refine gj_goto dX6_firstFault_44 ?_
            exact gj_iret dX6_firstFault_51 rfl (rd_i (by unfold fltF; rw [← ha, fstZ_end (by omega), if_neg (by omega), if_pos (by omega)]))
      · refine gj_al0 dX6_firstFault_10 ?_
        refine gj_il1 dX6_firstFault_11 ?_
        refine gj_cV1r dX6_firstFault_12 mX6_53 hX6_goesOn q1 rfl (by omega) rfl (tX6_goesOn  (by omega) ⟨q1, q2, q3, q4, q5, q6⟩ hT (by omega)) ?_
        refine gj_ifB_ne dX6_firstFault_15 (fun h15 => ?_) (fun h15 => ?_)
        · refine gj_ii1 dX6_firstFault_20 rfl rfl ?_
          refine gj_goto dX6_firstFault_23 ?_
          exact ih2 _ (by omega) (by rw [← ha, ← fstZ_no (by omega) (by simp [h15])]) (by omega)
        · refine gj_il1 dX6_firstFault_18 ?_
          exact gj_iret dX6_firstFault_19 rfl (rd_i (by unfold fltF; rw [← ha, fstZ_yes (by omega) (by simpa using h15), if_pos (by omega)]))
  exact loop2 _ _ (by omega) rfl (Nat.lt_succ_self _)
set_option maxRecDepth 20000 in
set_option maxHeartbeats 4000000 in
theorem tX6_settle {l : Launch} {x : Cx} {d : Nat} {w : AW} {tx on ot ho wy : Int → Int} {by0 nu fl : Int} (hd : 3 ≤ d) (hA : RoadsAt w tx on ot ho wy by0 nu fl) (hT : TxOK tx by0) : Mt l x iX6_settle d 0 0 50 w [vR 1] (Wv (fun w2 => RoadsC w2 tx by0 ∧ ∀ k : Nat, (k < 1 ∨ 6 < k) → w2 k = w k)) := by
  obtain ⟨q1, q2, q3, q4, q5, q6⟩ := hA
  have b9 := hT.1
  have f9 := fltF_R (tx := tx) hT.1.1
  refine Mt.of (L0 := [some (vR 1), none]) rfl rfl rfl ?_
  have loop34 : ∀ (k : Nat), ∀ (w1 : AW), ∀ (on1 ot1 ho1 : Int → Int) (nn i : Int), (w1 1 = cO 6 [vR 2, vR 3, vR 4, vR 5, vR 6, vI by0, vI nn, vI (fltF tx by0)]) → (w1 2 = cI 47 tx) → (w1 3 = cI 12 on1) → (w1 4 = cI 12 ot1) → (w1 5 = cI 12 ho1) → (w1 6 = cI 64 wy) → (∀ k : Nat, (k < 1 ∨ 6 < k) → w1 k = w k) → (nn = numF tx by0) → (0 ≤ i ∧ i ≤ nn) → (∀ r : Int, 0 ≤ r → r < i → on1 r = tx (4 * r) - 97 ∧ ot1 r = tx (4 * r + 1) - 97 ∧ ho1 r = tx (4 * r + 2) - 48) → (nn - i).toNat < k → Gj l x iX6_settle d 0 0 50 (Wv (fun w2 => RoadsC w2 tx by0 ∧ ∀ k : Nat, (k < 1 ∨ 6 < k) → w2 k = w k)) 0 0 50 w1 34 [some (vR 1), some (vI i)] [] := by
    intro k
    induction k with
    | zero => intro _ _ _ _ _ _ _ _ _ _ _ _ _ _ _ _ hm; exact absurd hm (Nat.not_lt_zero _)
    | succ k ih34 =>
      intro w1 on1 ot1 ho1 nn i g1 g2 g3 g4 g5 g6 fr hn hi hv hm34
      have n9 := numF_R (tx := tx) hT.1
      refine gj_il1 dX6_settle_34 ?_
      refine gj_al0 dX6_settle_35 ?_
      refine gj_get dX6_settle_36 fX6_31 g1 rfl rfl ?_
      refine gj_icmp_ge dX6_settle_39 (by omega) (fun h39 => ?_) (fun h39 => ?_)
      · refine gj_al0 dX6_settle_103 ?_
        have hE9 := ed_of hT hn (on := on1) (ot := ot1) (ho := ho1) (by rw [show nn = i by omega]; exact hv)
        refine gj_cV0v dX6_settle_104 mX6_50 hX6_measure g1 rfl (by omega) rfl (tX6_measure  (by omega) ⟨g1, g2, g3, g4, g5, g6⟩ hE9) (fun w104 P104 => ?_)
        obtain rfl := P104
        exact gj_vret dX6_settle_107 rfl (wv_v ⟨⟨on1, ot1, ho1, _, nn, _, ⟨upw_o (by decide) g1, upw_o (by decide) g2, upw_o (by decide) g3, upw_o (by decide) g4, upw_o (by decide) g5, upw_s⟩, hT, rfl, hn, (by rw [show nn = i by omega]; exact hv), wy, rfl⟩, fun k hk => upw_o (by omega) (fr k hk)⟩)
      · have rd := road_in (tx := tx) (r := i) hT.1 (by omega)
        refine gj_al0 dX6_settle_42 ?_
        refine gj_get dX6_settle_43 fX6_15 g1 rfl rfl ?_
        refine gj_il1 dX6_settle_46 ?_
        refine gj_al0 dX6_settle_47 ?_
        refine gj_get dX6_settle_48 fX6_11 g1 rfl rfl ?_
        refine gj_iconst dX6_settle_51 ?_
        refine gj_il1 dX6_settle_52 ?_
        refine gj_imul dX6_settle_53 ?_
        refine gj_iald dX6_settle_54 g2 rfl rfl (by omega) ?_
        refine gj_bipush dX6_settle_55 rfl ?_
        refine gj_isub dX6_settle_57 ?_
        refine gj_iast dX6_settle_58 g3 rfl rfl (by omega) ?_
        refine gj_al0 dX6_settle_59 ?_
        refine gj_get dX6_settle_60 fX6_18 (upw_o (by decide) g1) rfl rfl ?_
        refine gj_il1 dX6_settle_63 ?_
        refine gj_al0 dX6_settle_64 ?_
        refine gj_get dX6_settle_65 fX6_11 (upw_o (by decide) g1) rfl rfl ?_
        refine gj_iconst dX6_settle_68 ?_
        refine gj_il1 dX6_settle_69 ?_
        refine gj_imul dX6_settle_70 ?_
        refine gj_iconst dX6_settle_71 ?_
        refine gj_iadd dX6_settle_72 ?_
        refine gj_iald dX6_settle_73 (upw_o (by decide) g2) rfl rfl (by omega) ?_
        refine gj_bipush dX6_settle_74 rfl ?_
        refine gj_isub dX6_settle_76 ?_
        refine gj_iast dX6_settle_77 (upw_o (by decide) g4) rfl rfl (by omega) ?_
        refine gj_al0 dX6_settle_78 ?_
        refine gj_get dX6_settle_79 fX6_21 (upw_o (by decide) (upw_o (by decide) g1)) rfl rfl ?_
        refine gj_il1 dX6_settle_82 ?_
        refine gj_al0 dX6_settle_83 ?_
        refine gj_get dX6_settle_84 fX6_11 (upw_o (by decide) (upw_o (by decide) g1)) rfl rfl ?_
        refine gj_iconst dX6_settle_87 ?_
        refine gj_il1 dX6_settle_88 ?_
        refine gj_imul dX6_settle_89 ?_
        refine gj_iconst dX6_settle_90 ?_
        refine gj_iadd dX6_settle_91 ?_
        refine gj_iald dX6_settle_92 (upw_o (by decide) (upw_o (by decide) g2)) rfl rfl (by omega) ?_
        refine gj_bipush dX6_settle_93 rfl ?_
        refine gj_isub dX6_settle_95 ?_
        refine gj_iast dX6_settle_96 (upw_o (by decide) (upw_o (by decide) g5)) rfl rfl (by omega) ?_
        refine gj_ii1 dX6_settle_97 rfl rfl ?_
        refine gj_goto dX6_settle_100 ?_
        exact ih34 _ _ _ _ _ _ (upw_o (by decide) (upw_o (by decide) (upw_o (by decide) g1))) (upw_o (by decide) (upw_o (by decide) (upw_o (by decide) g2))) (upw_o (by decide) (upw_o (by decide) upw_s)) (upw_o (by decide) upw_s) upw_s (upw_o (by decide) (upw_o (by decide) (upw_o (by decide) g6))) (fun k hk => upw_o (by omega) (upw_o (by omega) (upw_o (by omega) (fr k hk)))) hn (by omega) (fun r g8 g9 => by by_cases e : r = i; (subst e; exact ⟨upf_s _ _ _, upf_s _ _ _, upf_s _ _ _⟩); (rw [upf_o _ _ e, upf_o _ _ e, upf_o _ _ e]; exact hv r g8 (by omega))) (by omega)
  refine gj_al0 dX6_settle_0 ?_
  refine gj_al0 dX6_settle_1 ?_
  refine gj_cV0r dX6_settle_2 mX6_46 hX6_firstFault q1 rfl (by omega) rfl (tX6_firstFault  (by omega) ⟨q1, q2, q3, q4, q5, q6⟩ hT) ?_
  refine gj_pI7 dX6_settle_5 fX6_34 q1 rfl ?_
  refine gj_al0 dX6_settle_8 ?_
  refine gj_al0 dX6_settle_9 ?_
  refine gj_get dX6_settle_10 fX6_34 upw_s rfl rfl ?_
  refine gj_iconst dX6_settle_13 ?_
  refine gj_icmp_ne dX6_settle_14 (by omega) (fun h14 => ?_) (fun h14 => ?_)
  · refine gj_iconst dX6_settle_28 ?_
    refine gj_pI6 dX6_settle_29 fX6_31 upw_s rfl ?_
    refine gj_iconst dX6_settle_32 ?_
    refine gj_is1 dX6_settle_33 rfl rfl ?_
    exact loop34 _ _ _ _ _ _ _ upw_s (upw_o (by decide) (upw_o (by decide) q2)) (upw_o (by decide) (upw_o (by decide) q3)) (upw_o (by decide) (upw_o (by decide) q4)) (upw_o (by decide) (upw_o (by decide) q5)) (upw_o (by decide) (upw_o (by decide) q6)) (fun k hk => upw_o (by omega) (upw_o (by omega) rfl)) (by unfold numF; rw [if_neg h14]) (by omega) (fun r g8 g9 => absurd g9 (by omega)) (Nat.lt_succ_self _)
  · refine gj_al0 dX6_settle_17 ?_
    refine gj_get dX6_settle_18 fX6_27 upw_s rfl rfl ?_
    refine gj_iconst dX6_settle_21 ?_
    refine gj_iadd dX6_settle_22 ?_
    refine gj_iconst dX6_settle_23 ?_
    refine gj_idiv dX6_settle_24 (by omega) (by omega) ?_
    refine gj_goto dX6_settle_25 ?_
    refine gj_pI6 dX6_settle_29 fX6_31 upw_s rfl ?_
    refine gj_iconst dX6_settle_32 ?_
    refine gj_is1 dX6_settle_33 rfl rfl ?_
    exact loop34 _ _ _ _ _ _ _ upw_s (upw_o (by decide) (upw_o (by decide) q2)) (upw_o (by decide) (upw_o (by decide) q3)) (upw_o (by decide) (upw_o (by decide) q4)) (upw_o (by decide) (upw_o (by decide) q5)) (upw_o (by decide) (upw_o (by decide) q6)) (fun k hk => upw_o (by omega) (upw_o (by omega) rfl)) (by unfold numF; rw [if_pos h14]) (by omega) (fun r g8 g9 => absurd g9 (by omega)) (Nat.lt_succ_self _)
