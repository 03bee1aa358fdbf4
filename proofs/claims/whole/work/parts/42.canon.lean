/-! answers hang on the roads of the text alone -/
abbrev Agr (on ot ho on2 ot2 ho2 : Int → Int) (nu : Int) : Prop := ∀ r : Int, 0 ≤ r → r < nu → on r = on2 r ∧ ot r = ot2 r ∧ ho r = ho2 r
theorem acr_eq {on ot ho on2 ot2 ho2 : Int → Int} {nu r a : Int} (h : Agr on ot ho on2 ot2 ho2 nu) (hr : 0 ≤ r ∧ r < nu) : acrF on ot r a = acrF on2 ot2 r a := by
  obtain ⟨e1, e2, -⟩ := h r hr.1 hr.2
  unfold acrF
  rw [e1, e2]
theorem gr_le {on ot ho wy on2 ot2 ho2 wy2 : Int → Int} {nu : Int} (hA : Agr on ot ho on2 ot2 ho2 nu) (hE : EdOK on2 ot2 ho2 nu) (hG : GrOK on ot ho wy nu) (hG2 : GrOK on2 ot2 ho2 wy2 nu) : ∀ (n : Nat) (a b : Int), In7 a → In7 b → (wy2 (a * 8 + b)).toNat ≤ n → wy (a * 8 + b) ≤ wy2 (a * 8 + b)
  | n, a, b, ha, hb, hn => by
    by_cases e : a = b
    · subst e
      rw [hG.1 a ha, hG2.1 a ha]; omega
    · by_cases c : wy2 (a * 8 + b) < 1000
      · obtain ⟨r, r0, r1, r2, r3⟩ := hG2.2.2.2.2 a b ha hb e c
        have hi := (acr_in hE ⟨r0, r1⟩ r2).1
        have h9 := hE.2 r r0 r1
        have hp := (hG2.2.1 a b ha hb e).1
        have e1 := acr_eq (a := a) hA ⟨r0, r1⟩
        have t := hG.2.2.2.1 a b r ha hb r0 r1 (by rw [e1]; exact r2)
        rw [e1, (hA r r0 r1).2.2] at t
        match n, hn with
        | 0, hn => omega
        | m + 1, hn =>
          have ih := gr_le hA hE hG hG2 m (acrF on2 ot2 r a) b hi hb (by omega)
          omega
      · have := (hG.2.1 a b ha hb e).2
        omega
theorem gr_eq {on ot ho wy on2 ot2 ho2 wy2 : Int → Int} {nu a b : Int} (hA : Agr on ot ho on2 ot2 ho2 nu) (hE : EdOK on ot ho nu) (hE2 : EdOK on2 ot2 ho2 nu) (hG : GrOK on ot ho wy nu) (hG2 : GrOK on2 ot2 ho2 wy2 nu) (ha : In7 a) (hb : In7 b) : wy (a * 8 + b) = wy2 (a * 8 + b) := by
  have hA2 : Agr on2 ot2 ho2 on ot ho nu := fun r h0 h1 => ⟨(hA r h0 h1).1.symm, (hA r h0 h1).2.1.symm, (hA r h0 h1).2.2.symm⟩
  have h1 := gr_le hA hE2 hG hG2 _ a b ha hb (Nat.le_refl _)
  have h2 := gr_le hA2 hE hG2 hG _ a b ha hb (Nat.le_refl _)
  omega
abbrev WyE (wy wy2 : Int → Int) : Prop := ∀ a b : Int, In7 a → In7 b → wy (a * 8 + b) = wy2 (a * 8 + b)
theorem nxtN_eq {on ot ho wy on2 ot2 ho2 wy2 : Int → Int} {nu a b : Int} (hA : Agr on ot ho on2 ot2 ho2 nu) (hE : EdOK on2 ot2 ho2 nu) (hy : WyE wy wy2) (ha : In7 a) (hb : In7 b) : ∀ k : Nat, (k : Int) ≤ nu → nxtN on ot ho wy a b k = nxtN on2 ot2 ho2 wy2 a b k
  | 0, _ => rfl
  | k + 1, hk => by
    rw [nxtN, nxtN, nxtN_eq hA hE hy ha hb k (by omega), acr_eq (a := a) hA (r := (k : Int)) (by omega), (hA (k : Int) (by omega) (by omega)).2.2, hy a b ha hb]
    by_cases c : acrF on2 ot2 (k : Int) a = -1
    · rw [if_neg (fun z => z.1 c), if_neg (fun z => z.1 c)]
    · rw [hy _ b (acr_in hE (by omega) c).1 hb]
theorem nxtF_eq {on ot ho wy on2 ot2 ho2 wy2 : Int → Int} {nu a b : Int} (hA : Agr on ot ho on2 ot2 ho2 nu) (hE : EdOK on2 ot2 ho2 nu) (hy : WyE wy wy2) (ha : In7 a) (hb : In7 b) : nxtF on ot ho wy a b nu = nxtF on2 ot2 ho2 wy2 a b nu := nxtN_eq hA hE hy ha hb _ (by have := hE.1; omega)
theorem pth_eq {W : Int → Int → Bool} {on ot ho wy on2 ot2 ho2 wy2 : Int → Int} {nu t off st : Int} (hA : Agr on ot ho on2 ot2 ho2 nu) (hE : EdOK on2 ot2 ho2 nu) (hG : GrOK on2 ot2 ho2 wy2 nu) (hy : WyE wy wy2) (ht : In7 t) : ∀ (k : Nat) (l0 : Int), In7 l0 → wy2 (l0 * 8 + t) < 1000 → pthN W wy (fun q => nxtF on ot ho wy q t nu) t off st k l0 = pthN W wy2 (fun q => nxtF on2 ot2 ho2 wy2 q t nu) t off st k l0
  | 0, _, _, _ => rfl
  | k + 1, l0, hl, hr => by
    rw [pthN, pthN]
    by_cases c : l0 = t
    · rw [if_pos c, if_pos c]
    · rw [if_neg c, if_neg c, hy l0 t hl ht]
      have e := nxtF_eq hA hE hy hl ht
      obtain ⟨n1, n2, -, -⟩ := nxt_ok hE hG hl ht c hr
      congr 1
      show pthN W wy _ t off st k (nxtF on ot ho wy l0 t nu) = _
      rw [e]
      exact pth_eq hA hE hG hy ht k _ n1 (by omega)
theorem raidB_eq {W : Int → Int → Bool} {on ot ho wy on2 ot2 ho2 wy2 : Int → Int} {nu f t s h : Int} (hA : Agr on ot ho on2 ot2 ho2 nu) (hE : EdOK on2 ot2 ho2 nu) (hG : GrOK on2 ot2 ho2 wy2 nu) (hy : WyE wy wy2) (hf : In7 f) (ht : In7 t) (hft : f ≠ t) (hr : wy2 (f * 8 + t) < 1000) : raidB W on ot ho wy nu f t s h = raidB W on2 ot2 ho2 wy2 nu f t s h := by
  obtain ⟨n1, n2, -, -⟩ := nxt_ok hE hG hf ht hft hr
  have hr2 : wy2 (t * 8 + f) < 1000 := by rw [hG.2.2.1 t f ht hf]; exact hr
  obtain ⟨m1, m2, -, -⟩ := nxt_ok hE hG ht hf (fun e => hft e.symm) hr2
  unfold raidB
  rw [hy f t hf ht, hy t f ht hf, nxtF_eq hA hE hy hf ht, nxtF_eq hA hE hy ht hf, pth_eq hA hE hG hy ht 8 _ n1 (by omega), pth_eq hA hE hG hy hf 8 _ m1 (by omega)]
theorem fstN_congr {p q : Int → Bool} : ∀ (n : Nat) (a : Int), (∀ i : Int, a ≤ i → i < a + (n : Int) → p i = q i) → fstN p n a = fstN q n a
  | 0, _, _ => rfl
  | n + 1, a, h => by
    rw [fstN, fstN, h a (by omega) (by omega), fstN_congr n (a + 1) (fun i g0 g1 => h i (by omega) (by omega))]
theorem fstZ_congr {p q : Int → Bool} {a b : Int} (h : ∀ i : Int, a ≤ i → i < b → p i = q i) : fstZ p a b = fstZ q a b := fstN_congr _ a (fun i g0 g1 => h i g0 (by omega))
theorem fldR_congr {g g2 : Int → BT → BT} : ∀ (k : Nat) (B : BT), (∀ (r : Int) (B : BT), 0 ≤ r → r < (k : Int) → g r B = g2 r B) → fldR g k B = fldR g2 k B
  | 0, _, _ => rfl
  | k + 1, B, h => by
    rw [fldR, fldR, fldR_congr k B (fun r B2 a b => h r B2 a (by omega)), h (k : Int) _ (by omega) (by omega)]
theorem wlk_eq {W : Int → Int → Bool} {fa on ot ho on2 ot2 ho2 : Int → Int} {nu go st : Int} (hn : 0 ≤ nu) (hA : Agr on ot ho on2 ot2 ho2 nu) : ∀ (k : Nat) (n : Int) (row : Int → Int) (hs ch : Int) (B : BT), wlk W fa on ot ho nu go st k n row hs ch B = wlk W fa on2 ot2 ho2 nu go st k n row hs ch B
  | 0, _, _, _, _, _ => rfl
  | k + 1, n, row, hs, ch, B => by
    rw [wlk, wlk]
    by_cases c : row n = go
    · rw [if_pos c, if_pos c]
    · rw [if_neg c, if_neg c]
      apply fldR_congr
      intro r B2 h0 h1
      rw [acr_eq (a := row n) hA (by omega), (hA r h0 (by omega)).2.2]
      split
      · exact wlk_eq hn hA k _ _ _ _ _
      · rfl
/-! the text's own roads -/
abbrev cOn (tx : Int → Int) : Int → Int := fun r => tx (4 * r) - 97
abbrev cOt (tx : Int → Int) : Int → Int := fun r => tx (4 * r + 1) - 97
abbrev cHo (tx : Int → Int) : Int → Int := fun r => tx (4 * r + 2) - 48
def cWy (tx : Int → Int) (by0 : Int) : Int → Int := wayF (cOn tx) (cOt tx) (cHo tx) (fun _ => 0) (numF tx by0)
theorem can_ok {tx : Int → Int} {by0 : Int} (hT : TxOK tx by0) : RdOK tx (cOn tx) (cOt tx) (cHo tx) (cWy tx by0) by0 (numF tx by0) (fltF tx by0) := ⟨hT, rfl, rfl, fun _ _ _ => ⟨rfl, rfl, rfl⟩, _, rfl⟩
theorem RdOK.agr {tx on ot ho wy : Int → Int} {by0 nu fl : Int} (h : RdOK tx on ot ho wy by0 nu fl) : Agr on ot ho (cOn tx) (cOt tx) (cHo tx) (numF tx by0) := by
  intro r h0 h1
  rw [← h.2.2.1] at h1
  exact h.2.2.2.1 r h0 h1
theorem RdOK.wye {tx on ot ho wy : Int → Int} {by0 nu fl : Int} (h : RdOK tx on ot ho wy by0 nu fl) : WyE wy (cWy tx by0) := by
  intro a b ha hb
  have hc := can_ok h.1
  have e := h.2.2.1
  have h1 := h.ed
  have h2 := h.gr
  rw [e] at h1 h2
  exact gr_eq h.agr h1 hc.ed h2 hc.gr ha hb
theorem RdW.agr {tx on ot ho wy : Int → Int} {by0 nu fl : Int} (h : RdW tx on ot ho wy by0 nu fl) : Agr on ot ho (cOn tx) (cOt tx) (cHo tx) (numF tx by0) := by
  intro r h0 h1
  rw [← h.2.2.1] at h1
  exact h.2.2.2.1 r h0 h1
theorem RdW.wyo {tx on ot ho wy : Int → Int} {by0 nu fl : Int} (h : RdW tx on ot ho wy by0 nu fl) : ∀ a b : Int, In7 a → In7 b → a ≠ b → wy (a * 8 + b) = cWy tx by0 (a * 8 + b) := by
  intro a b ha hb hab
  rcases h.2.2.2.2 with e | ⟨e1, e2⟩
  · exact RdOK.wye (nu := nu) (fl := fl) ⟨h.1, h.2.1, h.2.2.1, h.2.2.2.1, e⟩ a b ha hb
  · rw [e2 (a * 8 + b) (by omega) (by omega)]
    have e3 := h.2.2.1
    unfold cWy wayF
    rw [if_neg (by omega), base_at ha hb, if_neg hab]
def wayA (tx : Int → Int) (by0 a b k : Int) : Int := if (In7 a ∧ In7 b ∧ a ≠ b) ∧ (0 ≤ k ∧ k ≤ 1) then (if cWy tx by0 (a * 8 + b) < 1000 then (if k = 0 then cWy tx by0 (a * 8 + b) else nxtF (cOn tx) (cOt tx) (cHo tx) (cWy tx by0) a b (numF tx by0)) else -1) else -2
def raidA (W : Int → Int → Bool) (tx : Int → Int) (by0 a b s h : Int) : Int := if (In7 a ∧ In7 b ∧ a ≠ b) ∧ (1 ≤ s ∧ s ≤ 9) ∧ (0 ≤ h ∧ h ≤ 671) then (if cWy tx by0 (a * 8 + b) < 1000 then raidF W (cOn tx) (cOt tx) (cHo tx) (cWy tx by0) (numF tx by0) a b s h else -1) else -2
def homT (B : BT) (i : Int) : Int := if i = -4 then bShr B.2.2.1 (cmbF B.2.2.1) else if i = -3 then bShl 1 (24 - cmbF B.2.2.1) else if i = -2 then B.2.1 else if 0 ≤ i ∧ i ≤ B.1 then B.2.2.2 i else -1
def homA (W : Int → Int → Bool) (fa tx : Int → Int) (by0 a b h i : Int) : Int := if (In7 a ∧ In7 b ∧ a ≠ b) ∧ (0 ≤ h ∧ h ≤ 671) ∧ (-4 ≤ i ∧ i ≤ 7 ∧ i ≠ -1) then homT (homF W fa (cOn tx) (cOt tx) (cHo tx) (numF tx by0) a b h 16777216) i else -2
