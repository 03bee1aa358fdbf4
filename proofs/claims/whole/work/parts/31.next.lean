/-! the next land on a way; ranks; ways as rows of needs -/
theorem sumN_le {f g : Int → Int} : ∀ (n : Nat), (∀ i : Int, 0 ≤ i → i < (n : Int) → f i ≤ g i) → sumN f n ≤ sumN g n
  | 0, _ => Int.le_refl _
  | n + 1, h => by
    have h1 := sumN_le n (fun i a b => h i a (by omega))
    have h2 := h (n : Int) (by omega) (by omega)
    rw [sumN, sumN]
    omega
theorem sumN_lt {f g : Int → Int} : ∀ (n : Nat), (∀ i : Int, 0 ≤ i → i < (n : Int) → f i ≤ g i) → (∃ j : Int, 0 ≤ j ∧ j < (n : Int) ∧ f j < g j) → sumN f n < sumN g n
  | 0, _, ⟨j, h0, h1, _⟩ => absurd h1 (by omega)
  | n + 1, h, ⟨j, h0, h1, h2⟩ => by
    rw [sumN, sumN]
    have e1 := sumN_le n (fun i a b => h i a (by omega))
    have e2 := h (n : Int) (by omega) (by omega)
    by_cases c : j = (n : Int)
    · subst c
      omega
    · have := sumN_lt n (fun i a b => h i a (by omega)) ⟨j, h0, by omega, h2⟩
      omega
theorem nxt_inv (on ot ho wy : Int → Int) (a b : Int) : ∀ k : Nat, (nxtN on ot ho wy a b k = -1 ∧ ∀ r : Int, 0 ≤ r → r < (k : Int) → acrF on ot r a ≠ -1 → ho r + wy (acrF on ot r a * 8 + b) ≠ wy (a * 8 + b)) ∨ (nxtN on ot ho wy a b k ≠ -1 ∧ (∃ r : Int, 0 ≤ r ∧ r < (k : Int) ∧ acrF on ot r a = nxtN on ot ho wy a b k ∧ ho r + wy (nxtN on ot ho wy a b k * 8 + b) = wy (a * 8 + b)) ∧ ∀ r : Int, 0 ≤ r → r < (k : Int) → acrF on ot r a ≠ -1 → ho r + wy (acrF on ot r a * 8 + b) = wy (a * 8 + b) → nxtN on ot ho wy a b k ≤ acrF on ot r a)
  | 0 => Or.inl ⟨rfl, fun r h0 h1 => absurd h1 (by omega)⟩
  | k + 1 => by
    have ih := nxt_inv on ot ho wy a b k
    rw [nxtN]
    by_cases c : acrF on ot (k : Int) a ≠ -1 ∧ ho (k : Int) + wy (acrF on ot (k : Int) a * 8 + b) = wy (a * 8 + b) ∧ (nxtN on ot ho wy a b k = -1 ∨ acrF on ot (k : Int) a < nxtN on ot ho wy a b k)
    · rw [if_pos c]
      refine Or.inr ⟨c.1, ⟨(k : Int), by omega, by omega, rfl, c.2.1⟩, fun r h0 h1 h2 h3 => ?_⟩
      by_cases e : r = (k : Int)
      · rw [e]; exact Int.le_refl _
      · rcases ih with ⟨i1, i2⟩ | ⟨i1, -, i3⟩
        · exact absurd h3 (i2 r h0 (by omega) h2)
        · have := i3 r h0 (by omega) h2 h3
          omega
    · rw [if_neg c]
      rcases ih with ⟨i1, i2⟩ | ⟨i1, ⟨r0, j0, j1, j2, j3⟩, i3⟩
      · refine Or.inl ⟨i1, fun r h0 h1 h2 h3 => ?_⟩
        by_cases e : r = (k : Int)
        · subst e
          exact c ⟨h2, h3, Or.inl i1⟩
        · exact i2 r h0 (by omega) h2 h3
      · refine Or.inr ⟨i1, ⟨r0, j0, by omega, j2, j3⟩, fun r h0 h1 h2 h3 => ?_⟩
        by_cases e : r = (k : Int)
        · subst e
          rcases Int.lt_or_le (acrF on ot (k : Int) a) (nxtN on ot ho wy a b k) with h | h
          · exact absurd ⟨h2, h3, Or.inr h⟩ c
          · exact h
        · exact i3 r h0 (by omega) h2 h3
/-- the next land: it is one, nearer, at the end of a road that the way takes, the least such one -/
theorem nxt_ok {on ot ho wy : Int → Int} {nu a b : Int} (hE : EdOK on ot ho nu) (hG : GrOK on ot ho wy nu) (ha : In7 a) (hb : In7 b) (hab : a ≠ b) (hlt : wy (a * 8 + b) < 1000) : In7 (nxtF on ot ho wy a b nu) ∧ wy (nxtF on ot ho wy a b nu * 8 + b) < wy (a * 8 + b) ∧ (∃ r : Int, 0 ≤ r ∧ r < nu ∧ acrF on ot r a = nxtF on ot ho wy a b nu ∧ ho r + wy (nxtF on ot ho wy a b nu * 8 + b) = wy (a * 8 + b)) ∧ ∀ r : Int, 0 ≤ r → r < nu → acrF on ot r a ≠ -1 → ho r + wy (acrF on ot r a * 8 + b) = wy (a * 8 + b) → nxtF on ot ho wy a b nu ≤ acrF on ot r a := by
  have hn := hE.1
  have hi := nxt_inv on ot ho wy a b nu.toNat
  rw [show ((nu.toNat : Nat) : Int) = nu by omega] at hi
  obtain ⟨r, r0, r1, r2, r3⟩ := hG.2.2.2.2 a b ha hb hab hlt
  rcases hi with ⟨i1, i2⟩ | ⟨i1, ⟨q, q0, q1, q2, q3⟩, i3⟩
  · exact absurd r3 (i2 r r0 r1 r2)
  · have hin := acr_in hE ⟨q0, q1⟩ (by rw [q2]; exact i1)
    have hq := hE.2 q q0 q1
    rw [q2] at hin
    exact ⟨hin.1, by unfold nxtF; omega, ⟨q, q0, q1, q2, q3⟩, i3⟩
/-- how many lands are nearer -/
def rkF (wy : Int → Int) (t l0 : Int) : Int := sumZ (fun m => b2i (wy (m * 8 + t) < wy (l0 * 8 + t))) 8
theorem rk_lt {wy : Int → Int} {t a b : Int} (ha : In7 a) (h : wy (a * 8 + t) < wy (b * 8 + t)) : rkF wy t a < rkF wy t b := by
  unfold rkF sumZ
  refine sumN_lt 8 (fun i h0 h1 => ?_) ⟨a, ha.1, by omega, ?_⟩
  · show b2i _ ≤ b2i _
    by_cases c : wy (i * 8 + t) < wy (a * 8 + t)
    · rw [b2i_t c, b2i_t (by omega)]; omega
    · rw [b2i_f c]
      rcases b2i_R (wy (i * 8 + t) < wy (b * 8 + t)) with e | e <;> rw [e] <;> omega
  · show b2i _ < b2i _
    rw [b2i_f (by omega), b2i_t h]; omega
theorem rk_R {wy : Int → Int} {t a : Int} (ha : In7 a) : 0 ≤ rkF wy t a ∧ rkF wy t a ≤ 7 := by
  have h1 := sumZ_bd (f := fun m => b2i (wy (m * 8 + t) < wy (a * 8 + t))) (a := 0) (b := 1) (n := 8) (by omega) (fun i _ _ => by rcases b2i_R (wy (i * 8 + t) < wy (a * 8 + t)) with h | h <;> simp only [h] <;> omega)
  have h2 : sumN (fun m => b2i (wy (m * 8 + t) < wy (a * 8 + t))) 8 < sumN (fun _ => 1) 8 := by
    refine sumN_lt 8 (fun i h0 h1 => ?_) ⟨a, ha.1, by omega, ?_⟩
    · show b2i _ ≤ 1
      rcases b2i_R (wy (i * 8 + t) < wy (a * 8 + t)) with e | e <;> rw [e] <;> omega
    · show b2i _ < 1
      rw [b2i_f (by omega)]; omega
  have h3 : sumN (fun _ => (1 : Int)) 8 = 8 := by decide
  have h1 : 0 * 8 ≤ sumN (fun m => b2i (wy (m * 8 + t) < wy (a * 8 + t))) 8 ∧ sumN (fun m => b2i (wy (m * 8 + t) < wy (a * 8 + t))) 8 ≤ 1 * 8 := h1
  show 0 ≤ sumN (fun m => b2i (wy (m * 8 + t) < wy (a * 8 + t))) 8 ∧ sumN (fun m => b2i (wy (m * 8 + t) < wy (a * 8 + t))) 8 ≤ 7
  omega
/-- the lands between, on the way from a land: there is war in each when it is come to; off less the hours that are left behind the start -/
def pthN (W : Int → Int → Bool) (wy nx : Int → Int) (t off st : Int) : Nat → Int → Bool
  | 0, _ => true
  | k + 1, l0 => if l0 = t then true else W (st + (off - wy (l0 * 8 + t))) l0 && pthN W wy nx t off st k (nx l0)
theorem pth_st {W : Int → Int → Bool} {on ot ho wy : Int → Int} {nu t off st : Int} (hE : EdOK on ot ho nu) (hG : GrOK on ot ho wy nu) (ht : In7 t) : ∀ (k j : Nat) (l0 : Int), In7 l0 → wy (l0 * 8 + t) < 1000 → rkF wy t l0 ≤ (k : Int) → rkF wy t l0 ≤ (j : Int) → pthN W wy (fun q => nxtF on ot ho wy q t nu) t off st k l0 = pthN W wy (fun q => nxtF on ot ho wy q t nu) t off st j l0
  | 0, j, l0, hl, hr, hk, hj => by
    have hR := rk_R (wy := wy) (t := t) hl
    have e : l0 = t := by
      by_cases c : l0 = t
      · exact c
      · have e1 := (hG.2.1 l0 t hl ht c).1
        have e2 := hG.1 t ht
        have := rk_lt (wy := wy) (t := t) (a := t) (b := l0) ht (by omega)
        have := rk_R (wy := wy) (t := t) ht
        omega
    cases j with
    | zero => rfl
    | succ j => rw [pthN, pthN, if_pos e]
  | k + 1, 0, l0, hl, hr, hk, hj => by
    have e : l0 = t := by
      by_cases c : l0 = t
      · exact c
      · have e1 := (hG.2.1 l0 t hl ht c).1
        have e2 := hG.1 t ht
        have := rk_lt (wy := wy) (t := t) (a := t) (b := l0) ht (by omega)
        have := rk_R (wy := wy) (t := t) ht
        omega
    rw [pthN, pthN, if_pos e]
  | k + 1, j + 1, l0, hl, hr, hk, hj => by
    rw [pthN, pthN]
    by_cases c : l0 = t
    · rw [if_pos c, if_pos c]
    · rw [if_neg c, if_neg c]
      obtain ⟨n1, n2, -, -⟩ := nxt_ok hE hG hl ht c hr
      have := rk_lt (wy := wy) (t := t) n1 n2
      congr 1
      exact pth_st hE hG ht k j _ n1 (by omega) (by omega) (by omega)
theorem pth_s {W : Int → Int → Bool} {on ot ho wy : Int → Int} {nu t off st l0 : Int} (hE : EdOK on ot ho nu) (hG : GrOK on ot ho wy nu) (ht : In7 t) (hl : In7 l0) (hr : wy (l0 * 8 + t) < 1000) (c : l0 ≠ t) : pthN W wy (fun q => nxtF on ot ho wy q t nu) t off st 8 l0 = (W (st + (off - wy (l0 * 8 + t))) l0 && pthN W wy (fun q => nxtF on ot ho wy q t nu) t off st 8 (nxtF on ot ho wy l0 t nu)) := by
  obtain ⟨n1, n2, -, -⟩ := nxt_ok hE hG hl ht c hr
  have r1 := rk_lt (wy := wy) (t := t) n1 n2
  have r2 := rk_R (wy := wy) (t := t) hl
  rw [pthN, if_neg c]
  congr 1
  exact pth_st hE hG ht 7 8 _ n1 (by omega) (by omega) (by omega)
theorem pth_0 {W : Int → Int → Bool} {wy nx : Int → Int} {t off st : Int} : pthN W wy nx t off st 8 t = true := by rw [pthN, if_pos rfl]
/-- needs: war in a land, so many hours behind the start -/
def allN (W : Int → Int → Bool) (la be : Int → Int) (st : Int) : Nat → Bool
  | 0 => true
  | k + 1 => allN W la be st k && W (st + be (k : Int)) (la (k : Int))
def allZ (W : Int → Int → Bool) (la be : Int → Int) (st i : Int) : Bool := allN W la be st i.toNat
theorem allZ_s (W : Int → Int → Bool) (la be : Int → Int) (st : Int) {i : Int} (h : 0 ≤ i) : allZ W la be st (i + 1) = (allZ W la be st i && W (st + be i) (la i)) := by
  unfold allZ
  rw [show (i + 1).toNat = i.toNat + 1 by omega, allN, show ((i.toNat : Nat) : Int) = i by omega]
theorem allN_congr {W : Int → Int → Bool} {la be la2 be2 : Int → Int} {st : Int} : ∀ k : Nat, (∀ i : Int, 0 ≤ i → i < (k : Int) → la i = la2 i ∧ be i = be2 i) → allN W la be st k = allN W la2 be2 st k
  | 0, _ => rfl
  | k + 1, h => by
    obtain ⟨e1, e2⟩ := h (k : Int) (by omega) (by omega)
    rw [allN, allN, allN_congr k (fun i a b => h i a (by omega)), e1, e2]
theorem allZ_add {W : Int → Int → Bool} {la be : Int → Int} {st ne l0 h0 : Int} (hn : 0 ≤ ne) : allZ W (upf la ne l0) (upf be ne h0) st (ne + 1) = (allZ W la be st ne && W (st + h0) l0) := by
  rw [allZ_s _ _ _ _ hn, upf_s, upf_s]
  congr 1
  unfold allZ
  exact allN_congr _ (fun i a b => ⟨upf_o _ _ (by omega), upf_o _ _ (by omega)⟩)
theorem allN_no {W : Int → Int → Bool} {la be : Int → Int} {st : Int} : ∀ (n k : Nat), k < n → W (st + be (k : Int)) (la (k : Int)) = false → allN W la be st n = false
  | 0, k, h, _ => absurd h (by omega)
  | n + 1, k, h, e => by
    rw [allN]
    by_cases hk : k = n
    · subst hk; rw [e, Bool.and_false]
    · rw [allN_no n k (by omega) e, Bool.false_and]
/-- striking, hour by hour -/
def strN (W : Int → Int → Bool) (t off st : Int) : Nat → Bool
  | 0 => true
  | k + 1 => strN W t off st k && W (st + (off + (k : Int))) t
def strZ (W : Int → Int → Bool) (t off st i : Int) : Bool := strN W t off st i.toNat
theorem strZ_s (W : Int → Int → Bool) (t off st : Int) {i : Int} (h : 0 ≤ i) : strZ W t off st (i + 1) = (strZ W t off st i && W (st + (off + i)) t) := by
  unfold strZ
  rw [show (i + 1).toNat = i.toNat + 1 by omega, strN, show ((i.toNat : Nat) : Int) = i by omega]
/-- whether a raid may set out in an hour; the first such hour -/
def raidB (W : Int → Int → Bool) (on ot ho wy : Int → Int) (nu f t s h : Int) : Bool :=
  pthN W wy (fun q => nxtF on ot ho wy q t nu) t (0 + wy (f * 8 + t)) h 8 (nxtF on ot ho wy f t nu) && strZ W t (wy (f * 8 + t)) h s && pthN W wy (fun q => nxtF on ot ho wy q f nu) f (wy (f * 8 + t) + s + wy (t * 8 + f)) h 8 (nxtF on ot ho wy t f nu) && decide (h + (wy (f * 8 + t) + s + wy (f * 8 + t)) < 672)
def raidF (W : Int → Int → Bool) (on ot ho wy : Int → Int) (nu f t s h : Int) : Int := fstZ (raidB W on ot ho wy nu f t s) h 672
