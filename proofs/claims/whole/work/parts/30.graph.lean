/-! the table of ways is the table of least hours: what Floyd's loops keep, stage by stage -/
abbrev In7 (a : Int) : Prop := 0 ≤ a ∧ a ≤ 7
theorem upf_at {g : Int → Int} {a b c d v : Int} (hb : In7 b) (hd : In7 d) : upf g (a * 8 + b) v (c * 8 + d) = if c = a ∧ d = b then v else g (c * 8 + d) := by
  unfold upf
  by_cases h : c = a ∧ d = b
  · rw [if_pos h, if_pos (by omega)]
  · rw [if_neg h, if_neg (by omega)]
theorem rlx_at {g : Int → Int} {a b c d len : Int} (hb : In7 b) (hd : In7 d) : rlx g a b len (c * 8 + d) = if c = a ∧ d = b then min (g (c * 8 + d)) len else g (c * 8 + d) := by
  unfold rlx
  rw [upf_at hb hd]
  by_cases h : c = a ∧ d = b
  · rw [if_pos h, if_pos h, h.1, h.2]
  · rw [if_neg h, if_neg h]
/-- one stage: by land k -/
def stg (g : Int → Int) (k a b : Int) : Int := min (g (a * 8 + b)) (g (a * 8 + k) + g (k * 8 + b))
abbrev Ok0 (g : Int → Int) : Prop := ∀ a b : Int, In7 a → In7 b → 0 ≤ g (a * 8 + b)
abbrev Dg0 (g : Int → Int) : Prop := ∀ a : Int, In7 a → g (a * 8 + a) = 0
theorem stg_row {g : Int → Int} {k a : Int} (h0 : Ok0 g) (hd : Dg0 g) (hk : In7 k) (ha : In7 a) : stg g k a k = g (a * 8 + k) := by
  have := hd k hk
  have := h0 a k ha hk
  unfold stg
  omega
theorem stg_col {g : Int → Int} {k b : Int} (h0 : Ok0 g) (hd : Dg0 g) (hk : In7 k) (hb : In7 b) : stg g k k b = g (k * 8 + b) := by
  have := hd k hk
  have := h0 k b hk hb
  unfold stg
  omega
theorem fwC_at {g : Int → Int} {k f : Int} (h0 : Ok0 g) (hd : Dg0 g) (hk : In7 k) (hf : In7 f) : ∀ (n : Nat), n ≤ 8 → ∀ a b : Int, In7 a → In7 b → fwC k f g n (a * 8 + b) = if a = f ∧ b < (n : Int) then stg g k a b else g (a * 8 + b)
  | 0, _, a, b, ha, hb => by
    rw [fwC, if_neg (by omega)]
  | n + 1, hn, a, b, ha, hb => by
    have ih := fwC_at h0 hd hk hf n (by omega)
    rw [fwC, rlx_at (by omega) hb]
    have e1 : fwC k f g n (f * 8 + k) = g (f * 8 + k) := by
      rw [ih f k hf hk]
      split
      · exact stg_row h0 hd hk hf
      · rfl
    have e2 : fwC k f g n (k * 8 + (n : Int)) = g (k * 8 + (n : Int)) := by
      rw [ih k (n : Int) hk (by omega), if_neg (by omega)]
    rw [e1, e2, ih a b ha hb]
    by_cases c1 : a = f ∧ b = (n : Int)
    · rw [if_pos c1, if_neg (by omega), if_pos (by omega), c1.1, c1.2]
      rfl
    · rw [if_neg c1]
      by_cases c2 : a = f ∧ b < (n : Int)
      · rw [if_pos c2, if_pos (by omega)]
      · rw [if_neg c2, if_neg (by omega)]
/-- a stage leaves what it needs as it was -/
theorem stg_ok {g : Int → Int} {k : Int} (h0 : Ok0 g) (hk : In7 k) {a b : Int} (ha : In7 a) (hb : In7 b) : 0 ≤ stg g k a b := by
  have := h0 a b ha hb
  have := h0 a k ha hk
  have := h0 k b hk hb
  unfold stg
  omega
theorem fwB_at {g : Int → Int} {k : Int} (h0 : Ok0 g) (hd : Dg0 g) (hk : In7 k) : ∀ (n : Nat), n ≤ 8 → ∀ a b : Int, In7 a → In7 b → fwB k g n (a * 8 + b) = if a < (n : Int) then stg g k a b else g (a * 8 + b)
  | 0, _, a, b, ha, hb => by
    rw [fwB, if_neg (by omega)]
  | n + 1, hn, a, b, ha, hb => by
    have ih := fwB_at h0 hd hk n (by omega)
    have o0 : Ok0 (fwB k g n) := by
      intro a b ha hb
      rw [ih a b ha hb]
      split
      · exact stg_ok h0 hk ha hb
      · exact h0 a b ha hb
    have d0 : Dg0 (fwB k g n) := by
      intro a ha
      rw [ih a a ha ha]
      split
      · have := hd a ha
        have := h0 a k ha hk
        have := h0 k a hk ha
        unfold stg
        omega
      · exact hd a ha
    rw [fwB, fwC_at o0 d0 hk (by omega) 8 (by omega) a b ha hb]
    by_cases c1 : a = (n : Int)
    · rw [if_pos (by omega), if_pos (by omega)]
      unfold stg
      rw [ih a b ha hb, ih a k ha hk, if_neg (by omega), if_neg (by omega), ih k b hk hb]
      by_cases c3 : k < (n : Int)
      · rw [if_pos c3, stg_col h0 hd hk hb]
      · rw [if_neg c3]
    · rw [if_neg (by omega), ih a b ha hb]
      by_cases c2 : a < (n : Int)
      · rw [if_pos c2, if_pos (by omega)]
      · rw [if_neg c2, if_neg (by omega)]
/-- what holds behind the first k stages -/
def StOK (on ot ho g : Int → Int) (nu : Int) (k : Int) : Prop :=
  Dg0 g ∧ (∀ a b : Int, In7 a → In7 b → a ≠ b → 1 ≤ g (a * 8 + b) ∧ g (a * 8 + b) ≤ 1000) ∧ (∀ a b : Int, In7 a → In7 b → g (a * 8 + b) = g (b * 8 + a)) ∧
  (∀ a r : Int, In7 a → 0 ≤ r → r < nu → acrF on ot r a ≠ -1 → g (a * 8 + acrF on ot r a) ≤ ho r) ∧
  (∀ a b c : Int, In7 a → In7 b → 0 ≤ c → c < k → c ≤ 7 → g (a * 8 + b) ≤ g (a * 8 + c) + g (c * 8 + b)) ∧
  (∀ a b : Int, In7 a → In7 b → a ≠ b → g (a * 8 + b) < 1000 → ∃ r : Int, 0 ≤ r ∧ r < nu ∧ acrF on ot r a ≠ -1 ∧ ho r + g (acrF on ot r a * 8 + b) ≤ g (a * 8 + b))
theorem acr_in {on ot ho : Int → Int} {nu r a : Int} (hE : EdOK on ot ho nu) (hr : 0 ≤ r ∧ r < nu) (h : acrF on ot r a ≠ -1) : In7 (acrF on ot r a) ∧ acrF on ot r a ≠ a := by
  have e := hE.2 r hr.1 hr.2
  unfold acrF at *
  by_cases c1 : on r = a
  · rw [if_pos c1] at *
    exact ⟨by omega, by omega⟩
  · rw [if_neg c1] at *
    by_cases c2 : ot r = a
    · rw [if_pos c2] at *
      exact ⟨by omega, by omega⟩
    · rw [if_neg c2] at h
      exact absurd rfl h
theorem StOK.ok0 {on ot ho g : Int → Int} {nu k : Int} (h : StOK on ot ho g nu k) : Ok0 g := by
  intro a b ha hb
  by_cases e : a = b
  · subst e
    have := h.1 a ha
    omega
  · have := h.2.1 a b ha hb e
    omega
theorem stage {on ot ho g : Int → Int} {nu : Int} (hE : EdOK on ot ho nu) {k : Nat} (hk : k < 8) (h : StOK on ot ho g nu (k : Int)) : StOK on ot ho (fwB (k : Int) g 8) nu ((k : Int) + 1) := by
  have h0 := h.ok0
  obtain ⟨hd, h1, h2, h3, h4, h5⟩ := h
  have hk7 : In7 (k : Int) := by omega
  have at9 : ∀ a b : Int, In7 a → In7 b → fwB (k : Int) g 8 (a * 8 + b) = min (g (a * 8 + b)) (g (a * 8 + (k : Int)) + g ((k : Int) * 8 + b)) := by
    intro a b ha hb
    rw [fwB_at h0 hd hk7 8 (by omega) a b ha hb, if_pos (by omega)]
    rfl
  refine ⟨fun a ha => ?_, fun a b ha hb hab => ?_, fun a b ha hb => ?_, fun a r ha hr0 hr1 hc => ?_, fun a b c ha hb hc0 hc1 hc7 => ?_, fun a b ha hb hab hlt => ?_⟩
  · rw [at9 a a ha ha]
    have := hd a ha
    have := h0 a (k : Int) ha hk7
    have := h0 (k : Int) a hk7 ha
    omega
  · rw [at9 a b ha hb]
    have e1 := h1 a b ha hb hab
    have e2 := h0 a (k : Int) ha hk7
    have e3 := h0 (k : Int) b hk7 hb
    by_cases c : a = (k : Int)
    · have e4 := h1 (k : Int) b hk7 hb (by omega)
      omega
    · have e4 := h1 a (k : Int) ha hk7 c
      omega
  · rw [at9 a b ha hb, at9 b a hb ha]
    have e1 := h2 a b ha hb
    have e2 := h2 a (k : Int) ha hk7
    have e3 := h2 (k : Int) b hk7 hb
    omega
  · rw [at9 a _ ha (acr_in hE ⟨hr0, hr1⟩ hc).1]
    have := h3 a r ha hr0 hr1 hc
    omega
  · rw [at9 a b ha hb, at9 a c ha (by omega), at9 c b (by omega) hb]
    by_cases e : c = (k : Int)
    · subst e
      have := hd (k : Int) hk7
      have := h0 a (k : Int) ha hk7
      have := h0 (k : Int) b hk7 hb
      omega
    · have f1 := h4 a b c ha hb hc0 (by omega) hc7
      have f2 := h4 (k : Int) b c hk7 hb hc0 (by omega) hc7
      have f3 := h4 a (k : Int) c ha hk7 hc0 (by omega) hc7
      have f4 := h0 (k : Int) c hk7 (by omega)
      have f5 := h0 c (k : Int) (by omega) hk7
      omega
  · rw [at9 a b ha hb] at hlt ⊢
    have e1 := h1 a b ha hb hab
    by_cases c : g (a * 8 + b) ≤ g (a * 8 + (k : Int)) + g ((k : Int) * 8 + b)
    · obtain ⟨r, r0, r1, r2, r3⟩ := h5 a b ha hb hab (by omega)
      refine ⟨r, r0, r1, r2, ?_⟩
      rw [at9 _ b (acr_in hE ⟨r0, r1⟩ r2).1 hb]
      omega
    · have hak : a ≠ (k : Int) := by
        intro e
        subst e
        have := hd (k : Int) hk7
        omega
      have e3 := h0 (k : Int) b hk7 hb
      obtain ⟨r, r0, r1, r2, r3⟩ := h5 a (k : Int) ha hk7 hak (by omega)
      refine ⟨r, r0, r1, r2, ?_⟩
      rw [at9 _ b (acr_in hE ⟨r0, r1⟩ r2).1 hb]
      omega
theorem stages {on ot ho g : Int → Int} {nu : Int} (hE : EdOK on ot ho nu) (h : StOK on ot ho g nu 0) : ∀ k : Nat, k ≤ 8 → StOK on ot ho (fwA g k) nu (k : Int)
  | 0, _ => h
  | k + 1, hk => by
    rw [fwA, show ((k + 1 : Nat) : Int) = (k : Int) + 1 by omega]
    exact stage hE (by omega) (stages hE h k (by omega))
/-! the first table -/
theorem dia_at {g : Int → Int} : ∀ (n : Nat), n ≤ 8 → ∀ a b : Int, In7 a → In7 b → diaN g n (a * 8 + b) = if a = b ∧ a < (n : Int) then 0 else g (a * 8 + b)
  | 0, _, a, b, ha, hb => by rw [diaN, if_neg (by omega)]
  | n + 1, hn, a, b, ha, hb => by
    rw [diaN, upf_at (by omega) hb, dia_at n (by omega) a b ha hb]
    by_cases c1 : a = (n : Int) ∧ b = (n : Int)
    · rw [if_pos c1, if_pos (by omega)]
    · rw [if_neg c1]
      by_cases c2 : a = b ∧ a < (n : Int)
      · rw [if_pos c2, if_pos (by omega)]
      · rw [if_neg c2, if_neg (by omega)]
theorem base_at {wy : Int → Int} {a b : Int} (ha : In7 a) (hb : In7 b) : diaN (filF wy 1000 64) 8 (a * 8 + b) = if a = b then 0 else 1000 := by
  rw [dia_at 8 (by omega) a b ha hb]
  unfold filF
  by_cases c : a = b
  · rw [if_pos (by omega), if_pos c]
  · rw [if_neg (by omega), if_neg c, if_pos (by omega)]
theorem edges {on ot ho wy : Int → Int} {nu : Int} (hE : EdOK on ot ho nu) : ∀ n : Nat, (n : Int) ≤ nu → StOK on ot ho (edgN on ot ho (diaN (filF wy 1000 64) 8) n) (n : Int) 0
  | 0, _ => by
    refine ⟨fun a ha => ?_, fun a b ha hb hab => ?_, fun a b ha hb => ?_, fun a r ha hr0 hr1 hc => ?_, fun a b c ha hb hc0 hc1 hc7 => ?_, fun a b ha hb hab hlt => ?_⟩
    · rw [edgN, base_at ha ha, if_pos rfl]
    · rw [edgN, base_at ha hb, if_neg hab]; omega
    · rw [edgN, base_at ha hb, base_at hb ha]
      by_cases c : a = b
      · rw [if_pos c, if_pos c.symm]
      · rw [if_neg c, if_neg (fun e => c e.symm)]
    · exact absurd hr1 (by omega)
    · exact absurd hc1 (by omega)
    · rw [edgN, base_at ha hb, if_neg hab] at hlt
      omega
  | n + 1, hn => by
    obtain ⟨hd, h1, h2, h3, h4, h5⟩ := edges (wy := wy) hE n (by omega)
    have e9 := hE.2 (n : Int) (by omega) (by omega)
    generalize hg : edgN on ot ho (diaN (filF wy 1000 64) 8) n = g at hd h1 h2 h3 h4 h5
    have at9 : ∀ a b : Int, In7 a → In7 b → edgN on ot ho (diaN (filF wy 1000 64) 8) (n + 1) (a * 8 + b) = if (a = on (n : Int) ∧ b = ot (n : Int)) ∨ (a = ot (n : Int) ∧ b = on (n : Int)) then min (g (a * 8 + b)) (ho (n : Int)) else g (a * 8 + b) := by
      intro a b ha hb
      rw [edgN, hg, rlx_at (by omega) hb, rlx_at (by omega) hb]
      by_cases c1 : a = on (n : Int) ∧ b = ot (n : Int)
      · rw [if_neg (by omega), if_pos c1, if_pos (Or.inl c1)]
      · by_cases c2 : a = ot (n : Int) ∧ b = on (n : Int)
        · rw [if_pos c2, if_neg c1, if_pos (Or.inr c2)]
        · rw [if_neg c2, if_neg c1, if_neg (by omega)]
    have le9 : ∀ a b : Int, In7 a → In7 b → edgN on ot ho (diaN (filF wy 1000 64) 8) (n + 1) (a * 8 + b) ≤ g (a * 8 + b) := by
      intro a b ha hb
      rw [at9 a b ha hb]
      split <;> omega
    refine ⟨fun a ha => ?_, fun a b ha hb hab => ?_, fun a b ha hb => ?_, fun a r ha hr0 hr1 hc => ?_, fun a b c ha hb hc0 hc1 hc7 => ?_, fun a b ha hb hab hlt => ?_⟩
    · rw [at9 a a ha ha, if_neg (by omega)]
      exact hd a ha
    · rw [at9 a b ha hb]
      have := h1 a b ha hb hab
      split <;> omega
    · rw [at9 a b ha hb, at9 b a hb ha, h2 a b ha hb]
      by_cases c : (a = on (n : Int) ∧ b = ot (n : Int)) ∨ (a = ot (n : Int) ∧ b = on (n : Int))
      · rw [if_pos c, if_pos (by omega)]
      · rw [if_neg c, if_neg (by omega)]
    · have hi := (acr_in hE ⟨hr0, by omega⟩ hc).1
      by_cases e : r = (n : Int)
      · subst e
        rw [at9 a _ ha hi]
        rw [if_pos (by
          unfold acrF at *
          by_cases c1 : on (n : Int) = a
          · rw [if_pos c1] at *; omega
          · rw [if_neg c1] at *
            by_cases c2 : ot (n : Int) = a
            · rw [if_pos c2] at *; omega
            · rw [if_neg c2] at hc; omega)]
        omega
      · have := h3 a r ha hr0 (by omega) hc
        have := le9 a _ ha hi
        omega
    · exact absurd hc1 (by omega)
    · have e1 := h1 a b ha hb hab
      have hnew : ∀ c : Int, acrF on ot (n : Int) a = c → c = b → (if (a = on (n : Int) ∧ b = ot (n : Int)) ∨ (a = ot (n : Int) ∧ b = on (n : Int)) then min (g (a * 8 + b)) (ho (n : Int)) else g (a * 8 + b)) = ho (n : Int) → ∃ r : Int, 0 ≤ r ∧ r < ((n + 1 : Nat) : Int) ∧ acrF on ot r a ≠ -1 ∧ ho r + edgN on ot ho (diaN (filF wy 1000 64) 8) (n + 1) (acrF on ot r a * 8 + b) ≤ edgN on ot ho (diaN (filF wy 1000 64) 8) (n + 1) (a * 8 + b) := by
        intro c hc1 hc2 hc3
        refine ⟨(n : Int), by omega, by omega, by omega, ?_⟩
        rw [hc1, hc2, at9 b b hb hb, if_neg (by omega), hd b hb, at9 a b ha hb, hc3]
        omega
      rw [at9 a b ha hb] at hlt
      by_cases c : ((a = on (n : Int) ∧ b = ot (n : Int)) ∨ (a = ot (n : Int) ∧ b = on (n : Int))) ∧ ho (n : Int) ≤ g (a * 8 + b)
      · have hacr : acrF on ot (n : Int) a = b := by
          unfold acrF
          by_cases c1 : on (n : Int) = a
          · rw [if_pos c1]; omega
          · rw [if_neg c1, if_pos (by omega)]; omega
        exact hnew b hacr rfl (by rw [if_pos c.1]; omega)
      · have hold : (if (a = on (n : Int) ∧ b = ot (n : Int)) ∨ (a = ot (n : Int) ∧ b = on (n : Int)) then min (g (a * 8 + b)) (ho (n : Int)) else g (a * 8 + b)) = g (a * 8 + b) := by
          split <;> omega
        rw [hold] at hlt
        obtain ⟨r, r0, r1, r2, r3⟩ := h5 a b ha hb hab hlt
        refine ⟨r, r0, by omega, r2, ?_⟩
        have := le9 _ b (acr_in hE ⟨r0, by omega⟩ r2).1 hb
        rw [at9 a b ha hb, hold]
        omega
/-- what the table of ways tells of the roads -/
def GrOK (on ot ho wy : Int → Int) (nu : Int) : Prop :=
  (∀ a : Int, In7 a → wy (a * 8 + a) = 0) ∧ (∀ a b : Int, In7 a → In7 b → a ≠ b → 1 ≤ wy (a * 8 + b) ∧ wy (a * 8 + b) ≤ 1000) ∧ (∀ a b : Int, In7 a → In7 b → wy (a * 8 + b) = wy (b * 8 + a)) ∧
  (∀ a b r : Int, In7 a → In7 b → 0 ≤ r → r < nu → acrF on ot r a ≠ -1 → wy (a * 8 + b) ≤ ho r + wy (acrF on ot r a * 8 + b)) ∧
  (∀ a b : Int, In7 a → In7 b → a ≠ b → wy (a * 8 + b) < 1000 → ∃ r : Int, 0 ≤ r ∧ r < nu ∧ acrF on ot r a ≠ -1 ∧ ho r + wy (acrF on ot r a * 8 + b) = wy (a * 8 + b))
theorem GrOK.of {on ot ho g : Int → Int} {nu : Int} (hE : EdOK on ot ho nu) (h : StOK on ot ho g nu 8) : GrOK on ot ho g nu := by
  have h0 := h.ok0
  obtain ⟨hd, h1, h2, h3, h4, h5⟩ := h
  have tri : ∀ a b r : Int, In7 a → In7 b → 0 ≤ r → r < nu → acrF on ot r a ≠ -1 → g (a * 8 + b) ≤ ho r + g (acrF on ot r a * 8 + b) := by
    intro a b r ha hb r0 r1 hc
    have hi := (acr_in hE ⟨r0, r1⟩ hc).1
    have e1 := h4 a b _ ha hb hi.1 (by omega) hi.2
    have e2 := h3 a r ha r0 r1 hc
    omega
  refine ⟨hd, h1, h2, tri, fun a b ha hb hab hlt => ?_⟩
  obtain ⟨r, r0, r1, r2, r3⟩ := h5 a b ha hb hab hlt
  have := tri a b r ha hb r0 r1 r2
  exact ⟨r, r0, r1, r2, by omega⟩
theorem RdOK.gr {tx on ot ho wy : Int → Int} {by0 nu fl : Int} (h : RdOK tx on ot ho wy by0 nu fl) : GrOK on ot ho wy nu := by
  have hE := h.ed
  obtain ⟨wy0, e⟩ := h.2.2.2.2
  have hn := hE.1
  have hs := edges (wy := wy0) hE nu.toNat (by omega)
  rw [show ((nu.toNat : Nat) : Int) = nu by omega] at hs
  subst e
  unfold wayF
  by_cases c : 0 < nu
  · rw [if_pos c]
    exact GrOK.of hE (stages hE hs 8 (by omega))
  · rw [if_neg c]
    rw [show nu.toNat = 0 by omega] at hs
    have hs : StOK on ot ho (diaN (filF wy0 1000 64) 8) nu 0 := hs
    refine GrOK.of hE ⟨hs.1, hs.2.1, hs.2.2.1, hs.2.2.2.1, fun a b d ha hb hc0 hc1 hc7 => ?_, hs.2.2.2.2.2⟩
    rw [base_at ha hb, base_at ha (by omega), base_at (by omega) hb]
    (repeat' split) <;> omega
