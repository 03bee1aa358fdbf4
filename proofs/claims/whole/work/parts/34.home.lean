/-! the way home: the best of all rows of lands, as a walk over roads tells it -/
abbrev BT : Type := Int × Int × Int × (Int → Int)
/-- the first place (of m) where two rows differ tells which is less -/
def lexB (row br : Int → Int) (m : Int) : Bool := decide (fstZ (fun k => decide (row k ≠ br k)) 0 m ≠ -1 ∧ row (fstZ (fun k => decide (row k ≠ br k)) 0 m) < br (fstZ (fun k => decide (row k ≠ br k)) 0 m))
def betB (n hs ch : Int) (row : Int → Int) (B : BT) : Bool := if ch ≠ B.2.2.1 then decide (B.2.2.1 < ch) else if hs ≠ B.2.1 then decide (hs < B.2.1) else lexB row B.2.2.2 (min n B.1 + 1)
def nrm (row : Int → Int) (n : Int) : Int → Int := fun j => if 0 ≤ j ∧ j ≤ n then row j else 0
def arrF (n hs ch : Int) (row : Int → Int) (B : BT) : BT := if B.1 = -1 ∨ betB n hs ch row B = true then (n, hs, ch, nrm row n) else B
/-- whether a land is among the first i of a row -/
def visN (row : Int → Int) (l0 : Int) : Nat → Bool
  | 0 => false
  | k + 1 => visN row l0 k || decide (row (k : Int) = l0)
def visZ (row : Int → Int) (l0 i : Int) : Bool := visN row l0 i.toNat
theorem visZ_s (row : Int → Int) (l0 : Int) {i : Int} (h : 0 ≤ i) : visZ row l0 (i + 1) = (visZ row l0 i || decide (row i = l0)) := by
  unfold visZ
  rw [show (i + 1).toNat = i.toNat + 1 by omega, visN, show ((i.toNat : Nat) : Int) = i by omega]
theorem visN_congr {a b : Int → Int} {l0 : Int} : ∀ k : Nat, (∀ i : Int, 0 ≤ i → i < (k : Int) → a i = b i) → visN a l0 k = visN b l0 k
  | 0, _ => rfl
  | k + 1, h => by rw [visN, visN, visN_congr k (fun i p q => h i p (by omega)), h (k : Int) (by omega) (by omega)]
theorem visZ_up {row : Int → Int} {l0 n c : Int} (h : 0 ≤ n) : visZ (upf row (n + 1) c) l0 (n + 1 + 1) = (visZ row l0 (n + 1) || decide (c = l0)) := by
  rw [visZ_s _ _ (by omega), upf_s]
  congr 1
  exact visN_congr _ (fun i p q => upf_o _ _ (by omega))
theorem visN_ex {row : Int → Int} {l0 : Int} : ∀ k : Nat, visN row l0 k = true → ∃ j : Int, 0 ≤ j ∧ j < (k : Int) ∧ row j = l0
  | 0, h => by simp [visN] at h
  | k + 1, h => by
    rw [visN, Bool.or_eq_true, decide_eq_true_eq] at h
    rcases h with h | h
    · obtain ⟨j, a, b, c⟩ := visN_ex k h
      exact ⟨j, a, by omega, c⟩
    · exact ⟨(k : Int), by omega, by omega, h⟩
theorem visN_no {row : Int → Int} {l0 : Int} : ∀ k : Nat, visN row l0 k = false → ∀ j : Int, 0 ≤ j → j < (k : Int) → row j ≠ l0
  | 0, h, j, a, b => absurd b (by omega)
  | k + 1, h, j, a, b => by
    rw [visN, Bool.or_eq_false_iff, decide_eq_false_iff_not] at h
    by_cases e : j = (k : Int)
    · rw [e]; exact h.2
    · exact visN_no k h.1 j a (by omega)
theorem visZ_no {row : Int → Int} {l0 i j : Int} (h : visZ row l0 i = false) (h0 : 0 ≤ j) (h1 : j < i) : row j ≠ l0 := visN_no _ h j h0 (by omega)
/-- how many lands a row has come to -/
def cntV (row : Int → Int) (i : Int) : Int := sumZ (fun q => b2i (visZ row q i = true)) 8
theorem sumN_plus (f g : Int → Int) : ∀ k : Nat, sumN (fun i => f i + g i) k = sumN f k + sumN g k
  | 0 => rfl
  | k + 1 => by rw [sumN, sumN, sumN, sumN_plus f g k]; omega
theorem cntV_up {row : Int → Int} {n c : Int} (h : 0 ≤ n) (hc : In7 c) (hv : visZ row c (n + 1) = false) : cntV (upf row (n + 1) c) (n + 1 + 1) = cntV row (n + 1) + 1 := by
  have e1 : sumZ (fun q => b2i (c ≤ q ∧ q < c + 1)) 8 = 1 := by
    rw [sumZ_in (lo := c) (hi := c + 1) hc.1 (by omega) (by omega) (fun i _ _ => rfl)]
    omega
  have key : cntV (upf row (n + 1) c) (n + 1 + 1) = cntV row (n + 1) + sumZ (fun q => b2i (c ≤ q ∧ q < c + 1)) 8 := by
    unfold cntV sumZ
    rw [← sumN_plus]
    apply sumN_congr
    intro q h0 h1
    show b2i (visZ (upf row (n + 1) c) q (n + 1 + 1) = true) = b2i (visZ row q (n + 1) = true) + b2i (c ≤ q ∧ q < c + 1)
    rw [visZ_up h]
    by_cases e : c = q
    · subst e
      rw [hv, b2i_t (by simp), b2i_f (by simp), b2i_t (by omega)]
      rfl
    · rw [b2i_f (P := c ≤ q ∧ q < c + 1) (by omega), decide_eq_false e, Bool.or_false]
      omega
  rw [key, e1]
theorem cntV_R (row : Int → Int) (i : Int) : cntV row i ≤ 8 := by
  have h1 := sumZ_bd (f := fun q => b2i (visZ row q i = true)) (a := 0) (b := 1) (n := 8) (by omega) (fun q _ _ => by rcases b2i_R (visZ row q i = true) with h | h <;> simp only [h] <;> omega)
  unfold cntV
  omega
theorem cntV_all {row : Int → Int} {i q : Int} (h : cntV row i = 8) (hq : In7 q) : visZ row q i = true := by
  by_cases c : visZ row q i = true
  · exact c
  · exfalso
    have h2 : sumN (fun q => b2i (visZ row q i = true)) 8 < sumN (fun _ => 1) 8 := by
      refine sumN_lt 8 (fun j h0 h1 => ?_) ⟨q, hq.1, by omega, ?_⟩
      · show b2i _ ≤ 1
        rcases b2i_R (visZ row j i = true) with e | e <;> rw [e] <;> omega
      · show b2i _ < 1
        rw [b2i_f c]; omega
    have h3 : sumN (fun _ => (1 : Int)) 8 = 8 := by decide
    have h4 : sumN (fun q => b2i (visZ row q i = true)) 8 = 8 := h
    omega
/-- the chance that is left when a land is come to -/
def chnF (W : Int → Int → Bool) (fa : Int → Int) (go st hs l0 ch : Int) : Int := if l0 ≠ go ∧ W (st + hs) l0 = true then ch / 16 * (16 - fa (3 * l0 + 2)) else ch
def fldR (g : Int → BT → BT) : Nat → BT → BT
  | 0, B => B
  | k + 1, B => g (k : Int) (fldR g k B)
def wlk (W : Int → Int → Bool) (fa on ot ho : Int → Int) (nu go st : Int) : Nat → Int → (Int → Int) → Int → Int → BT → BT
  | 0, _, _, _, _, B => B
  | k + 1, n, row, hs, ch, B => if row n = go then arrF n hs ch row B else fldR (fun r B2 => if acrF on ot r (row n) ≠ -1 ∧ visZ row (acrF on ot r (row n)) (n + 1) = false then wlk W fa on ot ho nu go st k (n + 1) (upf row (n + 1) (acrF on ot r (row n))) (hs + ho r) (chnF W fa go st (hs + ho r) (acrF on ot r (row n)) ch) B2 else B2) nu.toNat B
/-- the loop over the roads, the first i of them -/
def wlR (W : Int → Int → Bool) (fa on ot ho : Int → Int) (nu go st : Int) (k : Nat) (n : Int) (row : Int → Int) (hs ch : Int) (B : BT) (i : Int) : BT := fldR (fun r B2 => if acrF on ot r (row n) ≠ -1 ∧ visZ row (acrF on ot r (row n)) (n + 1) = false then wlk W fa on ot ho nu go st k (n + 1) (upf row (n + 1) (acrF on ot r (row n))) (hs + ho r) (chnF W fa go st (hs + ho r) (acrF on ot r (row n)) ch) B2 else B2) i.toNat B
theorem wlR_s {W : Int → Int → Bool} {fa on ot ho : Int → Int} {nu go st : Int} {k : Nat} {n : Int} {row : Int → Int} {hs ch : Int} {B : BT} {i : Int} (h : 0 ≤ i) : wlR W fa on ot ho nu go st k n row hs ch B (i + 1) = if acrF on ot i (row n) ≠ -1 ∧ visZ row (acrF on ot i (row n)) (n + 1) = false then wlk W fa on ot ho nu go st k (n + 1) (upf row (n + 1) (acrF on ot i (row n))) (hs + ho i) (chnF W fa go st (hs + ho i) (acrF on ot i (row n)) ch) (wlR W fa on ot ho nu go st k n row hs ch B i) else wlR W fa on ot ho nu go st k n row hs ch B i := by
  unfold wlR
  rw [show (i + 1).toNat = i.toNat + 1 by omega, fldR, show ((i.toNat : Nat) : Int) = i by omega]
theorem wlk_go {W : Int → Int → Bool} {fa on ot ho : Int → Int} {nu go st : Int} {k : Nat} {n : Int} {row : Int → Int} {hs ch : Int} {B : BT} (h : row n = go) : wlk W fa on ot ho nu go st (k + 1) n row hs ch B = arrF n hs ch row B := by rw [wlk, if_pos h]
theorem wlk_on {W : Int → Int → Bool} {fa on ot ho : Int → Int} {nu go st : Int} {k : Nat} {n : Int} {row : Int → Int} {hs ch : Int} {B : BT} (h : row n ≠ go) : wlk W fa on ot ho nu go st (k + 1) n row hs ch B = wlR W fa on ot ho nu go st k n row hs ch B nu := by rw [wlk, if_neg h]; rfl
/-- a best row: it ends at the goal, and has it nowhere else -/
abbrev BOK (go top : Int) (B : BT) : Prop := (B.1 = -1 ∨ (0 ≤ B.1 ∧ B.1 ≤ 7 ∧ B.2.2.2 B.1 = go ∧ (∀ j : Int, 0 ≤ j → j < B.1 → B.2.2.2 j ≠ go) ∧ ∀ j : Int, 0 ≤ j → j ≤ B.1 → In7 (B.2.2.2 j))) ∧ (0 ≤ B.2.2.1 ∧ B.2.2.1 ≤ top) ∧ (-1 ≤ B.2.1 ∧ B.2.1 ≤ 1000)
/-- a row of lands on the way -/
abbrev RowOK (go n : Int) (row : Int → Int) : Prop := (0 ≤ n ∧ n ≤ 7) ∧ (∀ j : Int, 0 ≤ j → j ≤ n → In7 (row j)) ∧ cntV row (n + 1) = n + 1 ∧ ∀ j : Int, 0 ≤ j → j < n → row j ≠ go
theorem row_end {go n : Int} {row : Int → Int} (h : RowOK go n row) (hg : In7 go) (hn : row n ≠ go) : n ≤ 6 := by
  by_cases c : n ≤ 6
  · exact c
  · exfalso
    have e : n = 7 := by omega
    subst e
    obtain ⟨j, a, b, d⟩ := visN_ex _ (cntV_all (row := row) (i := 7 + 1) h.2.2.1 hg)
    by_cases f : j = 7
    · subst f; exact hn d
    · exact h.2.2.2 j a (by omega) d
theorem row_up {go n c : Int} {row : Int → Int} (h : RowOK go n row) (hg : In7 go) (hn : row n ≠ go) (hc : In7 c) (hv : visZ row c (n + 1) = false) : RowOK go (n + 1) (upf row (n + 1) c) := by
  have h6 := row_end h hg hn
  refine ⟨by omega, fun j a b => ?_, by rw [cntV_up h.1.1 hc hv, h.2.2.1], fun j a b => ?_⟩
  · by_cases e : j = n + 1
    · rw [e, upf_s]; exact hc
    · rw [upf_o _ _ e]; exact h.2.1 j a (by omega)
  · rw [upf_o _ _ (by omega)]
    by_cases e : j = n
    · rw [e]; exact hn
    · exact h.2.2.2 j a (by omega)
theorem nrm_at {row : Int → Int} {n j : Int} (h : 0 ≤ j ∧ j ≤ n) : nrm row n j = row j := by unfold nrm; rw [if_pos h]
theorem arr_ok {go top n hs ch : Int} {row : Int → Int} {B : BT} (h : RowOK go n row) (hn : row n = go) (hB : BOK go top B) (hc : 0 ≤ ch ∧ ch ≤ top) (hh : 0 ≤ hs ∧ hs ≤ 1000) : BOK go top (arrF n hs ch row B) := by
  unfold arrF
  split
  · refine ⟨Or.inr ⟨h.1.1, h.1.2, ?_, fun j a b => ?_, fun j a b => ?_⟩, hc, by show -1 ≤ hs; omega, hh.2⟩
    · show nrm row n n = go
      rw [nrm_at ⟨h.1.1, Int.le_refl _⟩]; exact hn
    · have b : j < n := b
      show nrm row n j ≠ go
      rw [nrm_at ⟨a, by omega⟩]
      exact h.2.2.2 j a b
    · have b : j ≤ n := b
      show In7 (nrm row n j)
      rw [nrm_at ⟨a, b⟩]
      exact h.2.1 j a b
  · exact hB
theorem chn_R {W : Int → Int → Bool} {fa : Int → Int} {go st hs l0 ch top : Int} (hF : FaOK fa) (hl : In7 l0) (hc : 0 ≤ ch ∧ ch ≤ top) : 0 ≤ chnF W fa go st hs l0 ch ∧ chnF W fa go st hs l0 ch ≤ top := by
  unfold chnF
  split
  · have f := (hF l0 hl.1 hl.2).2.2
    generalize fa (3 * l0 + 2) = q at f
    have h1 : 0 ≤ ch / 16 := by omega
    have h2 : 16 * (ch / 16) ≤ ch := by omega
    refine ⟨Int.mul_nonneg h1 (by omega), ?_⟩
    have h3 : ch / 16 * (16 - q) ≤ ch / 16 * 16 := Int.mul_le_mul_of_nonneg_left (by omega) h1
    omega
  · exact hc
/-- where two rows that end at the goal alone agree as far as the shorter one goes, they are one -/
theorem lex_all {go n : Int} {row : Int → Int} {B : BT} {top : Int} (h : RowOK go n row) (hn : row n = go) (hB : BOK go top B) (hb : B.1 ≠ -1) : lexB row B.2.2.2 (min n B.1 + 1) = decide (fstZ (fun k => decide (row k ≠ B.2.2.2 k)) 0 (B.1 + 1) ≠ -1 ∧ row (fstZ (fun k => decide (row k ≠ B.2.2.2 k)) 0 (B.1 + 1)) < B.2.2.2 (fstZ (fun k => decide (row k ≠ B.2.2.2 k)) 0 (B.1 + 1))) := by
  rcases hB.1 with e | ⟨b0, b1, b2, b3, b4⟩
  · exact absurd e hb
  · have key : fstZ (fun k => decide (row k ≠ B.2.2.2 k)) 0 (min n B.1 + 1) = fstZ (fun k => decide (row k ≠ B.2.2.2 k)) 0 (B.1 + 1) := by
      by_cases c : B.1 ≤ n
      · rw [show min n B.1 = B.1 by omega]
      · rw [show min n B.1 = n by omega]
        have hd : row n ≠ B.2.2.2 n := by
          rw [hn]
          exact fun e => b3 n h.1.1 (by omega) e.symm
        rcases fstZ_R (p := fun k => decide (row k ≠ B.2.2.2 k)) _ 0 (n + 1) rfl with e | ⟨f1, f2, f3, f4⟩
        · have := fstZ_none (p := fun k => decide (row k ≠ B.2.2.2 k)) _ 0 (n + 1) rfl e (by omega) n h.1.1 (by omega)
          rw [decide_eq_false_iff_not] at this
          exact absurd hd this
        · exact (fstZ_at _ 0 (B.1 + 1) _ rfl f1 (by omega) f3 f4).symm
    unfold lexB
    rw [key]
