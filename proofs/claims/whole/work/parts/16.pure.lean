/-! pure words: sums, first places, places of the most, bits -/
def sumN (f : Int → Int) : Nat → Int
  | 0 => 0
  | k + 1 => sumN f k + f (k : Int)
def sumZ (f : Int → Int) (i : Int) : Int := sumN f i.toNat
theorem sumZ_0 (f : Int → Int) : sumZ f 0 = 0 := rfl
theorem sumZ_s (f : Int → Int) {i : Int} (h : 0 ≤ i) : sumZ f (i + 1) = sumZ f i + f i := by
  unfold sumZ
  rw [show (i + 1).toNat = i.toNat + 1 by omega, sumN, show ((i.toNat : Nat) : Int) = i by omega]
theorem sumN_congr {f g : Int → Int} : ∀ (k : Nat), (∀ i : Int, 0 ≤ i → i < (k : Int) → f i = g i) → sumN f k = sumN g k
  | 0, _ => rfl
  | k + 1, h => by
    rw [sumN, sumN, sumN_congr k (fun i h0 h1 => h i h0 (by omega)), h (k : Int) (by omega) (by omega)]
theorem sumZ_congr {f g : Int → Int} {n : Int} (h : ∀ i : Int, 0 ≤ i → i < n → f i = g i) : sumZ f n = sumZ g n := sumN_congr _ (fun i h0 h1 => h i h0 (by omega))
theorem sumN_bd {f : Int → Int} {a b : Int} : ∀ (k : Nat), (∀ i : Int, 0 ≤ i → i < (k : Int) → a ≤ f i ∧ f i ≤ b) → a * (k : Int) ≤ sumN f k ∧ sumN f k ≤ b * (k : Int)
  | 0, _ => by simp [sumN]
  | k + 1, h => by
    have h1 := sumN_bd k (fun i h0 h1 => h i h0 (by omega))
    have h2 := h (k : Int) (by omega) (by omega)
    rw [sumN, show ((k + 1 : Nat) : Int) = (k : Int) + 1 by omega, Int.mul_add, Int.mul_add]
    omega
theorem sumZ_bd {f : Int → Int} {a b n : Int} (hn : 0 ≤ n) (h : ∀ i : Int, 0 ≤ i → i < n → a ≤ f i ∧ f i ≤ b) : a * n ≤ sumZ f n ∧ sumZ f n ≤ b * n := by
  have := sumN_bd (f := f) (a := a) (b := b) n.toNat (fun i h0 h1 => h i h0 (by omega))
  rw [show ((n.toNat : Nat) : Int) = n by omega] at this
  exact this
theorem sumN_add (f : Int → Int) (a : Nat) : ∀ (b : Nat), sumN f (a + b) = sumN f a + sumN (fun i => f ((a : Int) + i)) b
  | 0 => by simp [sumN]
  | b + 1 => by
    rw [← Nat.add_assoc, sumN, sumN_add f a b, sumN, Int.add_assoc]
    congr 2
theorem sumZ_add (f : Int → Int) {a b : Int} (ha : 0 ≤ a) (hb : 0 ≤ b) : sumZ f (a + b) = sumZ f a + sumZ (fun i => f (a + i)) b := by
  unfold sumZ
  rw [show (a + b).toNat = a.toNat + b.toNat by omega, sumN_add, show ((a.toNat : Nat) : Int) = a by omega]
/-- the first h from a on, n of them, of which p holds; -1 -/
def fstN (p : Int → Bool) : Nat → Int → Int
  | 0, _ => -1
  | n + 1, a => if p a = true then a else fstN p n (a + 1)
def fstZ (p : Int → Bool) (a b : Int) : Int := fstN p (b - a).toNat a
theorem fstZ_end {p : Int → Bool} {a b : Int} (h : b ≤ a) : fstZ p a b = -1 := by
  unfold fstZ
  rw [show (b - a).toNat = 0 by omega]; rfl
theorem fstZ_yes {p : Int → Bool} {a b : Int} (h : a < b) (hp : p a = true) : fstZ p a b = a := by
  unfold fstZ
  rw [show (b - a).toNat = (b - (a + 1)).toNat + 1 by omega, fstN, if_pos hp]
theorem fstZ_no {p : Int → Bool} {a b : Int} (h : a < b) (hp : ¬ p a = true) : fstZ p a b = fstZ p (a + 1) b := by
  unfold fstZ
  rw [show (b - a).toNat = (b - (a + 1)).toNat + 1 by omega, fstN, if_neg hp]
theorem fstZ_R {p : Int → Bool} : ∀ (n : Nat) (a b : Int), (b - a).toNat = n → fstZ p a b = -1 ∨ (a ≤ fstZ p a b ∧ fstZ p a b < b ∧ p (fstZ p a b) = true ∧ ∀ i, a ≤ i → i < fstZ p a b → p i = false)
  | 0, a, b, h => Or.inl (fstZ_end (by omega))
  | n + 1, a, b, h => by
    by_cases hp : p a = true
    · rw [fstZ_yes (by omega) hp]
      exact Or.inr ⟨by omega, by omega, hp, fun i h1 h2 => absurd h2 (by omega)⟩
    · rw [fstZ_no (by omega) hp]
      rcases fstZ_R n (a + 1) b (by omega) with h1 | ⟨h1, h2, h3, h4⟩
      · exact Or.inl h1
      · refine Or.inr ⟨by omega, h2, h3, fun i g1 g2 => ?_⟩
        by_cases e : i = a
        · rw [e]; exact Bool.eq_false_iff.mpr hp
        · exact h4 i (by omega) g2
theorem fstZ_none {p : Int → Bool} : ∀ (n : Nat) (a b : Int), (b - a).toNat = n → fstZ p a b = -1 → 0 ≤ a → ∀ i, a ≤ i → i < b → p i = false
  | 0, a, b, h, _, _, i, h1, h2 => absurd h2 (by omega)
  | n + 1, a, b, h, hf, h0, i, h1, h2 => by
    by_cases hp : p a = true
    · rw [fstZ_yes (by omega) hp] at hf
      omega
    · rw [fstZ_no (by omega) hp] at hf
      by_cases e : i = a
      · rw [e]; exact Bool.eq_false_iff.mpr hp
      · exact fstZ_none n (a + 1) b (by omega) hf (by omega) i (by omega) h2
/-- the place of the most, of like ones the first; of the least -/
def argm (f : Int → Int) : Nat → Int
  | 0 => 0
  | k + 1 => if f (argm f k) < f ((k : Int) + 1) then (k : Int) + 1 else argm f k
def argl (f : Int → Int) : Nat → Int
  | 0 => 0
  | k + 1 => if f ((k : Int) + 1) < f (argl f k) then (k : Int) + 1 else argl f k
theorem argm_in (f : Int → Int) : ∀ k : Nat, 0 ≤ argm f k ∧ argm f k ≤ (k : Int)
  | 0 => by simp [argm]
  | k + 1 => by
    have := argm_in f k
    rw [argm]
    split <;> omega
theorem argl_in (f : Int → Int) : ∀ k : Nat, 0 ≤ argl f k ∧ argl f k ≤ (k : Int)
  | 0 => by simp [argl]
  | k + 1 => by
    have := argl_in f k
    rw [argl]
    split <;> omega
theorem argm_congr {f g : Int → Int} : ∀ (k : Nat), (∀ i : Int, 0 ≤ i → i ≤ (k : Int) → f i = g i) → argm f k = argm g k
  | 0, _ => rfl
  | k + 1, h => by
    have e := argm_congr k (fun i h0 h1 => h i h0 (by omega))
    have hb := argm_in g k
    rw [argm, argm, e, h (argm g k) hb.1 (by omega), h ((k : Int) + 1) (by omega) (by omega)]
theorem argl_congr {f g : Int → Int} : ∀ (k : Nat), (∀ i : Int, 0 ≤ i → i ≤ (k : Int) → f i = g i) → argl f k = argl g k
  | 0, _ => rfl
  | k + 1, h => by
    have e := argl_congr k (fun i h0 h1 => h i h0 (by omega))
    have hb := argl_in g k
    rw [argl, argl, e, h (argl g k) hb.1 (by omega), h ((k : Int) + 1) (by omega) (by omega)]
/-! bits -/
theorem bAnd_R (a b : Int) : R32 (bAnd a b) := iZ_R _
theorem bOr_R (a b : Int) : R32 (bOr a b) := iZ_R _
theorem bXor_R (a b : Int) : R32 (bXor a b) := iZ_R _
theorem bShl_R (a b : Int) : R32 (bShl a b) := iZ_R _
theorem bShr_R (a b : Int) : R32 (bShr a b) := iZ_R _
theorem bUshr_R (a b : Int) : R32 (bUshr a b) := iZ_R _
theorem bB_R (a : Int) : R32 (bB a) := iZ_R _
theorem bS_R (a : Int) : R32 (bS a) := iZ_R _
/-- bit k of v -/
def tb (v : Int) (k : Int) : Bool := (iZ v).toBitVec.getLsbD k.toNat
theorem iZ_nI {k : Int} (h : 0 ≤ k) : iZ k = nI k.toNat := by
  unfold iZ nI
  rw [← Int32.ofInt_eq_ofNat, show ((k.toNat : Nat) : Int) = k by omega]
theorem sh_amt : ∀ k : Nat, k < 32 → ((nI k &&& 31).toBitVec.smod 32).toNat = k := by decide
theorem bShr_bit {v k : Int} (h : 0 ≤ k ∧ k < 32) : bAnd (bShr v k) 1 = if tb v k = true then 1 else 0 := by
  unfold bAnd bShr tb
  rw [iZ_of]
  have hk : k.toNat < 32 := by omega
  have e1 : (iZ v >>> (iZ k &&& 31)).toBitVec = (iZ v).toBitVec.sshiftRight k.toNat := by
    rw [iZ_nI h.1]
    show (iZ v).toBitVec.sshiftRight' _ = _
    rw [BitVec.sshiftRight']
    congr 1
    exact sh_amt _ hk
  have e2 : ((iZ v >>> (iZ k &&& 31)) &&& iZ 1).toBitVec = if (iZ v).toBitVec.getLsbD k.toNat = true then 1#32 else 0#32 := by
    show (iZ v >>> (iZ k &&& 31)).toBitVec &&& (iZ 1).toBitVec = _
    rw [e1]
    have e3 : (iZ 1).toBitVec = 1#32 := by decide
    rw [e3]
    apply BitVec.eq_of_getLsbD_eq
    intro i hi
    rw [BitVec.getLsbD_and, BitVec.getLsbD_sshiftRight]
    by_cases h0 : i = 0
    · subst h0
      cases hb : (iZ v).toBitVec.getLsbD k.toNat <;> simp [hb, hk]
    · cases hb : (iZ v).toBitVec.getLsbD k.toNat <;> simp [h0, BitVec.getLsbD_one]
  show BitVec.toInt (((iZ v >>> (iZ k &&& 31)) &&& iZ 1).toBitVec) = _
  rw [e2]
  split <;> decide
theorem tb_or (a b k : Int) : tb (bOr a b) k = (tb a k || tb b k) := by
  unfold tb bOr
  rw [iZ_of]
  show ((iZ a).toBitVec ||| (iZ b).toBitVec).getLsbD _ = _
  rw [BitVec.getLsbD_or]
theorem tb_and (a b k : Int) : tb (bAnd a b) k = (tb a k && tb b k) := by
  unfold tb bAnd
  rw [iZ_of]
  show ((iZ a).toBitVec &&& (iZ b).toBitVec).getLsbD _ = _
  rw [BitVec.getLsbD_and]
theorem tb_not {a k : Int} (h : 0 ≤ k ∧ k < 32) : tb (bXor a (-1)) k = !(tb a k) := by
  unfold tb bXor
  rw [iZ_of]
  show ((iZ a).toBitVec ^^^ (iZ (-1)).toBitVec).getLsbD _ = _
  have e3 : (iZ (-1)).toBitVec = BitVec.allOnes 32 := by decide
  rw [BitVec.getLsbD_xor, e3, BitVec.getLsbD_allOnes]
  have : k.toNat < 32 := by omega
  simp [this]
theorem tb_shl1 {j k : Int} (hj : 0 ≤ j ∧ j < 32) (hk : 0 ≤ k ∧ k < 32) : tb (bShl 1 j) k = decide (k = j) := by
  unfold tb bShl
  rw [iZ_of]
  have hj' : j.toNat < 32 := by omega
  have e1 : (iZ 1 <<< (iZ j &&& 31)).toBitVec = 1#32 <<< j.toNat := by
    rw [iZ_nI hj.1]
    show (iZ 1).toBitVec <<< ((nI j.toNat &&& 31).toBitVec.smod 32) = _
    rw [BitVec.shiftLeft_eq', sh_amt _ hj']
    have e3 : (iZ 1).toBitVec = 1#32 := by decide
    rw [e3]
  rw [e1, BitVec.getLsbD_shiftLeft, BitVec.getLsbD_one]
  have hk' : k.toNat < 32 := by omega
  by_cases h : k = j
  · subst h; simp [hk']
  · by_cases h2 : k.toNat < j.toNat
    · simp [h, h2]
    · have : k.toNat - j.toNat ≠ 0 := by omega
      simp [h, this]
theorem tb_0 (k : Int) : tb 0 k = false := by
  unfold tb
  have : (iZ 0).toBitVec = 0#32 := by decide
  rw [this]; simp
theorem bOr_0 {a : Int} (h : R32 a) : bOr a 0 = a := by
  unfold bOr
  have : iZ a ||| iZ 0 = iZ a := by rw [iZ_0]; exact Int32.or_zero
  rw [this, iZ_toInt h]
theorem bUshr16 (a : Int) : 0 ≤ bUshr a 16 ∧ bUshr a 16 ≤ 65535 := by
  unfold bUshr
  have hb := pk_ushr (iZ a) (iZ 16) 16 (by decide)
  generalize ((iZ a).toUInt32 >>> ((iZ 16).toUInt32 &&& Int32.toUInt32 31)).toInt32 = q at hb
  have hl : (iZ a).toBitVec.toNat < 2 ^ 32 := (iZ a).toBitVec.isLt
  have hq : q.toBitVec.toNat < 65536 := by rw [hb]; omega
  have e : q.toInt = (q.toBitVec.toNat : Int) := by
    show q.toBitVec.toInt = _
    rw [BitVec.toInt_eq_toNat_of_lt (by omega)]
  rw [e]; omega
theorem bShr_pos {v k : Int} (hv : 0 ≤ v ∧ v ≤ 2147483647) (hk : 0 ≤ k ∧ k < 32) : bShr v k = v / 2 ^ k.toNat := by
  unfold bShr
  have h := pk_shr (iZ v) (iZ k &&& 31) k.toNat (by rw [iZ_nI hk.1]; exact sh_amt _ (by omega))
  rw [h, iZ_toInt (by omega), Int.shiftRight_eq_div_pow]
  rfl
theorem bShl_1 : ∀ k : Nat, k < 31 → bShl 1 (k : Int) = 2 ^ k := by decide
