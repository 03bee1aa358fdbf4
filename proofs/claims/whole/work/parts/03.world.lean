/-! THE PICTURE OF THE MACHINE: whole numbers for ints and longs, places 0, 1, 2 .. for the cells that the run has made (place k lies at address base + k), a world: what each place holds -/
abbrev AV : Type := Int ⊕ (Int ⊕ Option Nat)
abbrev vI (z : Int) : AV := Sum.inl z
abbrev vL (z : Int) : AV := Sum.inr (Sum.inl z)
abbrev vR (k : Nat) : AV := Sum.inr (Sum.inr (some k))
abbrev vN : AV := Sum.inr (Sum.inr none)
abbrev AC : Type := (Nat × Nat × (Int → Int)) ⊕ ((Nat × (Int → Option Nat)) ⊕ (Nat × List AV))
abbrev cI (n : Nat) (f : Int → Int) : AC := Sum.inl (0, n, f)
abbrev cZ (n : Nat) (f : Int → Int) : AC := Sum.inl (1, n, f)
abbrev cR (n : Nat) (f : Int → Option Nat) : AC := Sum.inr (Sum.inl (n, f))
abbrev cO (ci : Nat) (fs : List AV) : AC := Sum.inr (Sum.inr (ci, fs))
abbrev AW : Type := Nat → AC
def upw (w : AW) (k : Nat) (c : AC) : AW := fun j => if j = k then c else w j
def upf (f : Int → Int) (i v : Int) : Int → Int := fun j => if j = i then v else f j
def upr (f : Int → Option Nat) (i : Int) (v : Option Nat) : Int → Option Nat := fun j => if j = i then v else f j
theorem upw_s {w : AW} {k : Nat} {c : AC} : upw w k c k = c := by simp [upw]
theorem upw_o {w : AW} {k j : Nat} {c c2 : AC} (h : j ≠ k) (e : w j = c2) : upw w k c j = c2 := by simp [upw, h, e]
abbrev Cx : Type := Nat × va_G × (ClassId × ClassId × ClassId)
def iZ (z : Int) : Int32 := Int32.ofInt z
def lZ (z : Int) : Int64 := Int64.ofInt z
abbrev R32 (z : Int) : Prop := -2147483648 ≤ z ∧ z ≤ 2147483647
abbrev R64 (z : Int) : Prop := -9223372036854775808 ≤ z ∧ z ≤ 9223372036854775807
theorem iZ_toInt {z : Int} (h : R32 z) : (iZ z).toInt = z := Int32.toInt_ofInt_of_le (by omega) (by omega)
theorem iZ_of (v : Int32) : iZ v.toInt = v := Int32.ofInt_toInt v
theorem iZ_R (v : Int32) : R32 v.toInt := ⟨by have := v.le_toInt; omega, by have := v.toInt_lt; omega⟩
theorem iZ_add (a b : Int) : iZ a + iZ b = iZ (a + b) := (Int32.ofInt_add a b).symm
theorem iZ_sub (a b : Int) : iZ a - iZ b = iZ (a - b) := (Int32.ofInt_sub a b).symm
theorem iZ_mul (a b : Int) : iZ a * iZ b = iZ (a * b) := (Int32.ofInt_mul a b).symm
theorem iZ_neg (a : Int) : -iZ a = iZ (-a) := (Int32.ofInt_neg a).symm
theorem iZ_lt {a b : Int} (ha : R32 a) (hb : R32 b) : iZ a < iZ b ↔ a < b := by rw [Int32.lt_iff_toInt_lt, iZ_toInt ha, iZ_toInt hb]
theorem iZ_le {a b : Int} (ha : R32 a) (hb : R32 b) : iZ a ≤ iZ b ↔ a ≤ b := by rw [Int32.le_iff_toInt_le, iZ_toInt ha, iZ_toInt hb]
theorem iZ_eq {a b : Int} (ha : R32 a) (hb : R32 b) : iZ a = iZ b ↔ a = b := by rw [← Int32.toInt_inj, iZ_toInt ha, iZ_toInt hb]
theorem iZ_0 : iZ 0 = 0 := by decide
theorem iZ_1 : iZ 1 = 1 := by decide
theorem iZ_clamp {z : Int} (h : R32 z) : (iZ z).toNatClampNeg = z.toNat := by
  show (iZ z).toInt.toNat = _
  rw [iZ_toInt h]
theorem iZ_in {i : Int} {n : Nat} (hi : 0 ≤ i ∧ i < (n : Int)) (hn : Nat.ble n 4096 = true) : vp_in (iZ i) n := by
  have hn := Nat.le_of_ble_eq_true hn
  rw [vp_in_iff, iZ_toInt (by omega)]
  exact hi
theorem lZ_toInt {z : Int} (h : R64 z) : (lZ z).toInt = z := Int64.toInt_ofInt_of_le (by omega) (by omega)
theorem lZ_add (a b : Int) : lZ a + lZ b = lZ (a + b) := (Int64.ofInt_add a b).symm
theorem lZ_mul (a b : Int) : lZ a * lZ b = lZ (a * b) := (Int64.ofInt_mul a b).symm
theorem lZ_i {z : Int} (h : R32 z) : (iZ z).toInt64 = lZ z := by
  rw [← Int64.toInt_inj, Int32.toInt_toInt64, iZ_toInt h, lZ_toInt (by omega)]
theorem lZ_lt {a b : Int} (ha : R64 a) (hb : R64 b) : lZ a < lZ b ↔ a < b := by rw [Int64.lt_iff_toInt_lt, lZ_toInt ha, lZ_toInt hb]
theorem lZ_eq {a b : Int} (ha : R64 a) (hb : R64 b) : lZ a = lZ b ↔ a = b := by rw [← Int64.toInt_inj, lZ_toInt ha, lZ_toInt hb]
theorem iZ_div {a b : Int} (ha : 0 ≤ a ∧ a ≤ 2147483647) (hb : 0 < b ∧ b ≤ 2147483647) : iZ a / iZ b = iZ (a / b) := by
  have hR : R32 (a / b) := ⟨by have := Int.ediv_nonneg ha.1 (Int.le_of_lt hb.1); omega, by have := Int.ediv_le_self b ha.1; omega⟩
  rw [← Int32.toInt_inj, iZ_toInt hR, Int32.toInt_div_of_ne_right _ _ (fun h => by
    have := congrArg Int32.toInt h
    rw [iZ_toInt (by omega)] at this
    have e : (-1 : Int32).toInt = -1 := by decide
    omega), iZ_toInt (by omega), iZ_toInt (by omega), Int.tdiv_eq_ediv_of_nonneg ha.1]
theorem iZ_rem {a b : Int} (ha : 0 ≤ a ∧ a ≤ 2147483647) (hb : 0 < b ∧ b ≤ 2147483647) : iZ a - iZ a / iZ b * iZ b = iZ (a % b) := by
  rw [iZ_div ha hb, iZ_mul, iZ_sub, Int.emod_def, Int.mul_comm]
theorem iZ_b {z : Int} (h : -128 ≤ z ∧ z ≤ 127) : (Int8.ofInt z).toInt32 = iZ z := by
  rw [← Int32.toInt_inj, Int8.toInt_toInt32, iZ_toInt (by omega), Int8.toInt_ofInt_of_le (by omega) (by omega)]
theorem iZ_s {z : Int} (h : -32768 ≤ z ∧ z ≤ 32767) : (Int16.ofInt z).toInt32 = iZ z := by
  rw [← Int32.toInt_inj, Int16.toInt_toInt32, iZ_toInt (by omega), Int16.toInt_ofInt_of_le (by omega) (by omega)]
/-! bits, as the machine has them: whole numbers out of its answers -/
def bAnd (a b : Int) : Int := (iZ a &&& iZ b).toInt
def bOr (a b : Int) : Int := (iZ a ||| iZ b).toInt
def bXor (a b : Int) : Int := (iZ a ^^^ iZ b).toInt
def bShl (a b : Int) : Int := (iZ a <<< (iZ b &&& 31)).toInt
def bShr (a b : Int) : Int := (iZ a >>> (iZ b &&& 31)).toInt
def bUshr (a b : Int) : Int := ((iZ a).toUInt32 >>> ((iZ b).toUInt32 &&& Int32.toUInt32 31)).toInt32.toInt
def bB (a : Int) : Int := (iZ a).toInt8.toInt32.toInt
def bS (a : Int) : Int := (iZ a).toInt16.toInt32.toInt
def bW (a : Int) : Int := (iZ a).toInt
def cmpL (a b : Int) : Int := if b < a then 1 else if a = b then 0 else -1
def b2i (P : Prop) [Decidable P] : Int := if P then 1 else 0
theorem b2i_t {P : Prop} [Decidable P] (h : P) : b2i P = 1 := if_pos h
theorem b2i_f {P : Prop} [Decidable P] (h : ¬ P) : b2i P = 0 := if_neg h
theorem b2i_R (P : Prop) [Decidable P] : b2i P = 0 ∨ b2i P = 1 := by unfold b2i; split <;> simp
/-! from the picture to the machine -/
def cv (b : Nat) (v : AV) : Value := match v with
  | .inl z => .int (iZ z)
  | .inr (.inl z) => .long (lZ z)
  | .inr (.inr o) => va_rf (o.map (fun k => b + k))
def cE (x : Cx) (c : AC) : va_E := match c with
  | .inl (t, n, f) => .inl (if t = 0 then x.2.2.1 else x.2.2.2.1, n, .inl (fun j => iZ (f (j : Int))))
  | .inr (.inl (n, f)) => .inl (x.2.2.2.2, n, .inr (.inr (.inr (.inr (fun j => (f (j : Int)).map (fun k => x.1 + k))))))
  | .inr (.inr (ci, fs)) => .inr (ci, fs.map (cv x.1))
def cw (x : Cx) (n : Nat) (w : AW) : va_W := (List.range n).map (fun k => (x.1 + k, cE x (w k)))
abbrev tysX (x : Cx) : List (ClassId × FieldType) := [(x.2.2.1, .int), (x.2.2.2.1, .boolean), (x.2.2.2.2, .object "BishopsPeace$Sheet")]
abbrev AX (x : Cx) : Nat → Prop := fun q => x.1 ≤ q
theorem cw_at {x : Cx} {n k : Nat} {w : AW} (h : k < n) : (cw x n w)[k]? = some (x.1 + k, cE x (w k)) := by simp [cw, h]
theorem cw_is {x : Cx} {n k : Nat} {w : AW} {q : Nat × va_E} (h : (cw x n w)[k]? = some q) : k < n ∧ q = (x.1 + k, cE x (w k)) := by
  have hl : k < n := by
    have := (List.getElem?_eq_some_iff.mp h).1
    simpa [cw] using this
  rw [cw_at hl] at h
  exact ⟨hl, (Option.some.inj h).symm⟩
theorem cw_len {x : Cx} {n : Nat} {w : AW} : (cw x n w).length = n := by simp [cw]
theorem cw_set {x : Cx} {n k : Nat} {w : AW} {c : AC} (h : k < n) : (cw x n w).set k (x.1 + k, cE x c) = cw x n (upw w k c) := by
  apply List.ext_getElem?
  intro j
  by_cases hj : j < n
  · by_cases hk : j = k
    · subst hk
      rw [List.getElem?_set_self (by rw [cw_len]; exact hj), cw_at hj, upw_s]
    · rw [List.getElem?_set_ne (Ne.symm hk), cw_at hj, cw_at hj, upw_o hk rfl]
  · rw [List.getElem?_eq_none (by rw [List.length_set, cw_len]; omega), List.getElem?_eq_none (by rw [cw_len]; omega)]
theorem cw_push {x : Cx} {n : Nat} {w : AW} {c : AC} : cw x n w ++ [(x.1 + n, cE x c)] = cw x (n + 1) (upw w n c) := by
  unfold cw
  rw [List.range_succ, List.map_append]
  congr 1
  · apply List.map_congr_left
    intro k hk
    rw [upw_o (Nat.ne_of_lt (List.mem_range.mp hk)) rfl]
  · simp [upw_s]
theorem cw_D (x : Cx) (n : Nat) (w : AW) : va_D (AX x) (cw x n w) := by
  refine ⟨fun i j p q hp hq he => ?_, fun k q hq => ?_⟩
  · obtain ⟨-, rfl⟩ := cw_is hp
    obtain ⟨-, rfl⟩ := cw_is hq
    have : x.1 + i = x.1 + j := he
    omega
  · obtain ⟨-, rfl⟩ := cw_is hq
    exact Nat.le_add_right _ _
theorem upf_c (f : Int → Int) {i v : Int} (hi : R32 i ∧ 0 ≤ i) : upd (fun j => iZ (f (j : Int))) (iZ i).toNatClampNeg (iZ v) = fun j : Nat => iZ (upf f i v (j : Int)) := by
  funext j
  rw [iZ_clamp hi.1]
  unfold upd upf
  by_cases h : j = i.toNat
  · rw [if_pos h, if_pos (by omega)]
  · rw [if_neg h, if_neg (by omega)]
theorem upr_c (f : Int → Option Nat) {b k : Nat} {i : Int} (hi : R32 i ∧ 0 ≤ i) : va_up (fun j => (f (j : Int)).map (fun k => b + k)) (iZ i).toNatClampNeg (some (b + k)) = fun j : Nat => (upr f i (some k) (j : Int)).map (fun k => b + k) := by
  funext j
  rw [iZ_clamp hi.1]
  unfold va_up upr
  by_cases h : j = i.toNat
  · rw [if_pos h, if_pos (by omega)]; rfl
  · rw [if_neg h, if_neg (by omega)]
/-! locals: the list of what each slot holds, where it is known -/
def lvL (b : Nat) : Nat → List (Option AV) → List (Nat × Value)
  | _, [] => []
  | k, none :: t => lvL b (k + 1) t
  | k, some v :: t => (k, cv b v) :: lvL b (k + 1) t
def lk : List (Option AV) → Nat → Option AV
  | [], _ => none
  | a :: _, 0 => a
  | _ :: t, i + 1 => lk t i
def sv : List (Option AV) → Nat → Option AV → List (Option AV)
  | [], _, _ => []
  | _ :: t, 0, v => v :: t
  | a :: t, i + 1, v => a :: sv t i v
theorem lvL_mem {b : Nat} : ∀ (L : List (Option AV)) (k : Nat) (q : Nat × Value), q ∈ lvL b k L ↔ ∃ i v, lk L i = some v ∧ q = (k + i, cv b v)
  | [], k, q => by
    simp only [lvL, List.not_mem_nil, false_iff]
    rintro ⟨i, v, h, -⟩
    simp [lk] at h
  | none :: t, k, q => by
    rw [lvL, lvL_mem t (k + 1) q]
    constructor
    · rintro ⟨i, v, h, rfl⟩
      exact ⟨i + 1, v, h, by rw [Nat.add_assoc, Nat.add_comm 1 i]⟩
    · rintro ⟨i, v, h, rfl⟩
      cases i with
      | zero => simp [lk] at h
      | succ i => exact ⟨i, v, h, by rw [Nat.add_assoc, Nat.add_comm 1 i]⟩
  | some a :: t, k, q => by
    rw [lvL, List.mem_cons, lvL_mem t (k + 1) q]
    constructor
    · rintro (rfl | ⟨i, v, h, rfl⟩)
      · exact ⟨0, a, rfl, rfl⟩
      · exact ⟨i + 1, v, h, by rw [Nat.add_assoc, Nat.add_comm 1 i]⟩
    · rintro ⟨i, v, h, rfl⟩
      cases i with
      | zero =>
        simp [lk] at h
        subst h
        exact Or.inl rfl
      | succ i => exact Or.inr ⟨i, v, h, by rw [Nat.add_assoc, Nat.add_comm 1 i]⟩
abbrev LH (b : Nat) (ls : Array Slot) (nL : Nat) (L : List (Option AV)) : Prop := lv_has ls nL (lvL b 0 L)
theorem LH.at {b : Nat} {ls : Array Slot} {nL : Nat} {L : List (Option AV)} (h : LH b ls nL L) {i : Nat} {v : AV} (hi : lk L i = some v) : ls[i]? = some (.val (cv b v)) :=
  h.2.2 (i, cv b v) ((lvL_mem L 0 _).mpr ⟨i, v, hi, by rw [Nat.zero_add]⟩)
theorem sv_lk : ∀ (L : List (Option AV)) (i j : Nat) (v : Option AV) (u : AV), lk (sv L i v) j = some u → (j = i ∧ v = some u) ∨ (j ≠ i ∧ lk L j = some u)
  | [], i, j, v, u, h => by simp [sv, lk] at h
  | a :: t, 0, 0, v, u, h => Or.inl ⟨rfl, h⟩
  | a :: t, 0, j + 1, v, u, h => Or.inr ⟨by omega, h⟩
  | a :: t, i + 1, 0, v, u, h => Or.inr ⟨by omega, h⟩
  | a :: t, i + 1, j + 1, v, u, h => by
    rcases sv_lk t i j v u h with ⟨h1, h2⟩ | ⟨h1, h2⟩
    · exact Or.inl ⟨by omega, h2⟩
    · exact Or.inr ⟨by omega, h2⟩
/-- no long stands just below slot i -/
def okS (L : List (Option AV)) (i : Nat) : Bool := match i with
  | 0 => true
  | j + 1 => match lk L j with
    | some (.inr (.inl _)) => false
    | _ => true
theorem cv_cat (b : Nat) (v : AV) : (cv b v).category = 2 → ∃ z, v = .inr (.inl z) := by
  intro h
  rcases v with z | z | o
  · simp [cv, Value.category] at h
  · exact ⟨z, rfl⟩
  · cases o <;> simp [cv, va_rf, Value.category] at h
theorem LH.weak {b : Nat} {ls : Array Slot} {nL : Nat} {L L' : List (Option AV)} (h : LH b ls nL L) (hw : ∀ i v, lk L' i = some v → lk L i = some v) : LH b ls nL L' := by
  refine ⟨h.1, h.2.1, fun q hq => ?_⟩
  obtain ⟨i, v, h1, rfl⟩ := (lvL_mem L' 0 q).mp hq
  rw [Nat.zero_add]
  exact h.at (hw i v h1)
theorem LH.st1 {b : Nat} {ls' : Array Slot} {nL i : Nat} {L : List (Option AV)} {v : AV} (hok : okS L i = true)
    (h : lv_has ls' nL ((i, cv b v) :: (lvL b 0 L).filter (fun q => !(q.1 == i) && !(q.1 + 1 == i && q.2.category == 2)))) : LH b ls' nL (sv L i (some v)) := by
  refine ⟨h.1, h.2.1, fun q hq => h.2.2 q ?_⟩
  obtain ⟨j, u, h1, rfl⟩ := (lvL_mem _ 0 q).mp hq
  rcases sv_lk L i j _ u h1 with ⟨rfl, h2⟩ | ⟨h2, h3⟩
  · cases h2
    rw [Nat.zero_add]
    exact List.mem_cons_self
  · refine List.mem_cons_of_mem _ (List.mem_filter.mpr ⟨(lvL_mem L 0 _).mpr ⟨j, u, h3, rfl⟩, ?_⟩)
    simp only [Nat.zero_add, Bool.and_eq_true, Bool.not_eq_true', beq_eq_false_iff_ne, Bool.and_eq_false_iff]
    refine ⟨h2, ?_⟩
    by_cases hc : (cv b u).category = 2
    · left
      intro he
      obtain ⟨z, rfl⟩ := cv_cat b u hc
      subst he
      simp [okS, h3] at hok
    · exact Or.inr hc
theorem LH.st2 {b : Nat} {ls' : Array Slot} {nL i : Nat} {L : List (Option AV)} {v : AV} (hok : okS L i = true)
    (h : lv_has ls' nL ((i, cv b v) :: (lvL b 0 L).filter (fun q => !(q.1 == i) && (!(q.1 == i + 1) && !(q.1 + 1 == i && q.2.category == 2))))) : LH b ls' nL (sv (sv L i (some v)) (i + 1) none) := by
  refine ⟨h.1, h.2.1, fun q hq => h.2.2 q ?_⟩
  obtain ⟨j, u, h1, rfl⟩ := (lvL_mem _ 0 q).mp hq
  rcases sv_lk _ (i + 1) j _ u h1 with ⟨rfl, h2⟩ | ⟨h5, h1⟩
  · cases h2
  rcases sv_lk L i j _ u h1 with ⟨rfl, h2⟩ | ⟨h2, h3⟩
  · cases h2
    rw [Nat.zero_add]
    exact List.mem_cons_self
  · refine List.mem_cons_of_mem _ (List.mem_filter.mpr ⟨(lvL_mem L 0 _).mpr ⟨j, u, h3, rfl⟩, ?_⟩)
    simp only [Nat.zero_add, Bool.and_eq_true, Bool.not_eq_true', beq_eq_false_iff_ne, Bool.and_eq_false_iff]
    refine ⟨h2, h5, ?_⟩
    by_cases hc : (cv b u).category = 2
    · left
      intro he
      obtain ⟨z, rfl⟩ := cv_cat b u hc
      subst he
      simp [okS, h3] at hok
    · exact Or.inr hc
/-- a method's first locals -/
def entA : List AV → List (Option AV)
  | [] => []
  | (.inr (.inl z)) :: t => some (vL z) :: none :: entA t
  | v :: t => some v :: entA t
def entL (As : List AV) (nL : Nat) : List (Option AV) := entA As ++ List.replicate (nL - (entA As).length) none
