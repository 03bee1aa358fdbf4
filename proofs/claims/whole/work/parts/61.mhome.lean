/-! the way home: the model's scale is sixteen times the class's; common divisors -/
abbrev scB (B : BT) : BT := (B.1, B.2.1, 16 * B.2.2.1, B.2.2.2)
theorem bet_sc {n hs ch : Int} {row : Int → Int} {B : BT} : betB n hs (16 * ch) row (scB B) = betB n hs ch row B := by
  unfold betB
  show (if 16 * ch ≠ 16 * B.2.2.1 then decide (16 * B.2.2.1 < 16 * ch) else if hs ≠ B.2.1 then decide (hs < B.2.1) else lexB row B.2.2.2 (min n B.1 + 1)) = _
  by_cases c : ch = B.2.2.1
  · rw [if_neg (show ¬ 16 * ch ≠ 16 * B.2.2.1 by omega), if_neg (show ¬ ch ≠ B.2.2.1 by omega)]
  · rw [if_pos (show 16 * ch ≠ 16 * B.2.2.1 by omega), if_pos (show ch ≠ B.2.2.1 by omega)]
    exact decide_eq_decide.mpr (by omega)
theorem arr_new {n hs ch : Int} {row : Int → Int} {B : BT} (c : B.1 = -1 ∨ betB n hs ch row B = true) : arrF n hs ch row B = (n, hs, ch, nrm row n) := by
  unfold arrF
  exact if_pos c
theorem arr_old {n hs ch : Int} {row : Int → Int} {B : BT} (c : ¬ (B.1 = -1 ∨ betB n hs ch row B = true)) : arrF n hs ch row B = B := by
  unfold arrF
  exact if_neg c
theorem arr_sc {n hs ch : Int} {row : Int → Int} {B : BT} : arrF n hs (16 * ch) row (scB B) = scB (arrF n hs ch row B) := by
  by_cases c : B.1 = -1 ∨ betB n hs ch row B = true
  · rw [arr_new c, arr_new (B := scB B) (by rw [bet_sc]; exact c)]
  · rw [arr_old c, arr_old (B := scB B) (by rw [bet_sc]; exact c)]
def dv (m : Nat) (ch : Int) : Prop := ∃ z : Int, ch = 16 ^ m * z
theorem dv_16 {m : Nat} {ch : Int} (h : dv (m + 1) ch) : ∃ z : Int, ch = 16 * (16 ^ m * z) := by
  obtain ⟨z, hz⟩ := h
  refine ⟨z, ?_⟩
  rw [hz, Int.pow_succ, Int.mul_comm (16 ^ m) 16, Int.mul_assoc]
theorem dv_mod {m : Nat} {ch : Int} (h : dv (m + 1) ch) : ch % 16 = 0 := by
  obtain ⟨z, hz⟩ := dv_16 h
  generalize (16 : Int) ^ m * z = y at hz
  omega
theorem dv_dn {m : Nat} {ch : Int} (h : dv (m + 1) ch) : dv m ch := by
  obtain ⟨z, hz⟩ := h
  exact ⟨16 * z, by rw [hz, Int.pow_succ, Int.mul_assoc]⟩
theorem dv_ch {m : Nat} {ch q : Int} (h : dv (m + 1) ch) : dv m (ch / 16 * q) := by
  obtain ⟨z, hz⟩ := dv_16 h
  refine ⟨z * q, ?_⟩
  rw [← Int.mul_assoc]
  congr 1
  generalize (16 : Int) ^ m * z = y at hz
  omega
theorem chn_sc {W : Int → Int → Bool} {fa : Int → Int} {go st hs l0 ch : Int} (hd : l0 ≠ go → ch % 16 = 0) : chnF W fa go st hs l0 (16 * ch) = 16 * chnF W fa go st hs l0 ch := by
  unfold chnF
  by_cases c : l0 ≠ go ∧ W (st + hs) l0 = true
  · rw [if_pos c, if_pos c]
    have h := hd c.1
    rw [← Int.mul_assoc]
    congr 1
    omega
  · rw [if_neg c, if_neg c]
theorem fldR_sc {g g2 : Int → BT → BT} : ∀ (k : Nat) (B : BT), (∀ (r : Int) (B : BT), 0 ≤ r → r < (k : Int) → g r (scB B) = scB (g2 r B)) → fldR g k (scB B) = scB (fldR g2 k B)
  | 0, _, _ => rfl
  | k + 1, B, h => by
    rw [fldR, fldR, fldR_sc k B (fun r B2 a b => h r B2 a (by omega)), h (k : Int) _ (by omega) (by omega)]
theorem wlk_sc {W : Int → Int → Bool} {fa on ot ho : Int → Int} {nu go st : Int} (hE : EdOK on ot ho nu) (hg : In7 go) : ∀ (k : Nat) (n : Int) (row : Int → Int) (hs ch : Int) (B : BT), RowOK go n row → (row n ≠ go → dv (6 - n).toNat ch) → wlk W fa on ot ho nu go st k n row hs (16 * ch) (scB B) = scB (wlk W fa on ot ho nu go st k n row hs ch B)
  | 0, _, _, _, _, _, _, _ => rfl
  | k + 1, n, row, hs, ch, B, hR, hd => by
    rw [wlk, wlk]
    by_cases c : row n = go
    · rw [if_pos c, if_pos c, arr_sc]
    · rw [if_neg c, if_neg c]
      have d := hd c
      have n6 := row_end hR hg c
      refine fldR_sc _ _ (fun r B2 h0 h1 => ?_)
      have hr : r < nu := by have := hE.1; omega
      by_cases z : acrF on ot r (row n) ≠ -1 ∧ visZ row (acrF on ot r (row n)) (n + 1) = false
      · rw [if_pos z, if_pos z]
        have hi := acr_in hE ⟨h0, hr⟩ z.1
        have hR2 := row_up hR hg c hi.1 z.2
        have key : acrF on ot r (row n) ≠ go → (6 - n).toNat = (6 - (n + 1)).toNat + 1 := fun z2 => by
          have := row_end hR2 hg (by rw [upf_s]; exact z2)
          have := hR.1
          omega
        rw [chn_sc (fun z2 => by rw [key z2] at d; exact dv_mod d), wlk_sc hE hg k (n + 1) _ _ _ _ hR2 (fun z2 => by
          rw [upf_s] at z2
          rw [key z2] at d
          unfold chnF
          split
          · exact dv_ch d
          · exact dv_dn d)]
      · rw [if_neg z, if_neg z]
theorem homF_sc {W : Int → Int → Bool} {fa on ot ho : Int → Int} {nu f t h : Int} (hE : EdOK on ot ho nu) (hf : In7 f) (ht : In7 t) : homF W fa on ot ho nu f t h 268435456 = scB (homF W fa on ot ho nu f t h 16777216) := by
  have e := wlk_sc (W := W) (fa := fa) (st := h) hE ht 8 0 (row0 f) 0 16777216 B0 (row0_ok hf) (fun _ => ⟨1, by decide⟩)
  have e1 : (16 : Int) * 16777216 = 268435456 := by decide
  have e2 : scB B0 = B0 := rfl
  rw [e1, e2] at e
  exact e
/-! the common divisor of a chance and its whole -/
theorem tb_nat {c k : Int} (h : 0 ≤ c ∧ c ≤ 2147483647) : tb c k = c.toNat.testBit k.toNat := by
  unfold tb
  rw [iZ_nI h.1]
  show (BitVec.ofNat 32 c.toNat).toNat.testBit k.toNat = _
  rw [BitVec.toNat_ofNat, Nat.mod_eq_of_lt (by omega)]
theorem low_0 {N k : Nat} (h : ∀ j : Nat, j < k → N.testBit j = false) : N % 2 ^ k = 0 := by
  apply Nat.eq_of_testBit_eq
  intro i
  rw [Nat.testBit_mod_two_pow, Nat.zero_testBit]
  by_cases c : i < k
  · rw [h i c, Bool.and_false]
  · rw [decide_eq_false c, Bool.false_and]
theorem gcd_low {N k : Nat} (hk : k ≤ 24) (h0 : N % 2 ^ k = 0) (h1 : k = 24 ∨ N / 2 ^ k % 2 = 1) : Nat.gcd N (2 ^ 24) = 2 ^ k := by
  have e : 2 ^ k * (N / 2 ^ k) = N := by
    have := Nat.div_add_mod N (2 ^ k)
    rw [h0, Nat.add_zero] at this
    exact this
  have e2 : 2 ^ k * 2 ^ (24 - k) = 2 ^ 24 := by rw [← Nat.pow_add, show k + (24 - k) = 24 by omega]
  have e3 : Nat.gcd N (2 ^ 24) = 2 ^ k * Nat.gcd (N / 2 ^ k) (2 ^ (24 - k)) := by
    rw [← Nat.gcd_mul_left, e, e2]
  rw [e3]
  rcases h1 with h1 | h1
  · rw [h1, show 24 - 24 = 0 from rfl, Nat.pow_zero, Nat.gcd_one_right, Nat.mul_one]
  · have cop : Nat.Coprime (N / 2 ^ k) 2 := by
      show Nat.gcd (N / 2 ^ k) 2 = 1
      rw [Nat.gcd_comm, Nat.gcd_rec, h1]
      exact Nat.gcd_one_left 2
    have c2 : Nat.gcd (N / 2 ^ k) (2 ^ (24 - k)) = 1 := Nat.Coprime.pow_right (24 - k) cop
    rw [c2, Nat.mul_one]
theorem cmb_ok {c : Int} (h : 0 ≤ c ∧ c ≤ 2147483647) : c.toNat % 2 ^ (cmbF c).toNat = 0 ∧ ((cmbF c).toNat = 24 ∨ c.toNat / 2 ^ (cmbF c).toNat % 2 = 1) := by
  unfold cmbF
  rcases fstZ_R (p := fun k => tb c k) _ 0 24 rfl with e | ⟨f1, f2, f3, f4⟩
  · rw [if_pos e]
    refine ⟨low_0 (fun j hj => ?_), Or.inl rfl⟩
    have hj : j < 24 := hj
    have := fstZ_none (p := fun k => tb c k) _ 0 24 rfl e (by omega) (j : Int) (by omega) (by omega)
    have this : tb c (j : Int) = false := this
    rw [tb_nat h, Int.toNat_natCast] at this
    exact this
  · rw [if_neg (by omega)]
    generalize fstZ (fun k => tb c k) 0 24 = z at f1 f2 f3 f4
    refine ⟨low_0 (fun j hj => ?_), Or.inr ?_⟩
    · have this : tb c (j : Int) = false := f4 (j : Int) (by omega) (by omega)
      rw [tb_nat h, Int.toNat_natCast] at this
      exact this
    · have f3 : tb c z = true := f3
      rw [tb_nat h, Nat.testBit_eq_decide_div_mod_eq, decide_eq_true_eq] at f3
      exact f3
theorem cmb_gcd {c : Int} (h : 0 ≤ c ∧ c ≤ 16777216) : Nat.gcd (16 * c).toNat 268435456 = 16 * 2 ^ (cmbF c).toNat := by
  have k := cmb_ok (c := c) (by omega)
  have r := cmbF_R c
  rw [show (16 * c).toNat = 16 * c.toNat by omega, show (268435456 : Nat) = 16 * 2 ^ 24 by decide, Nat.gcd_mul_left, gcd_low (by omega) k.1 k.2]
theorem hom_ab {c : Int} (h : 0 ≤ c ∧ c ≤ 16777216) : 16 * c / ((16 * 2 ^ (cmbF c).toNat : Nat) : Int) = bShr c (cmbF c) := by
  have r := cmbF_R c
  rw [bShr_pos (by omega) (by omega), Int.natCast_mul, Int.natCast_pow]
  exact Int.mul_ediv_mul_of_pos _ _ (by decide)
theorem hom_be0 : ∀ k : Nat, k < 25 → (268435456 : Int) / ((16 * 2 ^ k : Nat) : Int) = bShl 1 (24 - (k : Int)) := by decide
theorem hom_be {c : Int} : (268435456 : Int) / ((16 * 2 ^ (cmbF c).toNat : Nat) : Int) = bShl 1 (24 - cmbF c) := by
  have r := cmbF_R c
  have e := hom_be0 (cmbF c).toNat (by omega)
  rw [show (((cmbF c).toNat : Nat) : Int) = cmbF c by omega] at e
  exact e
theorem hom_pos (c : Int) : 16 ≤ ((16 * 2 ^ (cmbF c).toNat : Nat) : Int) ∧ ((16 * 2 ^ (cmbF c).toNat : Nat) : Int) ≤ 268435456 := by
  have r := cmbF_R c
  have h1 : 2 ^ (cmbF c).toNat ≤ 2 ^ 24 := Nat.pow_le_pow_right (by decide) (by omega)
  have h2 : 1 ≤ 2 ^ (cmbF c).toNat := Nat.one_le_two_pow
  have e : (2 : Nat) ^ 24 = 16777216 := by decide
  generalize 2 ^ (cmbF c).toNat = q at *
  omega
