/-! answers are small; the digest as a fold -/
theorem leftA_R (W : Int → Int → Bool) (k l0 : Int) : R32 (leftA W k l0) := by
  have := leftF_R W k l0
  unfold leftA
  split <;> omega
theorem bestA_R (W : Int → Int → Bool) (l0 : Int) : R32 (bestA W l0) := by
  have := argm_in (fun k => leftF W k l0) 3
  unfold bestA
  split <;> omega
theorem fstZ_B {p : Int → Bool} {a b : Int} (ha : -2147483647 ≤ a) (hb : b ≤ 2147483647) : R32 (fstZ p a b) := by
  rcases fstZ_R (p := p) _ a b rfl with h | ⟨h1, h2, -, -⟩ <;> omega
theorem nextA_R (W : Int → Int → Bool) (h l0 z : Int) : R32 (nextA W h l0 z) := by
  unfold nextA
  split
  · exact fstZ_B (by omega) (by omega)
  · omega
theorem sieA_R {W : Int → Int → Bool} {br me : Int} (hb : 0 ≤ br ∧ br ≤ 99) (hm : 0 ≤ me ∧ me ≤ 99) (l0 h st k : Int) : R32 (sieA W br me l0 h st k) := by
  unfold sieA
  split
  · rename_i c
    have := bat_R (W := W) (l0 := l0) (st := st) hb hm (by omega) _ h st rfl (by omega) (by omega)
    split <;> omega
  · omega
theorem hldA_R (W : Int → Int → Bool) (br l0 h st : Int) : R32 (hldA W br l0 h st) := by
  unfold hldA hldF
  split
  · exact fstZ_B (by omega) (by omega)
  · omega
theorem seasA_R (W : Int → Int → Bool) (sd l0 : Int) : R32 (seasA W sd l0) := by
  unfold seasA seasF
  split
  · have := sumZ_bd (f := fun k => leftF W k l0 - dayF W (k * 7 + bUshr (lotF sd (k.toNat + 1)) 16 % 7) l0) (a := -24) (b := 168) (n := 4) (by omega) (fun i _ _ => by
      have h1 := leftF_R W i l0
      have h2 := dayF_R W (i * 7 + bUshr (lotF sd (i.toNat + 1)) 16 % 7) l0
      show -24 ≤ leftF W i l0 - dayF W (i * 7 + bUshr (lotF sd (i.toNat + 1)) 16 % 7) l0 ∧ leftF W i l0 - dayF W (i * 7 + bUshr (lotF sd (i.toNat + 1)) 16 % 7) l0 ≤ 168
      omega)
    omega
  · omega
theorem wayA_R {tx : Int → Int} {by0 : Int} (hT : TxOK tx by0) (a b k : Int) : R32 (wayA tx by0 a b k) := by
  unfold wayA
  have hE := (can_ok hT).ed
  split
  · rename_i c
    have m := (can_ok hT).mat (a * 8 + b) (by omega) (by omega)
    have n := nxtF_R (wy := cWy tx by0) (f := a) (t := b) hE (numF tx by0).toNat (by have := hE.1; omega)
    split
    · split
      · omega
      · show R32 (nxtN _ _ _ _ _ _ _)
        omega
    · omega
  · omega
theorem raidA_R (W : Int → Int → Bool) (tx : Int → Int) (by0 a b s h : Int) : R32 (raidA W tx by0 a b s h) := by
  unfold raidA raidF
  split
  · split
    · exact fstZ_B (by omega) (by omega)
    · omega
  · omega
theorem fldR_ok {P : BT → Prop} {g : Int → BT → BT} : ∀ (k : Nat) (B : BT), P B → (∀ (r : Int) (B : BT), 0 ≤ r → r < (k : Int) → P B → P (g r B)) → P (fldR g k B)
  | 0, B, h, _ => h
  | k + 1, B, h, hg => by
    rw [fldR]
    exact hg (k : Int) _ (by omega) (by omega) (fldR_ok k B h (fun r B2 a b c => hg r B2 a (by omega) c))
theorem wlk_ok {W : Int → Int → Bool} {fa on ot ho : Int → Int} {nu go st top : Int} (hF : FaOK fa) (hE : EdOK on ot ho nu) (hg : In7 go) : ∀ (k : Nat) (n : Int) (row : Int → Int) (hs ch : Int) (B : BT), RowOK go n row → 0 ≤ hs ∧ hs ≤ 9 * n → 0 ≤ ch ∧ ch ≤ top → BOK go top B → BOK go top (wlk W fa on ot ho nu go st k n row hs ch B)
  | 0, _, _, _, _, _, _, _, _, hB => hB
  | k + 1, n, row, hs, ch, B, hR, hh, hc, hB => by
    rw [wlk]
    by_cases c : row n = go
    · rw [if_pos c]
      exact arr_ok hR c hB hc (by have := hR.1; omega)
    · rw [if_neg c]
      refine fldR_ok _ B hB (fun r B2 h0 h1 h2 => ?_)
      have hr : r < nu := by have := hE.1; omega
      split
      · rename_i z
        have hi := acr_in hE ⟨h0, hr⟩ z.1
        have e := hE.2 r h0 hr
        exact wlk_ok hF hE hg k _ _ _ _ _ (row_up hR hg c hi.1 z.2) (by omega) (chn_R hF hi.1 hc) h2
      · exact h2
theorem homF_ok {W : Int → Int → Bool} {fa on ot ho : Int → Int} {nu f t h top : Int} (hF : FaOK fa) (hE : EdOK on ot ho nu) (hf : In7 f) (ht : In7 t) (h0 : 0 ≤ top) : BOK t top (homF W fa on ot ho nu f t h top) := wlk_ok hF hE ht 8 0 _ 0 top _ (row0_ok hf) (by omega) (by omega) ⟨Or.inl rfl, by exact ⟨Int.le_refl _, h0⟩, by decide, by decide⟩
theorem homA_R {W : Int → Int → Bool} {fa tx : Int → Int} {by0 : Int} (hF : FaOK fa) (hT : TxOK tx by0) (a b h i : Int) : R32 (homA W fa tx by0 a b h i) := by
  unfold homA homT
  split
  · rename_i c
    have hb := homF_ok (W := W) (h := h) (top := 16777216) hF (can_ok hT).ed c.1.1 c.1.2.1 (by omega)
    split
    · exact bShr_R _ _
    · split
      · exact bShl_R _ _
      · split
        · have := hb.2.2
          omega
        · split
          · rename_i z
            rcases hb.1 with e | e
            · omega
            · have := e.2.2.2.2 i z.1 z.2
              omega
          · omega
  · omega
theorem strA_R (W : Int → Int → Bool) (h l0 a b : Int) : R32 (strA W h l0 a b) := by
  unfold strA
  split
  · rcases b2i_R ((a = 0 ∨ (a = 2 ∧ h / 24 % 7 = 1)) ∧ b ≠ 3 ∧ W h l0 = true) with e | e <;> rw [e] <;> omega
  · omega
theorem unlA_R {ru : Int → Int} (hR : RuOK ru) (a b : Int) : R32 (unlA ru a b) := by
  unfold unlA
  split
  · rename_i c
    have := unlF_R hR c.1 c.2
    omega
  · omega
theorem agrA_R {ru : Int → Int} (hR : RuOK ru) (k : Int) : R32 (agrA ru k) := by
  unfold agrA
  split
  · split
    · have := likF_R ru (comF ru 3)
      omega
    · have h1 := comF_in ru 3
      have := hR (2 * comF ru 3 + (k - 1)) (by omega) (by omega)
      omega
  · omega
theorem midA_R {ru : Int → Int} (hR : RuOK ru) (k : Int) : R32 (midA ru k) := by
  have c8 : 0 ≤ midF ru 0 ∧ midF ru 0 ≤ 23 := argl_in (chgF ru 0) 23
  have c9 : 0 ≤ midF ru 1 ∧ midF ru 1 ≤ 23 := argl_in (chgF ru 1) 23
  have d8 := chgF_R hR (k := 0) (v := midF ru 0) (by omega) c8
  have d9 := chgF_R hR (k := 1) (v := midF ru 1) (by omega) c9
  unfold midA
  (repeat' split) <;> omega
theorem wch_R (p : Int → Bool) : ∀ k : Nat, R32 (wchN p k)
  | 0 => by show R32 0; omega
  | k + 1 => by
    rw [wchN]
    split
    · exact bOr_R _ _
    · exact wch_R p k
theorem rdA_R {tx : Int → Int} {by0 : Int} (hT : TxOK tx by0) (r k : Int) : R32 (rdA tx by0 r k) := by
  unfold rdA
  split
  · rename_i c
    have := road_in (tx := tx) (r := r) hT.1 (by omega)
    (repeat' split) <;> omega
  · omega
theorem cntA_R {tx : Int → Int} {by0 : Int} {fa : Int → Int} {fc mn br me fi : Int} (hT : TxOK tx by0) (hF : FaOK fa) (h1 : R32 fc) (h2 : R32 mn) (h3 : R32 br) (h4 : R32 me) (k : Int) (hk : k ≤ 7) : R32 (cntA tx by0 fa fc mn br me fi k) := by
  have n1 := numF_R (tx := tx) hT.1
  have s1 := sumZ_bd (f := fun i => fa (3 * i + 1)) (a := 0) (b := 1) (n := 8) (by omega) (fun i g0 g1 => (hF i g0 (by omega)).2.1)
  have s2 := sumZ_bd (f := fun r => tx (4 * r + 2) - 48) (a := 0) (b := 9) (n := numF tx by0) (by omega) (fun i g0 g1 => by
    have := road_in (tx := tx) (r := i) hT.1 (by omega)
    show 0 ≤ tx (4 * i + 2) - 48 ∧ tx (4 * i + 2) - 48 ≤ 9
    omega)
  have := hT.1
  unfold cntA
  (repeat' split) <;> omega
/-! the digest -/
def fo (g : Int → Int → Int) : Nat → Int → Int
  | 0, h => h
  | k + 1, h => g (k : Int) (fo g k h)
def foZ (g : Int → Int → Int) (i h : Int) : Int := fo g i.toNat h
theorem foZ_s (g : Int → Int → Int) (h : Int) {i : Int} (hi : 0 ≤ i) : foZ g (i + 1) h = g i (foZ g i h) := by
  unfold foZ
  rw [show (i + 1).toNat = i.toNat + 1 by omega, fo, show ((i.toNat : Nat) : Int) = i by omega]
def dRd (tx : Int → Int) (by0 h : Int) : Int := foZ (fun r h => foZ (fun k h => 31 * h + rdA tx by0 r k) 3 h) (numF tx by0) h
def dL1 (W : Int → Int → Bool) (br me l0 h : Int) : Int := 31 * (31 * (31 * (31 * (31 * (31 * (31 * (31 * (31 * h + leftA W 0 l0) + leftA W 2 l0) + bestA W l0) + nextA W 50 l0 0) + nextA W 50 l0 1) + sieA W br me l0 7 99 0) + sieA W br me l0 7 99 1) + hldA W br l0 7 99) + seasA W 7 l0
def dLd (W : Int → Int → Bool) (br me h : Int) : Int := foZ (fun l0 h => dL1 W br me l0 h) 8 h
def dJ1 (W : Int → Int → Bool) (fa tx : Int → Int) (by0 l0 h : Int) : Int := 31 * foZ (fun q h => 31 * h + homA W fa tx by0 l0 0 30 (q - 4)) 3 (31 * (31 * (31 * h + wayA tx by0 0 l0 0) + wayA tx by0 0 l0 1) + raidA W tx by0 0 l0 2 0) + homA W fa tx by0 l0 0 30 1
def dJy (W : Int → Int → Bool) (fa tx : Int → Int) (by0 h : Int) : Int := foZ (fun q h => dJ1 W fa tx by0 (q + 1) h) 7 h
def dKd (W : Int → Int → Bool) (h : Int) : Int := foZ (fun a h => foZ (fun b h => 31 * h + strA W 30 0 a b) 4 h) 4 h
def dPa (W : Int → Int → Bool) (ru mh ml mw : Int → Int) (mn h : Int) : Int := 31 * foZ (fun k h => 31 * h + midA ru k) 3 (foZ (fun k h => 31 * h + agrA ru k) 3 (foZ (fun q h => 31 * h + unlA ru 0 (q + 1)) 3 h)) + wchF W mh ml mw mn
def digF (tx : Int → Int) (by0 : Int) (ru fa fe : Int → Int) (fc lw br me : Int) (mh ml mw : Int → Int) (mn fi : Int) : Int :=
  dPa (warB lw fa ru fe fc) ru mh ml mw mn (dKd (warB lw fa ru fe fc) (dJy (warB lw fa ru fe fc) fa tx by0 (dLd (warB lw fa ru fe fc) br me (dRd tx by0 (31 * foZ (fun k h => 31 * h + cntA tx by0 fa fc mn br me fi k) 8 17 + fltF tx by0)))))
