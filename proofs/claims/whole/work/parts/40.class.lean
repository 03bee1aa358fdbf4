/-! the class as a whole -/
/-- the roads of a text; before the first byte the table of ways is full of 1000 -/
def RdW (tx on ot ho wy : Int → Int) (by0 nu fl : Int) : Prop := TxOK tx by0 ∧ fl = fltF tx by0 ∧ nu = numF tx by0 ∧ (∀ r : Int, 0 ≤ r → r < nu → on r = tx (4 * r) - 97 ∧ ot r = tx (4 * r + 1) - 97 ∧ ho r = tx (4 * r + 2) - 48) ∧ ((∃ wy0, wy = wayF on ot ho wy0 nu) ∨ (nu = 0 ∧ ∀ j : Int, 0 ≤ j → j < 64 → wy j = 1000))
def RoadsW (w : AW) (tx : Int → Int) (by0 : Int) : Prop := ∃ (on ot ho wy : Int → Int) (nu fl : Int), RoadsAt w tx on ot ho wy by0 nu fl ∧ RdW tx on ot ho wy by0 nu fl
theorem RdOK.w {tx on ot ho wy : Int → Int} {by0 nu fl : Int} (h : RdOK tx on ot ho wy by0 nu fl) : RdW tx on ot ho wy by0 nu fl := ⟨h.1, h.2.1, h.2.2.1, h.2.2.2.1, Or.inl h.2.2.2.2⟩
theorem RdW.ed {tx on ot ho wy : Int → Int} {by0 nu fl : Int} (h : RdW tx on ot ho wy by0 nu fl) : EdOK on ot ho nu := ed_of h.1 h.2.2.1 h.2.2.2.1
theorem RdW.mat {tx on ot ho wy : Int → Int} {by0 nu fl : Int} (h : RdW tx on ot ho wy by0 nu fl) : MatOK wy := by
  rcases h.2.2.2.2 with ⟨wy0, e⟩ | ⟨-, e⟩
  · rw [e]
    exact way_ok h.ed
  · intro j h0 h1
    rw [e j h0 h1]
    omega
theorem RdW.str {tx on ot ho wy : Int → Int} {by0 nu fl a b : Int} (h : RdW tx on ot ho wy by0 nu fl) (ha : In7 a) (hb : In7 b) (hlt : wy (a * 8 + b) < 1000) : RdOK tx on ot ho wy by0 nu fl := by
  rcases h.2.2.2.2 with e | ⟨-, e⟩
  · exact ⟨h.1, h.2.1, h.2.2.1, h.2.2.2.1, e⟩
  · have := e (a * 8 + b) (by omega) (by omega)
    omega
def HomC (w : AW) : Prop := ∃ (go st bn : Int) (B : BT) (ra rb : Int → Int), HomAt w go st bn B ra rb
/-- a sheet: form -1 is lost -/
def ShAt (w : AW) (a b : Nat) (f n : Int) (t : Int → Int) : Prop := ∃ (fo le lo : Int) (g : Int → Int), w a = cO 7 [vR b, vI fo, vI le, vI lo] ∧ w b = cI 60 g ∧ (R32 fo ∧ R32 le) ∧ ((lo = 1 ∧ f = -1) ∨ (lo = 0 ∧ f = fo ∧ (0 ≤ fo ∧ fo ≤ 2) ∧ n = le ∧ (0 ≤ le ∧ le ≤ 60) ∧ ∀ j : Int, 0 ≤ j → j < le → g j = t j ∧ R32 (g j)))
def SheetsC (w : AW) (fm ln : Int → Int) (it : Int → Int → Int) : Prop := (∃ sf : Int → Option Nat, w 23 = cR 4 sf ∧ sf 0 = some 24 ∧ sf 1 = some 26 ∧ sf 2 = some 28 ∧ sf 3 = some 30) ∧ ShAt w 24 25 (fm 0) (ln 0) (it 0) ∧ ShAt w 26 27 (fm 1) (ln 1) (it 1) ∧ ShAt w 28 29 (fm 2) (ln 2) (it 2) ∧ ShAt w 30 31 (fm 3) (ln 3) (it 3)
theorem ShAt.fr {w w2 : AW} {a b : Nat} {f n : Int} {t : Int → Int} (h1 : w2 a = w a) (h2 : w2 b = w b) (h : ShAt w a b f n t) : ShAt w2 a b f n t := by
  obtain ⟨fo, le, lo, g, e1, e2, e3⟩ := h
  exact ⟨fo, le, lo, g, h1.trans e1, h2.trans e2, e3⟩
theorem SheetsC.fr {w w2 : AW} {fm ln : Int → Int} {it : Int → Int → Int} (fr : ∀ k : Nat, 23 ≤ k → k ≤ 31 → w2 k = w k) (h : SheetsC w fm ln it) : SheetsC w2 fm ln it := by
  obtain ⟨⟨sf, e0, e⟩, h0, h1, h2, h3⟩ := h
  exact ⟨⟨sf, (fr 23 (by omega) (by omega)).trans e0, e⟩, h0.fr (fr 24 (by omega) (by omega)) (fr 25 (by omega) (by omega)), h1.fr (fr 26 (by omega) (by omega)) (fr 27 (by omega) (by omega)), h2.fr (fr 28 (by omega) (by omega)) (fr 29 (by omega) (by omega)), h3.fr (fr 30 (by omega) (by omega)) (fr 31 (by omega) (by omega))⟩
theorem SheetsC.up {w : AW} {fm ln : Int → Int} {it : Int → Int → Int} {k : Nat} {c : AC} (hk : k < 23 ∨ 31 < k) (h : SheetsC w fm ln it) : SheetsC (upw w k c) fm ln it := h.fr (fun j h1 h2 => upw_o (by omega) rfl)
def ClassC (w : AW) (tx : Int → Int) (by0 : Int) (ru fa fe : Int → Int) (fc lw br me : Int) (mh ml mw : Int → Int) (mn fi : Int) (fm ln : Int → Int) (it : Int → Int → Int) : Prop :=
  w 0 = cO 8 [vR 1, vR 7, vR 9, vR 12, vR 15, vR 16, vR 19, vR 23, vI fi] ∧ RoadsW w tx by0 ∧ (∃ fd : Int, PeaceAt w fa fe fc fd lw ∧ BellsAt w ru ∧ POK fa ru fe fc fd lw) ∧ MarC w ∧ (∃ sl : Int, w 15 = cO 1 [vR 9, vI br, vI me, vI sl]) ∧ ((0 ≤ br ∧ br ≤ 99) ∧ (0 ≤ me ∧ me ≤ 99)) ∧ HomC w ∧ (MemAt w mh ml mw mn ∧ MemOK mh ml mw mn) ∧ SheetsC w fm ln it
