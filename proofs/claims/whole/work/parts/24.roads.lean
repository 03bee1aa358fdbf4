/-! contracts: Arrays.fill; Roads -/
def filF (f : Int → Int) (v n : Int) : Int → Int := fun j => if 0 ≤ j ∧ j < n then v else f j
theorem filF_0 (f : Int → Int) (v : Int) : filF f v 0 = f := by
  funext j
  unfold filF
  rw [if_neg (by omega)]
theorem filF_s (f : Int → Int) (v : Int) {i : Int} (h : 0 ≤ i) : upf (filF f v i) i v = filF f v (i + 1) := by
  funext j
  unfold upf filF
  by_cases h1 : j = i
  · rw [if_pos h1, if_pos (by omega)]
  · rw [if_neg h1]
    by_cases h2 : 0 ≤ j ∧ j < i
    · rw [if_pos h2, if_pos (by omega)]
    · rw [if_neg h2, if_neg (by omega)]
set_option maxRecDepth 20000 in
theorem tFill {l : Launch} {x : Cx} {d : Nat} {w : AW} {n k N : Nat} {f : Int → Int} {v : Int} (hk : w k = cI N f) (hn : Nat.blt k n = true) (hN : Nat.ble N 4096 = true) : Mt l x iJ7_fill_53178 d 0 0 n w [vR k, vI v] (Wv (fun w2 => w2 = upw w k (cI N (filF f v (N : Int))))) := by
  have hN9 := Nat.le_of_ble_eq_true hN
  refine Mt.of (L0 := [some (vR k), some (vI v), none, none]) rfl rfl rfl ?_
  refine gj_iconst dJ7_fill_53178_0 ?_
  refine gj_is2 dJ7_fill_53178_1 rfl rfl ?_
  refine gj_al0 dJ7_fill_53178_2 ?_
  refine gj_alen dJ7_fill_53178_3 hk hn ?_
  refine gj_is3 dJ7_fill_53178_4 rfl rfl ?_
  have loop : ∀ (m : Nat) (i : Int), 0 ≤ i ∧ i ≤ (N : Int) → ((N : Int) - i).toNat < m → Gj l x iJ7_fill_53178 d 0 0 n (Wv (fun w2 => w2 = upw w k (cI N (filF f v (N : Int))))) 0 0 n (upw w k (cI N (filF f v i))) 5 [some (vR k), some (vI v), some (vI i), some (vI (N : Int))] [] := by
    intro m
    induction m with
    | zero => intro i _ hm; exact absurd hm (Nat.not_lt_zero _)
    | succ m ih =>
      intro i hi hm
      refine gj_il2 dJ7_fill_53178_5 ?_
      refine gj_il3 dJ7_fill_53178_6 ?_
      refine gj_icmp_ge dJ7_fill_53178_7 (by omega) (fun h7 => ?_) (fun h7 => ?_)
      · exact gj_vret dJ7_fill_53178_20 rfl (wv_v (by rw [show i = (N : Int) by omega]))
      · refine gj_al0 dJ7_fill_53178_10 ?_
        refine gj_il2 dJ7_fill_53178_11 ?_
        refine gj_il1 dJ7_fill_53178_12 ?_
        refine gj_iast dJ7_fill_53178_13 upw_s hn hN (by omega) ?_
        rw [upw_upw, filF_s f v hi.1]
        refine gj_ii2 dJ7_fill_53178_14 rfl rfl ?_
        refine gj_goto dJ7_fill_53178_17 ?_
        exact ih _ (by omega) (by omega)
  have e0 : w = upw w k (cI N (filF f v 0)) := by rw [filF_0, upw_same hk]
  exact gj_eq rfl rfl e0 (loop _ 0 (by omega) (Nat.lt_succ_self _))
abbrev RoadsAt (w : AW) (tx on ot ho wy : Int → Int) (by0 nu fl : Int) : Prop := w 1 = cO 6 [vR 2, vR 3, vR 4, vR 5, vR 6, vI by0, vI nu, vI fl] ∧ w 2 = cI 47 tx ∧ w 3 = cI 12 on ∧ w 4 = cI 12 ot ∧ w 5 = cI 12 ho ∧ w 6 = cI 64 wy
/-- whether the byte at p goes on with the text -/
def goB (tx : Int → Int) (p : Int) : Bool := if p % 4 = 0 then decide (97 ≤ tx p ∧ tx p ≤ 104) else if p % 4 = 1 then decide (97 ≤ tx p ∧ tx p ≤ 104 ∧ tx p ≠ tx (p - 1)) else if p % 4 = 2 then decide (49 ≤ tx p ∧ tx p ≤ 57) else decide (tx p = 59)
theorem goB_0 {tx : Int → Int} {p : Int} (h : p % 4 = 0) : goB tx p = true ↔ (97 ≤ tx p ∧ tx p ≤ 104) := by
  unfold goB; rw [if_pos h, decide_eq_true_eq]
theorem goB_1 {tx : Int → Int} {p : Int} (h : p % 4 = 1) : goB tx p = true ↔ (97 ≤ tx p ∧ tx p ≤ 104 ∧ tx p ≠ tx (p - 1)) := by
  unfold goB; rw [if_neg (by omega), if_pos h, decide_eq_true_eq]
theorem goB_2 {tx : Int → Int} {p : Int} (h : p % 4 = 2) : goB tx p = true ↔ (49 ≤ tx p ∧ tx p ≤ 57) := by
  unfold goB; rw [if_neg (by omega), if_neg (by omega), if_pos h, decide_eq_true_eq]
theorem goB_3 {tx : Int → Int} {p : Int} (h : p % 4 = 3) : goB tx p = true ↔ tx p = 59 := by
  unfold goB; rw [if_neg (by omega), if_neg (by omega), if_neg (by omega), decide_eq_true_eq]
/-- the fault of a text; how many roads it tells -/
def fltF (tx : Int → Int) (b : Int) : Int := if fstZ (fun p => !(goB tx p)) 0 b ≠ -1 then fstZ (fun p => !(goB tx p)) 0 b else if b = 0 ∨ b % 4 = 3 then -1 else b
def numF (tx : Int → Int) (b : Int) : Int := if fltF tx b = -1 then (b + 1) / 4 else 0
abbrev TxOK (tx : Int → Int) (b : Int) : Prop := (0 ≤ b ∧ b ≤ 47) ∧ ∀ i : Int, 0 ≤ i → i < b → 0 ≤ tx i ∧ tx i ≤ 255
theorem fltF_R {tx : Int → Int} {b : Int} (hb : 0 ≤ b) : -1 ≤ fltF tx b ∧ fltF tx b ≤ b := by
  unfold fltF
  rcases fstZ_R (p := fun p => !(goB tx p)) _ 0 b rfl with h | ⟨h1, h2, -, -⟩
  · rw [h]
    rw [if_neg (by omega)]
    split <;> omega
  · rw [if_pos (by omega)]
    omega
/-- a text without a fault: every byte goes on, and it is ended -/
theorem fltF_well {tx : Int → Int} {b : Int} (hb : 0 ≤ b) (h : fltF tx b = -1) : (∀ p, 0 ≤ p → p < b → goB tx p = true) ∧ (b = 0 ∨ b % 4 = 3) := by
  unfold fltF at h
  by_cases c : fstZ (fun p => !(goB tx p)) 0 b ≠ -1
  · rw [if_pos c] at h
    exact absurd h c
  · rw [if_neg c] at h
    refine ⟨fun p h0 h1 => ?_, ?_⟩
    · have := fstZ_none (p := fun p => !(goB tx p)) _ 0 b rfl (by omega) (by omega) p h0 h1
      simpa using this
    · by_cases c2 : b = 0 ∨ b % 4 = 3
      · exact c2
      · rw [if_neg c2] at h
        omega
theorem numF_R {tx : Int → Int} {b : Int} (hb : 0 ≤ b ∧ b ≤ 47) : 0 ≤ numF tx b ∧ numF tx b ≤ 12 := by
  unfold numF
  split <;> omega
/-- the r-th road of a text -/
theorem road_in {tx : Int → Int} {b r : Int} (hb : 0 ≤ b ∧ b ≤ 47) (hr : 0 ≤ r ∧ r < numF tx b) : (97 ≤ tx (4 * r) ∧ tx (4 * r) ≤ 104) ∧ (97 ≤ tx (4 * r + 1) ∧ tx (4 * r + 1) ≤ 104) ∧ tx (4 * r + 1) ≠ tx (4 * r) ∧ (49 ≤ tx (4 * r + 2) ∧ tx (4 * r + 2) ≤ 57) ∧ 4 * r + 2 < b := by
  unfold numF at hr
  by_cases c : fltF tx b = -1
  · rw [if_pos c] at hr
    obtain ⟨h1, h2⟩ := fltF_well hb.1 c
    have e1 := (goB_0 (by omega)).mp (h1 (4 * r) (by omega) (by omega))
    have e2 := (goB_1 (by omega)).mp (h1 (4 * r + 1) (by omega) (by omega))
    have e3 := (goB_2 (by omega)).mp (h1 (4 * r + 2) (by omega) (by omega))
    rw [show 4 * r + 1 - 1 = 4 * r by omega] at e2
    exact ⟨e1, ⟨e2.1, e2.2.1⟩, e2.2.2, e3, by omega⟩
  · rw [if_neg c] at hr
    omega
abbrev EdOK (on ot ho : Int → Int) (nu : Int) : Prop := (0 ≤ nu ∧ nu ≤ 12) ∧ ∀ r : Int, 0 ≤ r → r < nu → (0 ≤ on r ∧ on r ≤ 7) ∧ (0 ≤ ot r ∧ ot r ≤ 7) ∧ on r ≠ ot r ∧ (1 ≤ ho r ∧ ho r ≤ 9)
/-- the table of ways: what measure() makes -/
def rlx (g : Int → Int) (a b len : Int) : Int → Int := upf g (a * 8 + b) (min (g (a * 8 + b)) len)
def diaN (g : Int → Int) : Nat → (Int → Int)
  | 0 => g
  | k + 1 => upf (diaN g k) ((k : Int) * 8 + (k : Int)) 0
def edgN (on ot ho g : Int → Int) : Nat → (Int → Int)
  | 0 => g
  | k + 1 => rlx (rlx (edgN on ot ho g k) (on (k : Int)) (ot (k : Int)) (ho (k : Int))) (ot (k : Int)) (on (k : Int)) (ho (k : Int))
def fwC (b f : Int) (g : Int → Int) : Nat → (Int → Int)
  | 0 => g
  | t + 1 => rlx (fwC b f g t) f (t : Int) (fwC b f g t (f * 8 + b) + fwC b f g t (b * 8 + (t : Int)))
def fwB (b : Int) (g : Int → Int) : Nat → (Int → Int)
  | 0 => g
  | f + 1 => fwC b (f : Int) (fwB b g f) 8
def fwA (g : Int → Int) : Nat → (Int → Int)
  | 0 => g
  | b + 1 => fwB (b : Int) (fwA g b) 8
def wayF (on ot ho wy : Int → Int) (nu : Int) : Int → Int := if 0 < nu then fwA (edgN on ot ho (diaN (filF wy 1000 64) 8) nu.toNat) 8 else diaN (filF wy 1000 64) 8
abbrev MatOK (g : Int → Int) : Prop := ∀ j : Int, 0 ≤ j → j < 64 → 0 ≤ g j ∧ g j ≤ 1000
theorem rlx_ok {g : Int → Int} {a b len : Int} (h : MatOK g) (hl : 0 ≤ len) : MatOK (rlx g a b len) := by
  intro j h0 h1
  have := h j h0 h1
  unfold rlx upf
  by_cases e : j = a * 8 + b
  · rw [if_pos e, ← e]; omega
  · rw [if_neg e]; exact this
theorem dia_ok {g : Int → Int} (h : MatOK g) : ∀ k : Nat, MatOK (diaN g k)
  | 0 => h
  | k + 1 => by
    intro j h0 h1
    have := dia_ok h k j h0 h1
    rw [diaN]
    unfold upf
    split <;> omega
theorem fil_ok {g : Int → Int} : MatOK (filF g 1000 64) := by
  intro j h0 h1
  unfold filF
  rw [if_pos ⟨h0, h1⟩]
  omega
theorem edg_ok {on ot ho g : Int → Int} {nu : Int} (hE : EdOK on ot ho nu) (h : MatOK g) : ∀ k : Nat, (k : Int) ≤ nu → MatOK (edgN on ot ho g k)
  | 0, _ => h
  | k + 1, hk => by
    have e := hE.2 (k : Int) (by omega) (by omega)
    exact rlx_ok (rlx_ok (edg_ok hE h k (by omega)) (by omega)) (by omega)
theorem fwC_ok {b f : Int} {g : Int → Int} (hb : 0 ≤ b ∧ b ≤ 7) (hf : 0 ≤ f ∧ f ≤ 7) (h : MatOK g) : ∀ k : Nat, k ≤ 8 → MatOK (fwC b f g k)
  | 0, _ => h
  | k + 1, hk => by
    have i1 := fwC_ok hb hf h k (by omega)
    have e1 := i1 (f * 8 + b) (by omega) (by omega)
    have e2 := i1 (b * 8 + (k : Int)) (by omega) (by omega)
    exact rlx_ok i1 (by omega)
theorem fwB_ok {b : Int} {g : Int → Int} (hb : 0 ≤ b ∧ b ≤ 7) (h : MatOK g) : ∀ k : Nat, k ≤ 8 → MatOK (fwB b g k)
  | 0, _ => h
  | k + 1, hk => fwC_ok hb (by omega) (fwB_ok hb h k (by omega)) 8 (by omega)
theorem fwA_ok {g : Int → Int} (h : MatOK g) : ∀ k : Nat, k ≤ 8 → MatOK (fwA g k)
  | 0, _ => h
  | k + 1, hk => fwB_ok (by omega) (fwA_ok h k (by omega)) 8 (by omega)
theorem way_ok {on ot ho wy : Int → Int} {nu : Int} (hE : EdOK on ot ho nu) : MatOK (wayF on ot ho wy nu) := by
  unfold wayF
  split
  · exact fwA_ok (edg_ok hE (dia_ok fil_ok 8) _ (by omega)) 8 (by omega)
  · exact dia_ok fil_ok 8
theorem tN {k : Nat} {i : Int} (h : (k : Int) = i) : i.toNat = k := by omega
theorem dia_s (g : Int → Int) {i : Int} (h : 0 ≤ i) : diaN g (i + 1).toNat = upf (diaN g i.toNat) (i * 8 + i) 0 := by
  rw [show (i + 1).toNat = i.toNat + 1 by omega, diaN, show ((i.toNat : Nat) : Int) = i by omega]
theorem edg_s (on ot ho g : Int → Int) {i : Int} (h : 0 ≤ i) : edgN on ot ho g (i + 1).toNat = rlx (rlx (edgN on ot ho g i.toNat) (on i) (ot i) (ho i)) (ot i) (on i) (ho i) := by
  rw [show (i + 1).toNat = i.toNat + 1 by omega, edgN, show ((i.toNat : Nat) : Int) = i by omega]
theorem fwC_s (b f : Int) (g : Int → Int) {i : Int} (h : 0 ≤ i) : fwC b f g (i + 1).toNat = rlx (fwC b f g i.toNat) f i (fwC b f g i.toNat (f * 8 + b) + fwC b f g i.toNat (b * 8 + i)) := by
  rw [show (i + 1).toNat = i.toNat + 1 by omega, fwC, show ((i.toNat : Nat) : Int) = i by omega]
theorem fwB_s (b : Int) (g : Int → Int) {i : Int} (h : 0 ≤ i) : fwB b g (i + 1).toNat = fwC b i (fwB b g i.toNat) 8 := by
  rw [show (i + 1).toNat = i.toNat + 1 by omega, fwB, show ((i.toNat : Nat) : Int) = i by omega]
theorem fwA_s (g : Int → Int) {i : Int} (h : 0 ≤ i) : fwA g (i + 1).toNat = fwB i (fwA g i.toNat) 8 := by
  rw [show (i + 1).toNat = i.toNat + 1 by omega, fwA, show ((i.toNat : Nat) : Int) = i by omega]
set_option maxRecDepth 20000 in
set_option maxHeartbeats 4000000 in
theorem tX6_shortest {l : Launch} {x : Cx} {d : Nat} {w : AW} {tx on ot ho wy : Int → Int} {by0 nu fl : Int} {a b : Int} (hd : 0 ≤ d) (hA : RoadsAt w tx on ot ho wy by0 nu fl) (hl : 0 ≤ a ∧ a ≤ 7) (hb : 0 ≤ b ∧ b ≤ 7) : Mt l x iX6_shortest d 0 0 50 w [vR 1, vI a, vI b] (Rd (vI (wy (a * 8 + b))) w) := by
  obtain ⟨q1, q2, q3, q4, q5, q6⟩ := hA
  refine Mt.of (L0 := [some (vR 1), some (vI a), some (vI b)]) rfl rfl rfl ?_
  refine gj_al0 dX6_shortest_0 ?_
  refine gj_get dX6_shortest_1 fX6_24 q1 rfl rfl ?_
  refine gj_il1 dX6_shortest_4 ?_
  refine gj_bipush dX6_shortest_5 rfl ?_
  refine gj_imul dX6_shortest_7 ?_
  refine gj_il2 dX6_shortest_8 ?_
  refine gj_iadd dX6_shortest_9 ?_
  refine gj_iald dX6_shortest_10 q6 rfl rfl (by omega) ?_
  exact gj_iret dX6_shortest_11 rfl (rd_i rfl)
set_option maxRecDepth 20000 in
set_option maxHeartbeats 4000000 in
theorem tX6_shortenWay {l : Launch} {x : Cx} {d : Nat} {w : AW} {tx on ot ho wy : Int → Int} {by0 nu fl : Int} {a b c : Int} (hd : 1 ≤ d) (hA : RoadsAt w tx on ot ho wy by0 nu fl) (hl : 0 ≤ a ∧ a ≤ 7) (hb : 0 ≤ b ∧ b ≤ 7) (hc : R32 c) (hr : R32 (wy (a * 8 + b))) : Mt l x iX6_shortenWay d 0 0 50 w [vR 1, vI a, vI b, vI c] (Wv (fun w2 => w2 = upw w 6 (cI 64 (rlx wy a b c)))) := by
  obtain ⟨q1, q2, q3, q4, q5, q6⟩ := hA
  refine Mt.of (L0 := [some (vR 1), some (vI a), some (vI b), some (vI c)]) rfl rfl rfl ?_
  refine gj_al0 dX6_shortenWay_0 ?_
  refine gj_get dX6_shortenWay_1 fX6_24 q1 rfl rfl ?_
  refine gj_il1 dX6_shortenWay_4 ?_
  refine gj_bipush dX6_shortenWay_5 rfl ?_
  refine gj_imul dX6_shortenWay_7 ?_
  refine gj_il2 dX6_shortenWay_8 ?_
  refine gj_iadd dX6_shortenWay_9 ?_
  refine gj_al0 dX6_shortenWay_10 ?_
  refine gj_get dX6_shortenWay_11 fX6_24 q1 rfl rfl ?_
  refine gj_il1 dX6_shortenWay_14 ?_
  refine gj_bipush dX6_shortenWay_15 rfl ?_
  refine gj_imul dX6_shortenWay_17 ?_
  refine gj_il2 dX6_shortenWay_18 ?_
  refine gj_iadd dX6_shortenWay_19 ?_
  refine gj_iald dX6_shortenWay_20 q6 rfl rfl (by omega) ?_
  refine gj_il3 dX6_shortenWay_21 ?_
  refine gj_min dX6_shortenWay_22 mX6_65 (by omega) rfl (by omega) ?_
  refine gj_iast dX6_shortenWay_25 q6 rfl rfl (by omega) ?_
  exact gj_vret dX6_shortenWay_26 rfl (wv_v rfl)
set_option maxRecDepth 20000 in
set_option maxHeartbeats 4000000 in
theorem tX6_measure {l : Launch} {x : Cx} {d : Nat} {w : AW} {tx on ot ho wy : Int → Int} {by0 nu fl : Int} (hd : 2 ≤ d) (hA : RoadsAt w tx on ot ho wy by0 nu fl) (hE : EdOK on ot ho nu) : Mt l x iX6_measure d 0 0 50 w [vR 1] (Wv (fun w2 => w2 = upw w 6 (cI 64 (wayF on ot ho wy nu)))) := by
  obtain ⟨q1, q2, q3, q4, q5, q6⟩ := hA
  refine Mt.of (L0 := [some (vR 1), none, none, none]) rfl rfl rfl ?_
  refine gj_al0 dX6_measure_0 ?_
  refine gj_get dX6_measure_1 fX6_24 q1 rfl rfl ?_
  refine gj_sipush dX6_measure_4 rfl ?_
  refine gj_cS2v dX6_measure_7 mX6_37 hJ7_fill_53178 (by omega) rfl (tFill q6 rfl rfl) (fun w7 P7 => ?_)
  obtain rfl := P7
  refine gj_iconst dX6_measure_10 ?_
  refine gj_is1 dX6_measure_11 rfl rfl ?_
  have loop12 : ∀ (k : Nat), ∀ (i : Int), (0 ≤ i ∧ i ≤ 8) → (8 - i).toNat < k → Gj l x iX6_measure d 0 0 50 (Wv (fun w2 => w2 = upw w 6 (cI 64 (wayF on ot ho wy nu)))) 0 0 50 (upw w 6 (cI 64 (diaN (filF wy 1000 64) i.toNat))) 12 [some (vR 1), some (vI i), none, none] [] := by
    intro k
    induction k with
    | zero => intro _ _ hm; exact absurd hm (Nat.not_lt_zero _)
    | succ k ih12 =>
      intro i  hi hm12
      refine gj_il1 dX6_measure_12 ?_
      refine gj_bipush dX6_measure_13 rfl ?_
      refine gj_icmp_ge dX6_measure_15 (by omega) (fun h15 => ?_) (fun h15 => ?_)
      · refine gj_iconst dX6_measure_36 ?_
        refine gj_is1 dX6_measure_37 rfl rfl ?_
        rw [show i.toNat = 8 by omega]
        have loop38 : ∀ (k : Nat), ∀ (i : Int), (0 ≤ i ∧ i ≤ nu) → (nu - i).toNat < k → Gj l x iX6_measure d 0 0 50 (Wv (fun w2 => w2 = upw w 6 (cI 64 (wayF on ot ho wy nu)))) 0 0 50 (upw w 6 (cI 64 (edgN on ot ho (diaN (filF wy 1000 64) 8) i.toNat))) 38 [some (vR 1), some (vI i), none, none] [] := by
          intro k
          induction k with
          | zero => intro _ _ hm; exact absurd hm (Nat.not_lt_zero _)
          | succ k ih38 =>
            intro i  hi hm38
            refine gj_il1 dX6_measure_38 ?_
            refine gj_al0 dX6_measure_39 ?_
            refine gj_get dX6_measure_40 fX6_31 (upw_o (by decide) q1) rfl rfl ?_
            refine gj_icmp_ge dX6_measure_43 (by omega) (fun h43 => ?_) (fun h43 => ?_)
            · refine gj_iconst dX6_measure_96 ?_
              refine gj_is1 dX6_measure_97 rfl rfl ?_
              rw [show i.toNat = nu.toNat by omega]
              have loop98 : ∀ (k : Nat), ∀ (b9 : Int), (0 ≤ b9 ∧ b9 ≤ 8) → (nu ≤ 0 → b9 = 0) → (8 - b9).toNat < k → Gj l x iX6_measure d 0 0 50 (Wv (fun w2 => w2 = upw w 6 (cI 64 (wayF on ot ho wy nu)))) 0 0 50 (upw w 6 (cI 64 (fwA (edgN on ot ho (diaN (filF wy 1000 64) 8) nu.toNat) b9.toNat))) 98 [some (vR 1), some (vI b9), none, none] [] := by
                intro k
                induction k with
                | zero => intro _ _ _ hm; exact absurd hm (Nat.not_lt_zero _)
                | succ k ih98 =>
                  intro b9  hb9 hz9 hm98
                  refine gj_al0 dX6_measure_98 ?_
                  refine gj_get dX6_measure_99 fX6_31 (upw_o (by decide) q1) rfl rfl ?_
                  refine gj_if_le dX6_measure_102 (by omega) (fun h102 => ?_) (fun h102 => ?_)
                  · exact gj_vret dX6_measure_164 rfl (wv_v (by unfold wayF; rw [if_neg (by omega)]; rw [show nu.toNat = 0 by omega, show b9.toNat = 0 by omega]; rfl))
                  · refine gj_il1 dX6_measure_105 ?_
                    refine gj_bipush dX6_measure_106 rfl ?_
                    refine gj_icmp_ge dX6_measure_108 (by omega) (fun h108 => ?_) (fun h108 => ?_)
                    · exact gj_vret dX6_measure_164 rfl (wv_v (by unfold wayF; rw [if_pos (by omega), show b9.toNat = 8 by omega]))
                    · refine gj_iconst dX6_measure_111 ?_
                      refine gj_is2 dX6_measure_112 rfl rfl ?_
                      have loop113 : ∀ (k : Nat), ∀ (f9 : Int), (0 ≤ f9 ∧ f9 ≤ 8) → (8 - f9).toNat < k → Gj l x iX6_measure d 0 0 50 (Wv (fun w2 => w2 = upw w 6 (cI 64 (wayF on ot ho wy nu)))) 0 0 50 (upw w 6 (cI 64 (fwB b9 (fwA (edgN on ot ho (diaN (filF wy 1000 64) 8) nu.toNat) b9.toNat) f9.toNat))) 113 [some (vR 1), some (vI b9), some (vI f9), none] [] := by
                        intro k
                        induction k with
                        | zero => intro _ _ hm; exact absurd hm (Nat.not_lt_zero _)
                        | succ k ih113 =>
                          intro f9  hf9 hm113
                          refine gj_il2 dX6_measure_113 ?_
                          refine gj_bipush dX6_measure_114 rfl ?_
                          refine gj_icmp_ge dX6_measure_116 (by omega) (fun h116 => ?_) (fun h116 => ?_)
                          · refine gj_ii1 dX6_measure_158 rfl rfl ?_
                            refine gj_goto dX6_measure_161 ?_
                            refine gj_dr2 ?_
                            rw [show f9.toNat = 8 by omega, ← fwA_s _ hb9.1]
                            exact ih98 _ (by omega) (by omega) (by omega)
                          · refine gj_iconst dX6_measure_119 ?_
                            refine gj_is3 dX6_measure_120 rfl rfl ?_
                            have loop121 : ∀ (k : Nat), ∀ (i : Int), (0 ≤ i ∧ i ≤ 8) → (8 - i).toNat < k → Gj l x iX6_measure d 0 0 50 (Wv (fun w2 => w2 = upw w 6 (cI 64 (wayF on ot ho wy nu)))) 0 0 50 (upw w 6 (cI 64 (fwC b9 f9 (fwB b9 (fwA (edgN on ot ho (diaN (filF wy 1000 64) 8) nu.toNat) b9.toNat) f9.toNat) i.toNat))) 121 [some (vR 1), some (vI b9), some (vI f9), some (vI i)] [] := by
                              intro k
                              induction k with
                              | zero => intro _ _ hm; exact absurd hm (Nat.not_lt_zero _)
                              | succ k ih121 =>
                                intro i  hi hm121
                                refine gj_il3 dX6_measure_121 ?_
                                refine gj_bipush dX6_measure_122 rfl ?_
                                refine gj_icmp_ge dX6_measure_124 (by omega) (fun h124 => ?_) (fun h124 => ?_)
                                · refine gj_ii2 dX6_measure_152 rfl rfl ?_
                                  refine gj_goto dX6_measure_155 ?_
                                  refine gj_dr3 ?_
                                  rw [show i.toNat = 8 by omega, ← fwB_s _ _ hf9.1]
                                  exact ih113 _ (by omega) (by omega)
                                · have mk := fwC_ok (b := b9) (f := f9) (by omega) (by omega) (fwB_ok (b := b9) (by omega) (fwA_ok (edg_ok hE (dia_ok (fil_ok (g := wy)) 8) nu.toNat (by omega)) b9.toNat (by omega)) f9.toNat (by omega)) i.toNat (by omega)
                                  have m1 := mk (f9 * 8 + b9) (by omega) (by omega)
                                  have m2 := mk (b9 * 8 + i) (by omega) (by omega)
                                  have m3 := mk (f9 * 8 + i) (by omega) (by omega)
                                  refine gj_al0 dX6_measure_127 ?_
                                  refine gj_il2 dX6_measure_128 ?_
                                  refine gj_il3 dX6_measure_129 ?_
                                  refine gj_al0 dX6_measure_130 ?_
                                  refine gj_il2 dX6_measure_131 ?_
                                  refine gj_il1 dX6_measure_132 ?_
                                  refine gj_cV2r dX6_measure_133 mX6_61 hX6_shortest (upw_o (by decide) q1) rfl (by omega) rfl (tX6_shortest  (by omega) ⟨(upw_o (by decide) q1), (upw_o (by decide) q2), (upw_o (by decide) q3), (upw_o (by decide) q4), (upw_o (by decide) q5), upw_s⟩ (by omega) (by omega)) ?_
                                  refine gj_al0 dX6_measure_136 ?_
                                  refine gj_il1 dX6_measure_137 ?_
                                  refine gj_il3 dX6_measure_138 ?_
                                  refine gj_cV2r dX6_measure_139 mX6_61 hX6_shortest (upw_o (by decide) q1) rfl (by omega) rfl (tX6_shortest  (by omega) ⟨(upw_o (by decide) q1), (upw_o (by decide) q2), (upw_o (by decide) q3), (upw_o (by decide) q4), (upw_o (by decide) q5), upw_s⟩ (by omega) (by omega)) ?_
                                  refine gj_iadd dX6_measure_142 ?_
                                  refine gj_cV3v dX6_measure_143 mX6_57 hX6_shortenWay (upw_o (by decide) q1) rfl (by omega) rfl (tX6_shortenWay  (by omega) ⟨(upw_o (by decide) q1), (upw_o (by decide) q2), (upw_o (by decide) q3), (upw_o (by decide) q4), (upw_o (by decide) q5), upw_s⟩ (by omega) (by omega) (by omega) (by omega)) (fun w143 P143 => ?_)
                                  obtain rfl := P143
                                  refine gj_ii3 dX6_measure_146 rfl rfl ?_
                                  refine gj_goto dX6_measure_149 ?_
                                  rw [upw_upw, ← fwC_s _ _ _ hi.1]
                                  exact ih121 _ (by omega) (by omega)
                            exact loop121 _ 0 (by omega) (Nat.lt_succ_self _)
                      exact loop113 _ 0 (by omega) (Nat.lt_succ_self _)
              exact loop98 _ 0 (by omega) (by omega) (Nat.lt_succ_self _)
            · have e9 := hE.2 i hi.1 (by omega)
              have mk := edg_ok hE (dia_ok (fil_ok (g := wy)) 8) i.toNat (by omega)
              have m1 := mk (on i * 8 + ot i) (by omega) (by omega)
              refine gj_al0 dX6_measure_46 ?_
              refine gj_al0 dX6_measure_47 ?_
              refine gj_get dX6_measure_48 fX6_15 (upw_o (by decide) q1) rfl rfl ?_
              refine gj_il1 dX6_measure_51 ?_
              refine gj_iald dX6_measure_52 (upw_o (by decide) q3) rfl rfl (by omega) ?_
              refine gj_al0 dX6_measure_53 ?_
              refine gj_get dX6_measure_54 fX6_18 (upw_o (by decide) q1) rfl rfl ?_
              refine gj_il1 dX6_measure_57 ?_
              refine gj_iald dX6_measure_58 (upw_o (by decide) q4) rfl rfl (by omega) ?_
              refine gj_al0 dX6_measure_59 ?_
              refine gj_get dX6_measure_60 fX6_21 (upw_o (by decide) q1) rfl rfl ?_
              refine gj_il1 dX6_measure_63 ?_
              refine gj_iald dX6_measure_64 (upw_o (by decide) q5) rfl rfl (by omega) ?_
              refine gj_cV3v dX6_measure_65 mX6_57 hX6_shortenWay (upw_o (by decide) q1) rfl (by omega) rfl (tX6_shortenWay  (by omega) ⟨(upw_o (by decide) q1), (upw_o (by decide) q2), (upw_o (by decide) q3), (upw_o (by decide) q4), (upw_o (by decide) q5), upw_s⟩ (by omega) (by omega) (by omega) (by omega)) (fun w65 P65 => ?_)
              obtain rfl := P65
              refine gj_al0 dX6_measure_68 ?_
              refine gj_al0 dX6_measure_69 ?_
              refine gj_get dX6_measure_70 fX6_18 (upw_o (by decide) (upw_o (by decide) q1)) rfl rfl ?_
              refine gj_il1 dX6_measure_73 ?_
              refine gj_iald dX6_measure_74 (upw_o (by decide) (upw_o (by decide) q4)) rfl rfl (by omega) ?_
              refine gj_al0 dX6_measure_75 ?_
              refine gj_get dX6_measure_76 fX6_15 (upw_o (by decide) (upw_o (by decide) q1)) rfl rfl ?_
              refine gj_il1 dX6_measure_79 ?_
              refine gj_iald dX6_measure_80 (upw_o (by decide) (upw_o (by decide) q3)) rfl rfl (by omega) ?_
              refine gj_al0 dX6_measure_81 ?_
              refine gj_get dX6_measure_82 fX6_21 (upw_o (by decide) (upw_o (by decide) q1)) rfl rfl ?_
              refine gj_il1 dX6_measure_85 ?_
              refine gj_iald dX6_measure_86 (upw_o (by decide) (upw_o (by decide) q5)) rfl rfl (by omega) ?_
              have m2 := rlx_ok (a := on i) (b := ot i) (len := ho i) mk (by omega) (ot i * 8 + on i) (by omega) (by omega)
              refine gj_cV3v dX6_measure_87 mX6_57 hX6_shortenWay (upw_o (by decide) (upw_o (by decide) q1)) rfl (by omega) rfl (tX6_shortenWay  (by omega) ⟨(upw_o (by decide) (upw_o (by decide) q1)), (upw_o (by decide) (upw_o (by decide) q2)), (upw_o (by decide) (upw_o (by decide) q3)), (upw_o (by decide) (upw_o (by decide) q4)), (upw_o (by decide) (upw_o (by decide) q5)), upw_s⟩ (by omega) (by omega) (by omega) (by omega)) (fun w87 P87 => ?_)
              obtain rfl := P87
              refine gj_ii1 dX6_measure_90 rfl rfl ?_
              refine gj_goto dX6_measure_93 ?_
              rw [upw_upw, upw_upw, ← edg_s _ _ _ _ hi.1]
              exact ih38 _ (by omega) (by omega)
        exact loop38 _ 0 (by omega) (Nat.lt_succ_self _)
      · refine gj_al0 dX6_measure_18 ?_
        refine gj_get dX6_measure_19 fX6_24 (upw_o (by decide) q1) rfl rfl ?_
        refine gj_il1 dX6_measure_22 ?_
        refine gj_bipush dX6_measure_23 rfl ?_
        refine gj_imul dX6_measure_25 ?_
        refine gj_il1 dX6_measure_26 ?_
        refine gj_iadd dX6_measure_27 ?_
        refine gj_iconst dX6_measure_28 ?_
        refine gj_iast dX6_measure_29 upw_s rfl rfl (by omega) ?_
        refine gj_ii1 dX6_measure_30 rfl rfl ?_
        refine gj_goto dX6_measure_33 ?_
        rw [upw_upw, ← dia_s _ hi.1]
        exact ih12 _ (by omega) (by omega)
  exact loop12 _ 0 (by omega) (Nat.lt_succ_self _)
