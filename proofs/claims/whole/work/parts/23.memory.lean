/-! contracts: the least mends; Memory -/
theorem fstZ_at {p : Int → Bool} : ∀ (n : Nat) (a b c : Int), (c - a).toNat = n → a ≤ c → c < b → p c = true → (∀ i, a ≤ i → i < c → p i = false) → fstZ p a b = c
  | 0, a, b, c, h, h1, h2, h3, h4 => by
    have e : c = a := by omega
    subst e
    exact fstZ_yes h2 h3
  | n + 1, a, b, c, h, h1, h2, h3, h4 => by
    rw [fstZ_no (by omega) (by rw [h4 a (by omega) (by omega)]; exact Bool.false_ne_true)]
    exact fstZ_at n (a + 1) b c (by omega) (by omega) h2 h3 (fun i g1 g2 => h4 i (by omega) g2)
theorem fstZ_nil {p : Int → Bool} : ∀ (n : Nat) (a b : Int), (b - a).toNat = n → (∀ i, a ≤ i → i < b → p i = false) → fstZ p a b = -1
  | 0, a, b, h, _ => fstZ_end (by omega)
  | n + 1, a, b, h, h4 => by
    rw [fstZ_no (by omega) (by rw [h4 a (by omega) (by omega)]; exact Bool.false_ne_true)]
    exact fstZ_nil n (a + 1) b (by omega) (fun i g1 g2 => h4 i (by omega) g2)
/-- who mends more never has fewer stones -/
theorem bat_mono {W : Int → Int → Bool} {br m m2 st l0 : Int} (hm : m ≤ m2) : ∀ (n : Nat) (h a b : Int), (672 - h).toNat = n → 0 ≤ h → a ≤ b → (bat W br m st l0 h a).1 = -1 → (bat W br m2 st l0 h b).1 = -1
  | 0, h, a, b, hn, h0, hab, e => by rw [bat_end (by omega)]
  | n + 1, h, a, b, hn, h0, hab, e => by
    obtain ⟨na, ha⟩ : ∃ z, z = if W h l0 = true then a - br else min st (a + m) := ⟨_, rfl⟩
    obtain ⟨nb, hb⟩ : ∃ z, z = if W h l0 = true then b - br else min st (b + m2) := ⟨_, rfl⟩
    have hle : na ≤ nb := by
      rw [ha, hb]
      by_cases hw : W h l0 = true
      · rw [if_pos hw, if_pos hw]; omega
      · rw [if_neg hw, if_neg hw]; omega
    rw [bat_s (by omega) ha] at e
    rw [bat_s (by omega) hb]
    by_cases hc : na ≤ 0
    · rw [if_pos hc] at e
      have e : h = -1 := e
      omega
    · rw [if_neg hc] at e
      rw [if_neg (by omega)]
      exact bat_mono hm n (h + 1) na nb (by omega) (by omega) hle e
def hldB (W : Int → Int → Bool) (br st l0 h0 m : Int) : Bool := decide ((bat W br m st l0 h0 st).1 = -1)
def hldF (W : Int → Int → Bool) (br st l0 h0 : Int) : Int := fstZ (hldB W br st l0 h0) 0 100
theorem hldB_mono {W : Int → Int → Bool} {br st l0 h0 m m2 : Int} (h0p : 0 ≤ h0) (hm : m ≤ m2) (h : hldB W br st l0 h0 m = true) : hldB W br st l0 h0 m2 = true := by
  unfold hldB at *
  rw [decide_eq_true_eq] at *
  exact bat_mono hm _ h0 st st rfl h0p (Int.le_refl _) h
theorem hldB_t {W : Int → Int → Bool} {br st l0 h0 m : Int} (h : (bat W br m st l0 h0 st).1 = -1) : hldB W br st l0 h0 m = true := decide_eq_true h
theorem hldB_f {W : Int → Int → Bool} {br st l0 h0 m : Int} (h : ¬ (bat W br m st l0 h0 st).1 = -1) : hldB W br st l0 h0 m = false := decide_eq_false h
theorem hldB_lt {W : Int → Int → Bool} {br st l0 h0 m : Int} (h0p : 0 ≤ h0) (h : hldB W br st l0 h0 m = false) {i : Int} (hi : i ≤ m) : hldB W br st l0 h0 i = false := by
  apply Bool.eq_false_iff.mpr
  intro e
  rw [hldB_mono h0p hi e] at h
  cases h
set_option maxRecDepth 20000 in
set_option maxHeartbeats 4000000 in
theorem tX1_leastMends {l : Launch} {x : Cx} {d : Nat} {w : AW} {f9 : List AV} {fa : Int → Int} {W : Int → Int → Bool} {br me sl l0 h0 st : Int} (hd : 4 ≤ d) (q9 : w 9 = cO 5 f9) (hW : WarC w fa W) (q15 : w 15 = cO 1 [vR 9, vI br, vI me, vI sl]) (hb : 0 ≤ br ∧ br ≤ 99) (hl : 0 ≤ l0 ∧ l0 ≤ 7) (hh : 0 ≤ h0 ∧ h0 ≤ 671) (hs : 1 ≤ st ∧ st ≤ 999) : Mt l x iX1_leastMends d 0 0 50 w [vR 15, vI l0, vI h0, vI st] (Wr (vI (hldF W br st l0 h0)) (fun w2 => ∃ z, w2 = upw w 15 (cO 1 [vR 9, vI br, vI me, vI z]))) := by
  refine Mt.of (L0 := [some (vR 15), some (vI l0), some (vI h0), some (vI st), none, none, none, none]) rfl rfl rfl ?_
  refine gj_al0 dX1_leastMends_0 ?_
  refine gj_il1 dX1_leastMends_1 ?_
  refine gj_il2 dX1_leastMends_2 ?_
  refine gj_il3 dX1_leastMends_3 ?_
  refine gj_bipush dX1_leastMends_4 rfl ?_
  refine gj_cV4w dX1_leastMends_6 mX1_37 hX1_batter q15 rfl (by omega) rfl (tX1_batter  (by omega) q9 hW q15 (by omega) (by omega) (by omega) (by omega) (by omega)) (fun w6 P6 => ?_)
  obtain rfl := P6
  refine gj_iconst dX1_leastMends_9 ?_
  have g1 := (bat_R (W := W) (l0 := l0) (st := st) hb (m := 99) (by omega) (by omega) _ h0 st rfl (by omega) (by omega)).1
  refine gj_icmp_eq dX1_leastMends_10 (by omega) (fun h10 => ?_) (fun h10 => ?_)
  · refine gj_iconst dX1_leastMends_15 ?_
    refine gj_is4 dX1_leastMends_16 rfl rfl ?_
    refine gj_bipush dX1_leastMends_18 rfl ?_
    refine gj_is5 dX1_leastMends_20 rfl rfl ?_
    refine gj_iconst dX1_leastMends_22 ?_
    refine gj_is6 dX1_leastMends_23 rfl rfl ?_
    have loop25 : ∀ (k : Nat), ∀ (z lo hi r : Int), (0 ≤ lo ∧ lo ≤ hi ∧ hi ≤ 99) → ((r = 0 ∧ hi - lo < 128) ∨ (r = 1 ∧ hi - lo < 64) ∨ (r = 2 ∧ hi - lo < 32) ∨ (r = 3 ∧ hi - lo < 16) ∨ (r = 4 ∧ hi - lo < 8) ∨ (r = 5 ∧ hi - lo < 4) ∨ (r = 6 ∧ hi - lo < 2) ∨ (r = 7 ∧ hi - lo < 1)) → (hldB W br st l0 h0 hi = true) → (∀ i, i < lo → 0 ≤ i → hldB W br st l0 h0 i = false) → (7 - r).toNat < k → Gj l x iX1_leastMends d 0 0 50 (Wr (vI (hldF W br st l0 h0)) (fun w2 => ∃ z, w2 = upw w 15 (cO 1 [vR 9, vI br, vI me, vI z]))) 0 0 50 (upw w 15 (cO 1 [vR 9, vI br, vI me, vI z])) 25 [some (vR 15), some (vI l0), some (vI h0), some (vI st), some (vI lo), some (vI hi), some (vI r), none] [] := by
      intro k
      induction k with
      | zero => intro _ _ _ _ _ _ _ _ hm; exact absurd hm (Nat.not_lt_zero _)
      | succ k ih25 =>
        intro z lo hi r  hv hr hp hq hm25
        refine gj_il6 dX1_leastMends_25 ?_
        refine gj_bipush dX1_leastMends_27 rfl ?_
        refine gj_icmp_ge dX1_leastMends_29 (by omega) (fun h29 => ?_) (fun h29 => ?_)
        · refine gj_il4 dX1_leastMends_80 ?_
          exact gj_iret dX1_leastMends_82 rfl (wr_i (by (have e : lo = hi := by omega); unfold hldF; rw [fstZ_at _ 0 100 lo rfl (by omega) (by omega) (by rw [e]; exact hp) (fun i g2 g3 => hq i g3 g2)]) ⟨_, rfl⟩)
        · refine gj_il4 dX1_leastMends_32 ?_
          refine gj_il5 dX1_leastMends_34 ?_
          refine gj_icmp_ge dX1_leastMends_36 (by omega) (fun h36 => ?_) (fun h36 => ?_)
          · refine gj_il4 dX1_leastMends_80 ?_
            exact gj_iret dX1_leastMends_82 rfl (wr_i (by (have e : lo = hi := by omega); unfold hldF; rw [fstZ_at _ 0 100 lo rfl (by omega) (by omega) (by rw [e]; exact hp) (fun i g2 g3 => hq i g3 g2)]) ⟨_, rfl⟩)
          · refine gj_il4 dX1_leastMends_39 ?_
            refine gj_il5 dX1_leastMends_41 ?_
            refine gj_iadd dX1_leastMends_43 ?_
            refine gj_iconst dX1_leastMends_44 ?_
            refine gj_idiv dX1_leastMends_45 (by omega) (by omega) ?_
            refine gj_is7 dX1_leastMends_46 rfl rfl ?_
            refine gj_al0 dX1_leastMends_48 ?_
            refine gj_il1 dX1_leastMends_49 ?_
            refine gj_il2 dX1_leastMends_50 ?_
            refine gj_il3 dX1_leastMends_51 ?_
            refine gj_il7 dX1_leastMends_52 ?_
            refine gj_cV4w dX1_leastMends_54 mX1_37 hX1_batter upw_s rfl (by omega) rfl (tX1_batter  (by omega) (upw_o (by decide) q9) (WarC.up (by decide) hW) upw_s (by omega) (by omega) (by omega) (by omega) (by omega)) (fun w54 P54 => ?_)
            obtain rfl := P54
            refine gj_iconst dX1_leastMends_57 ?_
            have g1 := (bat_R (W := W) (l0 := l0) (st := st) hb (m := (lo + hi) / 2) (by omega) (by omega) _ h0 st rfl (by omega) (by omega)).1
            refine gj_icmp_ne dX1_leastMends_58 (by omega) (fun h58 => ?_) (fun h58 => ?_)
            · refine gj_il7 dX1_leastMends_68 ?_
              refine gj_iconst dX1_leastMends_70 ?_
              refine gj_iadd dX1_leastMends_71 ?_
              refine gj_is4 dX1_leastMends_72 rfl rfl ?_
              refine gj_ii6 dX1_leastMends_74 rfl rfl ?_
              refine gj_goto dX1_leastMends_77 ?_
              refine gj_dr7 ?_
              rw [upw_upw]
              exact ih25 _ _ _ _ (by omega) (by omega) hp (fun i g2 g3 => hldB_lt (by omega) (hldB_f h58) (by omega)) (by omega)
            · refine gj_il7 dX1_leastMends_61 ?_
              refine gj_is5 dX1_leastMends_63 rfl rfl ?_
              refine gj_goto dX1_leastMends_65 ?_
              refine gj_ii6 dX1_leastMends_74 rfl rfl ?_
              refine gj_goto dX1_leastMends_77 ?_
              refine gj_dr7 ?_
              rw [upw_upw]
              exact ih25 _ _ _ _ (by omega) (by omega) (hldB_t h58) hq (by omega)
    exact loop25 _ _ _ _ _ (by omega) (by omega) (hldB_t h10) (fun i g2 g3 => absurd g2 (by omega)) (Nat.lt_succ_self _)
  · refine gj_iconst dX1_leastMends_13 ?_
    exact gj_iret dX1_leastMends_14 rfl (wr_i (by unfold hldF; rw [fstZ_nil _ 0 100 rfl (fun i g2 g3 => hldB_lt (by omega) (hldB_f h10) (by omega))]) ⟨_, rfl⟩)
abbrev MemAt (w : AW) (mh ml mw : Int → Int) (mn : Int) : Prop := w 19 = cO 4 [vR 9, vR 20, vR 21, vR 22, vI mn] ∧ w 20 = cI 6 mh ∧ w 21 = cI 6 ml ∧ w 22 = cZ 6 mw
abbrev MemOK (mh ml mw : Int → Int) (mn : Int) : Prop := (0 ≤ mn ∧ mn ≤ 6) ∧ ∀ k : Int, 0 ≤ k → k < mn → (0 ≤ mh k ∧ mh k ≤ 23) ∧ (0 ≤ ml k ∧ ml k ≤ 7) ∧ (0 ≤ mw k ∧ mw k ≤ 1)
/-- whether all that was seen, from k on, comes out so on a day -/
def fitN (W : Int → Int → Bool) (mh ml mw : Int → Int) (day : Int) : Nat → Bool
  | 0 => true
  | k + 1 => fitN W mh ml mw day k && decide (b2i (W (24 * day + mh (k : Int)) (ml (k : Int)) = true) = mw (k : Int))
def fitZ (W : Int → Int → Bool) (mh ml mw : Int → Int) (day i : Int) : Bool := fitN W mh ml mw day i.toNat
theorem fitZ_s (W : Int → Int → Bool) (mh ml mw : Int → Int) (day : Int) {i : Int} (h : 0 ≤ i) : fitZ W mh ml mw day (i + 1) = (fitZ W mh ml mw day i && decide (b2i (W (24 * day + mh i) (ml i) = true) = mw i)) := by
  unfold fitZ
  rw [show (i + 1).toNat = i.toNat + 1 by omega, fitN, show ((i.toNat : Nat) : Int) = i by omega]
theorem fitN_no {W : Int → Int → Bool} {mh ml mw : Int → Int} {day : Int} : ∀ (n k : Nat), k < n → ¬ b2i (W (24 * day + mh (k : Int)) (ml (k : Int)) = true) = mw (k : Int) → fitN W mh ml mw day n = false
  | 0, k, h, _ => absurd h (by omega)
  | n + 1, k, h, e => by
    rw [fitN]
    by_cases hk : k = n
    · subst hk
      rw [decide_eq_false e, Bool.and_false]
    · rw [fitN_no n k (by omega) e, Bool.false_and]
theorem fitZ_no {W : Int → Int → Bool} {mh ml mw : Int → Int} {day n i : Int} (h0 : 0 ≤ i) (h : i < n) (e : ¬ b2i (W (24 * day + mh i) (ml i) = true) = mw i) : fitZ W mh ml mw day n = false := fitN_no _ i.toNat (by omega) (by rw [show ((i.toNat : Nat) : Int) = i by omega]; exact e)
set_option maxRecDepth 20000 in
set_option maxHeartbeats 4000000 in
theorem tX4_keep {l : Launch} {x : Cx} {d : Nat} {w : AW} {mh ml mw : Int → Int} {mn : Int} {h l0 z : Int} (hd : 0 ≤ d) (hM : MemAt w mh ml mw mn) (hO : 0 ≤ mn ∧ mn ≤ 6) (hz : 0 ≤ z ∧ z ≤ 1) : Mt l x iX4_keep d 0 0 50 w [vR 19, vI h, vI l0, vI z] (fun v2 w2 => (mn < 6 ∧ v2 = some (vI 1) ∧ w2 = upw (upw (upw (upw w 20 (cI 6 (upf mh mn h))) 21 (cI 6 (upf ml mn l0))) 22 (cZ 6 (upf mw mn z))) 19 (cO 4 [vR 9, vR 20, vR 21, vR 22, vI (mn + 1)])) ∨ (¬ mn < 6 ∧ v2 = some (vI 0) ∧ w2 = w)) := by
  obtain ⟨q19, q20, q21, q22⟩ := hM
  refine Mt.of (L0 := [some (vR 19), some (vI h), some (vI l0), some (vI z)]) rfl rfl rfl ?_
  refine gj_al0 dX4_keep_0 ?_
  refine gj_get dX4_keep_1 fX4_26 q19 rfl rfl ?_
  refine gj_bipush dX4_keep_4 rfl ?_
  refine gj_icmp_lt dX4_keep_6 (by omega) (fun h6 => ?_) (fun h6 => ?_)
  · refine gj_al0 dX4_keep_11 ?_
    refine gj_get dX4_keep_12 fX4_11 q19 rfl rfl ?_
    refine gj_al0 dX4_keep_15 ?_
    refine gj_get dX4_keep_16 fX4_26 q19 rfl rfl ?_
    refine gj_il1 dX4_keep_19 ?_
    refine gj_iast dX4_keep_20 q20 rfl rfl (by omega) ?_
    refine gj_al0 dX4_keep_21 ?_
    refine gj_get dX4_keep_22 fX4_15 (upw_o (by decide) q19) rfl rfl ?_
    refine gj_al0 dX4_keep_25 ?_
    refine gj_get dX4_keep_26 fX4_26 (upw_o (by decide) q19) rfl rfl ?_
    refine gj_il2 dX4_keep_29 ?_
    refine gj_iast dX4_keep_30 (upw_o (by decide) q21) rfl rfl (by omega) ?_
    refine gj_al0 dX4_keep_31 ?_
    refine gj_get dX4_keep_32 fX4_18 (upw_o (by decide) (upw_o (by decide) q19)) rfl rfl ?_
    refine gj_al0 dX4_keep_35 ?_
    refine gj_get dX4_keep_36 fX4_26 (upw_o (by decide) (upw_o (by decide) q19)) rfl rfl ?_
    refine gj_il3 dX4_keep_39 ?_
    refine gj_zast (by omega) dX4_keep_40 (upw_o (by decide) (upw_o (by decide) q22)) rfl rfl (by omega) ?_
    refine gj_al0 dX4_keep_41 ?_
    refine gj_dupR dX4_keep_42 ?_
    refine gj_get dX4_keep_43 fX4_26 (upw_o (by decide) (upw_o (by decide) (upw_o (by decide) q19))) rfl rfl ?_
    refine gj_iconst dX4_keep_46 ?_
    refine gj_iadd dX4_keep_47 ?_
    refine gj_pI4 dX4_keep_48 fX4_26 (upw_o (by decide) (upw_o (by decide) (upw_o (by decide) q19))) rfl ?_
    refine gj_iconst dX4_keep_51 ?_
    exact gj_zret (Or.inr rfl) dX4_keep_52 rfl (Or.inl ⟨h6, rfl, rfl⟩)
  · refine gj_iconst dX4_keep_9 ?_
    exact gj_zret (Or.inl rfl) dX4_keep_10 rfl (Or.inr ⟨h6, rfl, rfl⟩)
set_option maxRecDepth 20000 in
set_option maxHeartbeats 4000000 in
theorem tX4_fits {l : Launch} {x : Cx} {d : Nat} {w : AW} {f9 : List AV} {fa : Int → Int} {W : Int → Int → Bool} {mh ml mw : Int → Int} {mn : Int} {day : Int} (hd : 3 ≤ d) (q9 : w 9 = cO 5 f9) (hW : WarC w fa W) (hM : MemAt w mh ml mw mn) (hO : MemOK mh ml mw mn) (hd0 : 0 ≤ day ∧ day ≤ 27) : Mt l x iX4_fits d 0 0 50 w [vR 19, vI day] (Rd (vI (b2i (fitZ W mh ml mw day mn = true))) w) := by
  obtain ⟨q19, q20, q21, q22⟩ := hM
  refine Mt.of (L0 := [some (vR 19), some (vI day), none]) rfl rfl rfl ?_
  refine gj_iconst dX4_fits_0 ?_
  refine gj_is2 dX4_fits_1 rfl rfl ?_
  have loop2 : ∀ (k : Nat), ∀ (i : Int), (0 ≤ i ∧ i ≤ mn) → (fitZ W mh ml mw day i = true) → (mn - i).toNat < k → Gj l x iX4_fits d 0 0 50 (Rd (vI (b2i (fitZ W mh ml mw day mn = true))) w) 0 0 50 w 2 [some (vR 19), some (vI day), some (vI i)] [] := by
    intro k
    induction k with
    | zero => intro _ _ _ hm; exact absurd hm (Nat.not_lt_zero _)
    | succ k ih2 =>
      intro i  hi ha hm2
      refine gj_il2 dX4_fits_2 ?_
      refine gj_al0 dX4_fits_3 ?_
      refine gj_get dX4_fits_4 fX4_26 q19 rfl rfl ?_
      refine gj_icmp_ge dX4_fits_7 (by omega) (fun h7 => ?_) (fun h7 => ?_)
      · refine gj_iconst dX4_fits_51 ?_
        exact gj_zret (Or.inr rfl) dX4_fits_52 rfl (rd_i (b2i_t (by rw [show mn = i by omega]; exact ha)).symm)
      · have m1 := hO.2 i hi.1 (by omega)
        refine gj_al0 dX4_fits_10 ?_
        refine gj_get dX4_fits_11 fX4_22 q19 rfl rfl ?_
        refine gj_il1 dX4_fits_14 ?_
        refine gj_bipush dX4_fits_15 rfl ?_
        refine gj_imul dX4_fits_17 ?_
        refine gj_al0 dX4_fits_18 ?_
        refine gj_get dX4_fits_19 fX4_11 q19 rfl rfl ?_
        refine gj_il2 dX4_fits_22 ?_
        refine gj_iald dX4_fits_23 q20 rfl rfl (by omega) ?_
        refine gj_iadd dX4_fits_24 ?_
        refine gj_al0 dX4_fits_25 ?_
        refine gj_get dX4_fits_26 fX4_15 q19 rfl rfl ?_
        refine gj_il2 dX4_fits_29 ?_
        refine gj_iald dX4_fits_30 q21 rfl rfl (by omega) ?_
        refine gj_cV2r dX4_fits_31 mX4_30 hX5_isWar q9 rfl (by omega) rfl (tWar  (by omega) hW (by omega) (by omega)) ?_
        refine gj_al0 dX4_fits_34 ?_
        refine gj_get dX4_fits_35 fX4_18 q19 rfl rfl ?_
        refine gj_il2 dX4_fits_38 ?_
        refine gj_zald dX4_fits_39 q22 rfl rfl (by omega) ?_
        have bb := b2i_R (W (day * 24 + mh i) (ml i) = true)
        refine gj_icmp_eq dX4_fits_40 (by omega) (fun h40 => ?_) (fun h40 => ?_)
        · refine gj_ii2 dX4_fits_45 rfl rfl ?_
          refine gj_goto dX4_fits_48 ?_
          exact ih2 _ (by omega) (by rw [fitZ_s _ _ _ _ _ hi.1, ha, decide_eq_true (by rw [show 24 * day = day * 24 by omega]; exact h40)]; rfl) (by omega)
        · refine gj_iconst dX4_fits_43 ?_
          exact gj_zret (Or.inl rfl) dX4_fits_44 rfl (rd_i (b2i_f (by rw [fitZ_no (i := i) hi.1 (by omega) (by rw [show 24 * day = day * 24 by omega]; exact h40)]; exact Bool.false_ne_true)).symm)
  exact loop2 _ _ (by omega) rfl (Nat.lt_succ_self _)
