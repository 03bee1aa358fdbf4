/-! WarC: the cells 7 to 11 tell war as W does -/
def WarC (w : AW) (fa : Int → Int) (W : Int → Int → Bool) : Prop := ∃ (fe ru : Int → Int) (fc fd lw : Int), PeaceAt w fa fe fc fd lw ∧ BellsAt w ru ∧ POK fa ru fe fc fd lw ∧ W = warB lw fa ru fe fc
theorem WarC.fr {w w2 : AW} {fa : Int → Int} {W : Int → Int → Bool} (fr : ∀ k : Nat, 7 ≤ k → k ≤ 11 → w2 k = w k) (h : WarC w fa W) : WarC w2 fa W := by
  obtain ⟨fe, ru, fc, fd, lw, ⟨h1, h2, h3⟩, ⟨h4, h5⟩, h6, h7⟩ := h
  exact ⟨fe, ru, fc, fd, lw, ⟨(fr 9 (by omega) (by omega)).trans h1, (fr 10 (by omega) (by omega)).trans h2, (fr 11 (by omega) (by omega)).trans h3⟩, ⟨(fr 7 (by omega) (by omega)).trans h4, (fr 8 (by omega) (by omega)).trans h5⟩, h6, h7⟩
theorem WarC.up {w : AW} {fa : Int → Int} {W : Int → Int → Bool} {k : Nat} {c : AC} (hk : k < 7 ∨ 11 < k) (h : WarC w fa W) : WarC (upw w k c) fa W := h.fr (fun j h1 h2 => upw_o (by omega) rfl)
theorem WarC.fa {w : AW} {fa : Int → Int} {W : Int → Int → Bool} (h : WarC w fa W) : FaOK fa := by
  obtain ⟨fe, ru, fc, fd, lw, -, -, h6, -⟩ := h
  exact h6.1
theorem WarC.out {w : AW} {fa : Int → Int} {W : Int → Int → Bool} (h : WarC w fa W) {q l0 : Int} (hq : q < 0 ∨ 671 < q) : W q l0 = false := by
  obtain ⟨fe, ru, fc, fd, lw, -, -, -, rfl⟩ := h
  apply Bool.eq_false_iff.mpr
  intro e
  have := (warB_iff.mp e).1
  omega
theorem tWar {l : Launch} {x : Cx} {d : Nat} {w : AW} {fa : Int → Int} {W : Int → Int → Bool} {h l0 : Int} (hd : 2 ≤ d) (hW : WarC w fa W) (hh : R32 h) (hl : 0 ≤ l0 ∧ l0 ≤ 7) : Mt l x iX5_isWar d 0 0 50 w [vR 9, vI h, vI l0] (Rd (vI (b2i (W h l0 = true))) w) := by
  obtain ⟨fe, ru, fc, fd, lw, h1, h2, h3, rfl⟩ := hW
  exact tX5_isWar (by omega) h1 h2 h3 hh hl
/-- hours of war in a day; in a week -/
def dayF (W : Int → Int → Bool) (day l0 : Int) : Int := sumZ (fun i => b2i (W (24 * day + i) l0 = true)) 24
def leftF (W : Int → Int → Bool) (week l0 : Int) : Int := sumZ (fun i => b2i (W (168 * week + i) l0 = true)) 168
theorem dayF_R (W : Int → Int → Bool) (day l0 : Int) : 0 ≤ dayF W day l0 ∧ dayF W day l0 ≤ 24 := by
  have := sumZ_bd (f := fun i => b2i (W (24 * day + i) l0 = true)) (a := 0) (b := 1) (n := 24) (by omega) (fun i _ _ => by rcases b2i_R (W (24 * day + i) l0 = true) with h | h <;> simp only [h] <;> omega)
  unfold dayF
  omega
theorem leftF_R (W : Int → Int → Bool) (week l0 : Int) : 0 ≤ leftF W week l0 ∧ leftF W week l0 ≤ 168 := by
  have := sumZ_bd (f := fun i => b2i (W (168 * week + i) l0 = true)) (a := 0) (b := 1) (n := 168) (by omega) (fun i _ _ => by rcases b2i_R (W (168 * week + i) l0 = true) with h | h <;> simp only [h] <;> omega)
  unfold leftF
  omega
theorem sum_in {lo hi : Int} (h0 : 0 ≤ lo) (h1 : lo ≤ hi) : ∀ n : Nat, sumN (fun i => b2i (lo ≤ i ∧ i < hi)) n = max 0 (min hi (n : Int) - lo)
  | 0 => by simp only [sumN]; omega
  | n + 1 => by
    rw [sumN, sum_in h0 h1 n]
    by_cases h : lo ≤ (n : Int) ∧ (n : Int) < hi
    · simp only [b2i_t h]; omega
    · simp only [b2i_f h]; omega
theorem sumZ_in {f : Int → Int} {lo hi n : Int} (h0 : 0 ≤ lo) (h1 : lo ≤ hi) (hn : 0 ≤ n) (hf : ∀ i, 0 ≤ i → i < n → f i = b2i (lo ≤ i ∧ i < hi)) : sumZ f n = max 0 (min hi n - lo) := by
  rw [sumZ_congr hf]
  unfold sumZ
  rw [sum_in h0 h1, show ((n.toNat : Nat) : Int) = n by omega]
theorem b2i_iff {P Q : Prop} [Decidable P] [Decidable Q] (h : P ↔ Q) : b2i P = b2i Q := by
  by_cases hp : P
  · rw [b2i_t hp, b2i_t (h.mp hp)]
  · rw [b2i_f hp, b2i_f (fun q => hp (h.mpr q))]
/-- a day's hours of war, by the bells -/
theorem day_open {fa ru fe : Int → Int} {fc fd lw day l0 : Int} (hO : POK fa ru fe fc fd lw) (hd : 0 ≤ day ∧ day ≤ 27) (hl : 0 ≤ l0 ∧ l0 ≤ 7) (ho : tb lw (day / 7) = false ∧ fsB fe day fc.toNat = false ∧ fa (3 * l0 + 1) = 0) : dayF (warB lw fa ru fe fc) day l0 = if day % 7 = 0 then 24 - ru (2 * fa (3 * l0)) else if day % 7 = 1 then 24 else if day % 7 = 2 then ru (2 * fa (3 * l0) + 1) else 0 := by
  have f9 := hO.1 l0 hl.1 hl.2
  have r0 := hO.2.1 (2 * fa (3 * l0)) (by omega) (by omega)
  have r1 := hO.2.1 (2 * fa (3 * l0) + 1) (by omega) (by omega)
  have key : ∀ i : Int, 0 ≤ i → i < 24 → (warB lw fa ru fe fc (24 * day + i) l0 = true ↔ (ru (2 * fa (3 * l0)) ≤ 24 * (day % 7) + i ∧ 24 * (day % 7) + i < 48 + ru (2 * fa (3 * l0) + 1))) := by
    intro i h1 h2
    rw [warB_iff, show (24 * day + i) / 168 = day / 7 by omega, show (24 * day + i) / 24 = day by omega, show (24 * day + i) % 168 = 24 * (day % 7) + i by omega]
    exact ⟨fun g => ⟨g.2.2.2.1, g.2.2.2.2.1⟩, fun g => ⟨by omega, ho.1, ho.2.2, g.1, g.2, ho.2.1⟩⟩
  unfold dayF
  by_cases c0 : day % 7 = 0
  · rw [if_pos c0, sumZ_in (lo := ru (2 * fa (3 * l0))) (hi := 24) (by omega) (by omega) (by omega) (fun i h1 h2 => b2i_iff ((key i h1 h2).trans (by omega)))]
    omega
  · rw [if_neg c0]
    by_cases c1 : day % 7 = 1
    · rw [if_pos c1, sumZ_in (lo := 0) (hi := 24) (by omega) (by omega) (by omega) (fun i h1 h2 => b2i_iff ((key i h1 h2).trans (by omega)))]
      omega
    · rw [if_neg c1]
      by_cases c2 : day % 7 = 2
      · rw [if_pos c2, sumZ_in (lo := 0) (hi := ru (2 * fa (3 * l0) + 1)) (by omega) (by omega) (by omega) (fun i h1 h2 => b2i_iff ((key i h1 h2).trans (by omega)))]
        omega
      · rw [if_neg c2, sumZ_in (lo := 0) (hi := 0) (by omega) (by omega) (by omega) (fun i h1 h2 => b2i_iff ((key i h1 h2).trans (by omega)))]
        omega
theorem day_shut {fa ru fe : Int → Int} {fc fd lw day l0 : Int} (hO : POK fa ru fe fc fd lw) (hd : 0 ≤ day ∧ day ≤ 27) (ho : ¬ (tb lw (day / 7) = false ∧ fsB fe day fc.toNat = false ∧ fa (3 * l0 + 1) = 0)) : dayF (warB lw fa ru fe fc) day l0 = 0 := by
  unfold dayF
  rw [sumZ_in (lo := 0) (hi := 0) (by omega) (by omega) (by omega) (fun i h1 h2 => b2i_iff ⟨fun g => absurd (by
    have g2 := warB_iff.mp g
    rw [show (24 * day + i) / 168 = day / 7 by omega, show (24 * day + i) / 24 = day by omega] at g2
    exact ⟨g2.2.1, g2.2.2.2.2.2, g2.2.2.1⟩) ho, fun g => absurd g (by omega)⟩)]
  omega
theorem left_days (W : Int → Int → Bool) {week l0 : Int} : ∀ k : Nat, sumN (fun j => dayF W (week * 7 + j) l0) k = sumN (fun i => b2i (W (168 * week + i) l0 = true)) (24 * k)
  | 0 => rfl
  | k + 1 => by
    rw [sumN, left_days W k, show 24 * (k + 1) = 24 * k + 24 by omega, sumN_add]
    congr 1
    unfold dayF sumZ
    apply sumN_congr
    intro i h1 h2
    rw [show 24 * (week * 7 + (k : Int)) + i = 168 * week + (((24 * k : Nat) : Int) + i) by omega]
theorem left_sum (W : Int → Int → Bool) (week l0 : Int) : sumZ (fun j => dayF W (week * 7 + j) l0) 7 = leftF W week l0 := left_days W 7
set_option maxRecDepth 20000 in
set_option maxHeartbeats 4000000 in
theorem tX5_warInDay {l : Launch} {x : Cx} {d : Nat} {w : AW} {fa fe ru : Int → Int} {fc fd lw : Int} {day l0 : Int} (hd : 1 ≤ d) (hP : PeaceAt w fa fe fc fd lw) (hB : BellsAt w ru) (hO : POK fa ru fe fc fd lw) (hd0 : 0 ≤ day ∧ day ≤ 27) (hl : 0 ≤ l0 ∧ l0 ≤ 7) : Mt l x iX5_warInDay d 0 0 50 w [vR 9, vI day, vI l0] (Rd (vI (dayF (warB lw fa ru fe fc) day l0)) w) := by
  obtain ⟨q9, q10, q11⟩ := hP
  obtain ⟨q7, q8⟩ := hB
  have f9 := hO.1 l0 hl.1 hl.2
  rw [show 3 * l0 = l0 * 3 + 0 by omega, show l0 * 3 + 0 + 1 = l0 * 3 + 1 by omega] at f9
  have r0 := hO.2.1 (2 * fa (l0 * 3 + 0) + 0) (by omega) (by omega)
  have r1 := hO.2.1 (2 * fa (l0 * 3 + 0) + 1) (by omega) (by omega)
  have e3 : 3 * l0 = l0 * 3 + 0 := by omega
  have e4 : 3 * l0 + 1 = l0 * 3 + 1 := by omega
  have e5 : 2 * fa (l0 * 3 + 0) + 0 = 2 * fa (l0 * 3 + 0) := by omega
  refine Mt.of (L0 := [some (vR 9), some (vI day), some (vI l0)]) rfl rfl rfl ?_
  refine gj_al0 dX5_warInDay_0 ?_
  refine gj_il1 dX5_warInDay_1 ?_
  refine gj_il2 dX5_warInDay_2 ?_
  refine gj_cV2r dX5_warInDay_3 mX5_44 hX5_isOpenDay q9 rfl (by omega) rfl (tX5_isOpenDay  (by omega) ⟨q9, q10, q11⟩ (by omega) (by omega) (by omega)) ?_
  refine gj_ifB_ne dX5_warInDay_6 (fun h6 => ?_) (fun h6 => ?_)
  · refine gj_il1 dX5_warInDay_11 ?_
    refine gj_bipush dX5_warInDay_12 rfl ?_
    refine gj_irem dX5_warInDay_14 (by omega) (by omega) ?_
    refine gj_tsw3 (t0 := 40) (t1 := 50) (t2 := 53) (td := 60) dX5_warInDay_15 (by omega) (by decide) (by decide) (by decide) (by decide) (fun h15 => ?_) (fun h15 => ?_) (fun h15 => ?_) (fun h15 => ?_)
    · refine gj_bipush dX5_warInDay_40 rfl ?_
      refine gj_al0 dX5_warInDay_42 ?_
      refine gj_il2 dX5_warInDay_43 ?_
      refine gj_iconst dX5_warInDay_44 ?_
      refine gj_cV2r dX5_warInDay_45 mX5_48 hX5_bellOf q9 rfl (by omega) rfl (tX5_bellOf  (by omega) ⟨q9, q10, q11⟩ ⟨q7, q8⟩ (by omega) (by omega) (by omega)) ?_
      refine gj_isub dX5_warInDay_48 ?_
      exact gj_iret dX5_warInDay_49 rfl (rd_i (by rw [day_open hO hd0 hl (by rw [e4]; exact (opn_iff hO hd0 _).mp h6), e3]; (try rw [e5] at *); (repeat' split) <;> omega))
    · refine gj_bipush dX5_warInDay_50 rfl ?_
      exact gj_iret dX5_warInDay_52 rfl (rd_i (by rw [day_open hO hd0 hl (by rw [e4]; exact (opn_iff hO hd0 _).mp h6), e3]; (try rw [e5] at *); (repeat' split) <;> omega))
    · refine gj_al0 dX5_warInDay_53 ?_
      refine gj_il2 dX5_warInDay_54 ?_
      refine gj_iconst dX5_warInDay_55 ?_
      refine gj_cV2r dX5_warInDay_56 mX5_48 hX5_bellOf q9 rfl (by omega) rfl (tX5_bellOf  (by omega) ⟨q9, q10, q11⟩ ⟨q7, q8⟩ (by omega) (by omega) (by omega)) ?_
      exact gj_iret dX5_warInDay_59 rfl (rd_i (by rw [day_open hO hd0 hl (by rw [e4]; exact (opn_iff hO hd0 _).mp h6), e3]; (try rw [e5] at *); (repeat' split) <;> omega))
    · refine gj_iconst dX5_warInDay_60 ?_
      exact gj_iret dX5_warInDay_61 rfl (rd_i (by rw [day_open hO hd0 hl (by rw [e4]; exact (opn_iff hO hd0 _).mp h6), e3]; (try rw [e5] at *); (repeat' split) <;> omega))
  · refine gj_iconst dX5_warInDay_9 ?_
    exact gj_iret dX5_warInDay_10 rfl (rd_i (by rw [day_shut hO hd0 (by rw [e4]; exact fun g => h6 ((opn_iff hO hd0 _).mpr g))]))
theorem tDay {l : Launch} {x : Cx} {d : Nat} {w : AW} {fa : Int → Int} {W : Int → Int → Bool} {day l0 : Int} (hd : 2 ≤ d) (hW : WarC w fa W) (hh : 0 ≤ day ∧ day ≤ 27) (hl : 0 ≤ l0 ∧ l0 ≤ 7) : Mt l x iX5_warInDay d 0 0 50 w [vR 9, vI day, vI l0] (Rd (vI (dayF W day l0)) w) := by
  obtain ⟨fe, ru, fc, fd, lw, h1, h2, h3, rfl⟩ := hW
  exact tX5_warInDay (by omega) h1 h2 h3 hh hl
set_option maxRecDepth 20000 in
set_option maxHeartbeats 4000000 in
theorem tX5_warInWeek {l : Launch} {x : Cx} {d : Nat} {w : AW} {f9 : List AV} {fa : Int → Int} {W : Int → Int → Bool} {k0 l0 : Int} (hd : 3 ≤ d) (q9 : w 9 = cO 5 f9) (hW : WarC w fa W) (hk : 0 ≤ k0 ∧ k0 ≤ 3) (hl : 0 ≤ l0 ∧ l0 ≤ 7) : Mt l x iX5_warInWeek d 0 0 50 w [vR 9, vI k0, vI l0] (Rd (vI (leftF W k0 l0)) w) := by
  refine Mt.of (L0 := [some (vR 9), some (vI k0), some (vI l0), none, none]) rfl rfl rfl ?_
  refine gj_iconst dX5_warInWeek_0 ?_
  refine gj_is3 dX5_warInWeek_1 rfl rfl ?_
  refine gj_iconst dX5_warInWeek_2 ?_
  refine gj_is4 dX5_warInWeek_3 rfl rfl ?_
  have loop5 : ∀ (k : Nat), ∀ (a i : Int), (0 ≤ i ∧ i ≤ 7) → (a = sumZ (fun j => dayF W (k0 * 7 + j) l0) i) → (7 - i).toNat < k → Gj l x iX5_warInWeek d 0 0 50 (Rd (vI (leftF W k0 l0)) w) 0 0 50 w 5 [some (vR 9), some (vI k0), some (vI l0), some (vI a), some (vI i)] [] := by
    intro k
    induction k with
    | zero => intro _ _ _ _ hm; exact absurd hm (Nat.not_lt_zero _)
    | succ k ih5 =>
      intro a i  hi ha hm5
      refine gj_il4 dX5_warInWeek_5 ?_
      refine gj_bipush dX5_warInWeek_7 rfl ?_
      refine gj_icmp_ge dX5_warInWeek_9 (by omega) (fun h9 => ?_) (fun h9 => ?_)
      · refine gj_il3 dX5_warInWeek_33 ?_
        exact gj_iret dX5_warInWeek_34 rfl (rd_i (by rw [ha, show i = 7 by omega, left_sum]))
      · refine gj_il3 dX5_warInWeek_12 ?_
        refine gj_al0 dX5_warInWeek_13 ?_
        refine gj_il1 dX5_warInWeek_14 ?_
        refine gj_bipush dX5_warInWeek_15 rfl ?_
        refine gj_imul dX5_warInWeek_17 ?_
        refine gj_il4 dX5_warInWeek_18 ?_
        refine gj_iadd dX5_warInWeek_20 ?_
        refine gj_il2 dX5_warInWeek_21 ?_
        refine gj_cV2r dX5_warInWeek_22 mX5_51 hX5_warInDay q9 rfl (by omega) rfl (tDay  (by omega) hW (by omega) (by omega)) ?_
        refine gj_iadd dX5_warInWeek_25 ?_
        refine gj_is3 dX5_warInWeek_26 rfl rfl ?_
        refine gj_ii4 dX5_warInWeek_27 rfl rfl ?_
        refine gj_goto dX5_warInWeek_30 ?_
        exact ih5 _ _ (by omega) (by rw [sumZ_s _ hi.1, ha]) (by omega)
  exact loop5 _ _ _ (by omega) rfl (Nat.lt_succ_self _)
/-- a siege: the hour behind which none is left (-1: none), and how many are left -/
def batN (W : Int → Int → Bool) (br m st l0 : Int) : Nat → Int → Int → Int × Int
  | 0, _, now => (-1, now)
  | k + 1, h, now => if (if W h l0 = true then now - br else min st (now + m)) ≤ 0 then (h, 0) else batN W br m st l0 k (h + 1) (if W h l0 = true then now - br else min st (now + m))
def bat (W : Int → Int → Bool) (br m st l0 h now : Int) : Int × Int := batN W br m st l0 (672 - h).toNat h now
theorem bat_end {W : Int → Int → Bool} {br m st l0 h now : Int} (hh : 672 ≤ h) : bat W br m st l0 h now = (-1, now) := by
  unfold bat
  rw [show (672 - h).toNat = 0 by omega]; rfl
theorem bat_s {W : Int → Int → Bool} {br m st l0 h now nw : Int} (hh : h < 672) (hn : nw = if W h l0 = true then now - br else min st (now + m)) : bat W br m st l0 h now = if nw ≤ 0 then (h, 0) else bat W br m st l0 (h + 1) nw := by
  unfold bat
  rw [show (672 - h).toNat = (672 - (h + 1)).toNat + 1 by omega, batN, ← hn]
theorem bat_R {W : Int → Int → Bool} {br m st l0 : Int} (hb : 0 ≤ br ∧ br ≤ 99) (hm : 0 ≤ m ∧ m ≤ 99) (hs : st ≤ 999) : ∀ (n : Nat) (h now : Int), (672 - h).toNat = n → 0 ≤ h → 0 ≤ now ∧ now ≤ 999 → (-1 ≤ (bat W br m st l0 h now).1 ∧ (bat W br m st l0 h now).1 ≤ 671) ∧ 0 ≤ (bat W br m st l0 h now).2 ∧ (bat W br m st l0 h now).2 ≤ 999
  | 0, h, now, hn, h0, h1 => by
    rw [bat_end (by omega)]
    exact ⟨by omega, by omega⟩
  | n + 1, h, now, hn, h0, h1 => by
    obtain ⟨nw, hnw⟩ : ∃ z, z = if W h l0 = true then now - br else min st (now + m) := ⟨_, rfl⟩
    have hz : nw ≤ 999 := by rw [hnw]; split <;> omega
    rw [bat_s (by omega) hnw]
    by_cases hc : nw ≤ 0
    · rw [if_pos hc]; exact ⟨⟨by show -1 ≤ h; omega, by show h ≤ 671; omega⟩, by show (0 : Int) ≤ 0; omega, by show (0 : Int) ≤ 999; omega⟩
    · rw [if_neg hc]; exact bat_R hb hm hs n (h + 1) nw (by omega) (by omega) ⟨by omega, hz⟩
set_option maxRecDepth 20000 in
set_option maxHeartbeats 4000000 in
theorem tX1_batter {l : Launch} {x : Cx} {d : Nat} {w : AW} {f9 : List AV} {fa : Int → Int} {W : Int → Int → Bool} {br me sl l0 h0 st m : Int} (hd : 3 ≤ d) (q9 : w 9 = cO 5 f9) (hW : WarC w fa W) (q15 : w 15 = cO 1 [vR 9, vI br, vI me, vI sl]) (hb : 0 ≤ br ∧ br ≤ 99) (hl : 0 ≤ l0 ∧ l0 ≤ 7) (hh : 0 ≤ h0 ∧ h0 ≤ 671) (hs : 1 ≤ st ∧ st ≤ 999) (hm : 0 ≤ m ∧ m ≤ 99) : Mt l x iX1_batter d 0 0 50 w [vR 15, vI l0, vI h0, vI st, vI m] (Wr (vI (bat W br m st l0 h0 st).1) (fun w2 => w2 = upw w 15 (cO 1 [vR 9, vI br, vI me, vI (bat W br m st l0 h0 st).2]))) := by
  refine Mt.of (L0 := [some (vR 15), some (vI l0), some (vI h0), some (vI st), some (vI m), none, none]) rfl rfl rfl ?_
  refine gj_il3 dX1_batter_0 ?_
  refine gj_is5 dX1_batter_1 rfl rfl ?_
  refine gj_il2 dX1_batter_3 ?_
  refine gj_is6 dX1_batter_4 rfl rfl ?_
  have loop6 : ∀ (k : Nat), ∀ (a i : Int), (0 ≤ i ∧ i ≤ 672) → (0 < a ∧ a ≤ st) → (bat W br m st l0 i a = bat W br m st l0 h0 st) → (672 - i).toNat < k → Gj l x iX1_batter d 0 0 50 (Wr (vI (bat W br m st l0 h0 st).1) (fun w2 => w2 = upw w 15 (cO 1 [vR 9, vI br, vI me, vI (bat W br m st l0 h0 st).2]))) 0 0 50 w 6 [some (vR 15), some (vI l0), some (vI h0), some (vI st), some (vI m), some (vI a), some (vI i)] [] := by
    intro k
    induction k with
    | zero => intro _ _ _ _ _ hm; exact absurd hm (Nat.not_lt_zero _)
    | succ k ih6 =>
      intro a i  hi ha hx hm6
      refine gj_il6 dX1_batter_6 ?_
      refine gj_sipush dX1_batter_8 rfl ?_
      refine gj_icmp_ge dX1_batter_11 (by omega) (fun h11 => ?_) (fun h11 => ?_)
      · refine gj_al0 dX1_batter_67 ?_
        refine gj_il5 dX1_batter_68 ?_
        refine gj_pI3 dX1_batter_70 fX1_22 q15 rfl ?_
        refine gj_iconst dX1_batter_73 ?_
        exact gj_iret dX1_batter_74 rfl (wr_i (by rw [← hx, bat_end (by omega)]) (by rw [← hx, bat_end (by omega)]))
      · refine gj_al0 dX1_batter_14 ?_
        refine gj_get dX1_batter_15 fX1_9 q15 rfl rfl ?_
        refine gj_il6 dX1_batter_18 ?_
        refine gj_il1 dX1_batter_20 ?_
        refine gj_cV2r dX1_batter_21 mX1_25 hX5_isWar q9 rfl (by omega) rfl (tWar  (by omega) hW (by omega) (by omega)) ?_
        refine gj_ifB_eq dX1_batter_24 (fun h24 => ?_) (fun h24 => ?_)
        · refine gj_il3 dX1_batter_37 ?_
          refine gj_il5 dX1_batter_38 ?_
          refine gj_il4 dX1_batter_40 ?_
          refine gj_iadd dX1_batter_42 ?_
          refine gj_min dX1_batter_43 mX1_31 (by omega) rfl (by omega) ?_
          refine gj_is5 dX1_batter_46 rfl rfl ?_
          refine gj_il5 dX1_batter_48 ?_
          refine gj_if_gt dX1_batter_50 (by omega) (fun h50 => ?_) (fun h50 => ?_)
          · refine gj_ii6 dX1_batter_61 rfl rfl ?_
            refine gj_goto dX1_batter_64 ?_
            exact ih6 _ _ (by omega) (by omega) (by rw [← hx, bat_s (h := i) (now := a) (nw := min st (a + m)) (by omega) (by rw [if_neg h24]), if_neg (by omega)]) (by omega)
          · refine gj_al0 dX1_batter_53 ?_
            refine gj_iconst dX1_batter_54 ?_
            refine gj_pI3 dX1_batter_55 fX1_22 q15 rfl ?_
            refine gj_il6 dX1_batter_58 ?_
            exact gj_iret dX1_batter_60 rfl (wr_i (by rw [← hx, bat_s (h := i) (now := a) (nw := min st (a + m)) (by omega) (by rw [if_neg h24]), if_pos (by omega)]) (by rw [← hx, bat_s (h := i) (now := a) (nw := min st (a + m)) (by omega) (by rw [if_neg h24]), if_pos (by omega)]))
        · refine gj_il5 dX1_batter_27 ?_
          refine gj_al0 dX1_batter_29 ?_
          refine gj_get dX1_batter_30 fX1_15 q15 rfl rfl ?_
          refine gj_isub dX1_batter_33 ?_
          refine gj_goto dX1_batter_34 ?_
          refine gj_is5 dX1_batter_46 rfl rfl ?_
          refine gj_il5 dX1_batter_48 ?_
          refine gj_if_gt dX1_batter_50 (by omega) (fun h50 => ?_) (fun h50 => ?_)
          · refine gj_ii6 dX1_batter_61 rfl rfl ?_
            refine gj_goto dX1_batter_64 ?_
            exact ih6 _ _ (by omega) (by omega) (by rw [← hx, bat_s (h := i) (now := a) (nw := a - br) (by omega) (by rw [if_pos h24]), if_neg (by omega)]) (by omega)
          · refine gj_al0 dX1_batter_53 ?_
            refine gj_iconst dX1_batter_54 ?_
            refine gj_pI3 dX1_batter_55 fX1_22 q15 rfl ?_
            refine gj_il6 dX1_batter_58 ?_
            exact gj_iret dX1_batter_60 rfl (wr_i (by rw [← hx, bat_s (h := i) (now := a) (nw := a - br) (by omega) (by rw [if_pos h24]), if_pos (by omega)]) (by rw [← hx, bat_s (h := i) (now := a) (nw := a - br) (by omega) (by rw [if_pos h24]), if_pos (by omega)]))
  exact loop6 _ _ _ (by omega) (by omega) rfl (Nat.lt_succ_self _)
