/-! contracts: read, write, copy of the class -/
def ovF (f g : Int → Int) (n : Int) : Int → Int := fun j => if 0 ≤ j ∧ j < n then g j else f j
theorem ovF_0 (f g : Int → Int) : ovF f g 0 = f := by
  funext j
  unfold ovF
  rw [if_neg (by omega)]
theorem ovF_s (f g : Int → Int) {i v : Int} (h : 0 ≤ i) (hv : v = g i) : upf (ovF f g i) i v = ovF f g (i + 1) := by
  funext j
  unfold upf ovF
  by_cases h1 : j = i
  · rw [if_pos h1, if_pos (by omega), hv, h1]
  · rw [if_neg h1]
    by_cases h2 : 0 ≤ j ∧ j < i
    · rw [if_pos h2, if_pos (by omega)]
    · rw [if_neg h2, if_neg (by omega)]
theorem ovF_congr {f g g2 : Int → Int} {n : Int} (h : ∀ j : Int, 0 ≤ j → j < n → g j = g2 j) : ovF f g n = ovF f g2 n := by
  funext j
  unfold ovF
  by_cases c : 0 ≤ j ∧ j < n
  · rw [if_pos c, if_pos c, h j c.1 c.2]
  · rw [if_neg c, if_neg c]
theorem cut_0 (fo : Int) : cutF fo 0 = 0 := by
  unfold cutF
  have h1 : bB 0 = 0 := by decide
  have h2 : bS 0 = 0 := by decide
  rw [h1, h2]
  (repeat' split) <;> rfl
theorem cut_1 (fo : Int) : cutF fo 1 = 1 := by
  unfold cutF
  have h1 : bB 1 = 1 := by decide
  have h2 : bS 1 = 1 := by decide
  rw [h1, h2]
  (repeat' split) <;> rfl
/-- how many of m items may be bells, from the first on -/
def rdB (g : Int → Int) (k : Int) : Bool := !(decide (0 ≤ g k ∧ g k ≤ 23))
def rdK (g : Int → Int) (m : Int) : Int := if fstZ (rdB g) 0 m = -1 then m else fstZ (rdB g) 0 m
theorem rdB_congr {g g2 : Int → Int} {m : Int} (h : ∀ j : Int, 0 ≤ j → j < m → g j = g2 j) : rdK g m = rdK g2 m := by
  have e : fstZ (rdB g) 0 m = fstZ (rdB g2) 0 m := fstZ_congr (fun i a b => by unfold rdB; rw [h i a b])
  unfold rdK
  rw [e]
theorem rdK_R {g : Int → Int} {m : Int} (hm : 0 ≤ m) : 0 ≤ rdK g m ∧ rdK g m ≤ m := by
  unfold rdK
  rcases fstZ_R (p := rdB g) _ 0 m rfl with h | ⟨h1, h2, -, -⟩
  · rw [if_pos h]; omega
  · rw [if_neg (by omega)]; omega
theorem rdK_in {g : Int → Int} {m j : Int} (h0 : 0 ≤ j) (h1 : j < rdK g m) : 0 ≤ g j ∧ g j ≤ 23 := by
  unfold rdK at h1
  have : rdB g j = false := by
    rcases fstZ_R (p := rdB g) _ 0 m rfl with h | ⟨e1, e2, e3, e4⟩
    · rw [if_pos h] at h1
      exact fstZ_none (p := rdB g) _ 0 m rfl h (by omega) j h0 h1
    · rw [if_neg (by omega)] at h1
      exact e4 j h0 h1
  unfold rdB at this
  simpa using this
theorem ru_ov {ru g : Int → Int} {n : Int} (h : RuOK ru) (hg : ∀ j : Int, 0 ≤ j → j < n → 0 ≤ g j ∧ g j ≤ 23) : RuOK (ovF ru g n) := by
  intro j h0 h1
  unfold ovF
  by_cases c : 0 ≤ j ∧ j < n
  · rw [if_pos c]; exact hg j c.1 c.2
  · rw [if_neg c]; exact h j h0 h1
set_option maxRecDepth 20000 in
set_option maxHeartbeats 4000000 in
theorem tRead0 {l : Launch} {x : Cx} {d : Nat} {w : AW} {tx : Int → Int} {by0 : Int} {ru fa fe : Int → Int} {fc lw br me : Int} {mh ml mw : Int → Int} {mn fi : Int} {fm ln : Int → Int} {it : Int → Int → Int}  (hd : 2 ≤ d) (hC : ClassC w tx by0 ru fa fe fc lw br me mh ml mw mn fi fm ln it) : Mt l x iX8_read d 0 0 50 w [vR 0, vI 0] (fun v2 w2 => ((0 ≤ (0 : Int) ∧ (0 : Int) ≤ 3) ∧ fm (0 : Int) ≠ -1 ∧ v2 = some (vI (rdK (it (0 : Int)) (min (ln (0 : Int)) 8))) ∧ ClassC w2 tx by0 (ovF ru (it (0 : Int)) (rdK (it (0 : Int)) (min (ln (0 : Int)) 8))) fa fe fc lw br me mh ml mw mn fi fm ln it ∧ ∀ k : Nat, 32 ≤ k → w2 k = w k) ∨ ((0 ≤ (0 : Int) ∧ (0 : Int) ≤ 3) ∧ fm (0 : Int) = -1 ∧ v2 = some (vI (-11)) ∧ ClassC w2 tx by0 ru fa fe fc lw br me mh ml mw mn 1 fm ln it ∧ ∀ k : Nat, 32 ≤ k → w2 k = w k) ∨ (¬ (0 ≤ (0 : Int) ∧ (0 : Int) ≤ 3) ∧ v2 = some (vI (-2)) ∧ w2 = w)) := by
  have hC0 := hC
  obtain ⟨q0, ⟨on, ot, ho, wy, nu, fl, ⟨q1, q2, q3, q4, q5, q6⟩, hRd⟩, ⟨fd, ⟨q9, q10, q11⟩, ⟨q7, q8⟩, hO⟩, ⟨la, be, ne, q12, q13, q14⟩, ⟨sl, q15⟩, hbm, ⟨go, st, bn, B, ra, rb, q16, q17, q18⟩, ⟨⟨q19, q20, q21, q22⟩, hMm⟩, hSh⟩ := hC
  have hW : WarC w fa (warB lw fa ru fe fc) := ⟨fe, ru, fc, fd, lw, ⟨q9, q10, q11⟩, ⟨q7, q8⟩, hO, rfl⟩
  have hE := hRd.ed
  have hM := hRd.mat
  obtain ⟨⟨sf, q23, s0, s1, s2, s3⟩, ⟨fo0, le0, lo0, g0, q24, q25, r0, d0⟩, ⟨fo1, le1, lo1, g1, q26, q27, r1, d1⟩, ⟨fo2, le2, lo2, g2, q28, q29, r2, d2⟩, ⟨fo3, le3, lo3, g3, q30, q31, r3, d3⟩⟩ := hSh
  refine Mt.of (L0 := [some (vR 0), some (vI 0), none, none, none]) rfl rfl rfl ?_
  refine gj_il1 dX8_read_0 ?_
  refine gj_cS1r dX8_read_1 mX8_120 hX8_isSheet (by omega) rfl (tX8_isSheet  (by omega) (by omega)) ?_
  refine gj_ifB_ne dX8_read_4 (fun h4 => ?_) (fun h4 => ?_)
  · refine gj_al0 dX8_read_10 ?_
    refine gj_get dX8_read_11 fX8_66 q0 rfl rfl ?_
    refine gj_il1 dX8_read_14 ?_
    refine gj_aald dX8_read_15 q23 rfl rfl (by omega) s0 ?_
    refine gj_get dX8_read_16 fX8_123 q24 rfl rfl ?_
    refine gj_if_eq dX8_read_19 (by omega) (fun h19 => ?_) (fun h19 => ?_)
    · obtain ⟨e0, y0, m0, n0, t0, v0⟩ : lo0 = 0 ∧ fm 0 = fo0 ∧ (0 ≤ fo0 ∧ fo0 ≤ 2) ∧ ln 0 = le0 ∧ (0 ≤ le0 ∧ le0 ≤ 60) ∧ ∀ j : Int, 0 ≤ j → j < le0 → g0 j = it 0 j ∧ R32 (g0 j) := d0.resolve_left (fun z => absurd z.1 (by omega))
      refine gj_al0 dX8_read_28 ?_
      refine gj_get dX8_read_29 fX8_66 q0 rfl rfl ?_
      refine gj_il1 dX8_read_32 ?_
      refine gj_aald dX8_read_33 q23 rfl rfl (by omega) s0 ?_
      refine gj_as2 dX8_read_34 rfl rfl ?_
      refine gj_al2 dX8_read_35 ?_
      refine gj_get dX8_read_36 fX8_130 q24 rfl rfl ?_
      refine gj_bipush dX8_read_39 rfl ?_
      refine gj_min dX8_read_41 mX8_133 (by omega) rfl (by omega) ?_
      refine gj_is3 dX8_read_44 rfl rfl ?_
      refine gj_iconst dX8_read_45 ?_
      refine gj_is4 dX8_read_46 rfl rfl ?_
      refine gj_eq rfl rfl (show w = upw w 8 (cI 8 (ovF ru g0 0)) from (by rw [ovF_0, upw_same q8])) ?_
      have loop48 : ∀ (k : Nat), ∀ (c : Int), (0 ≤ c ∧ c ≤ min le0 8) → (fstZ (rdB g0) c (min le0 8) = fstZ (rdB g0) 0 (min le0 8)) → (∀ j : Int, 0 ≤ j → j < c → 0 ≤ g0 j ∧ g0 j ≤ 23) → (min le0 8 - c).toNat < k → Gj l x iX8_read d 0 0 50 (fun v2 w2 => ((0 ≤ (0 : Int) ∧ (0 : Int) ≤ 3) ∧ fm (0 : Int) ≠ -1 ∧ v2 = some (vI (rdK (it (0 : Int)) (min (ln (0 : Int)) 8))) ∧ ClassC w2 tx by0 (ovF ru (it (0 : Int)) (rdK (it (0 : Int)) (min (ln (0 : Int)) 8))) fa fe fc lw br me mh ml mw mn fi fm ln it ∧ ∀ k : Nat, 32 ≤ k → w2 k = w k) ∨ ((0 ≤ (0 : Int) ∧ (0 : Int) ≤ 3) ∧ fm (0 : Int) = -1 ∧ v2 = some (vI (-11)) ∧ ClassC w2 tx by0 ru fa fe fc lw br me mh ml mw mn 1 fm ln it ∧ ∀ k : Nat, 32 ≤ k → w2 k = w k) ∨ (¬ (0 ≤ (0 : Int) ∧ (0 : Int) ≤ 3) ∧ v2 = some (vI (-2)) ∧ w2 = w)) 0 0 50 (upw w 8 (cI 8 (ovF ru g0 c))) 48 [some (vR 0), some (vI 0), some (vR 24), some (vI (min le0 8)), some (vI c)] [] := by
        intro k
        induction k with
        | zero => intro _ _ _ _ hm; exact absurd hm (Nat.not_lt_zero _)
        | succ k ih48 =>
          intro c  hi ha hg hm48
          refine gj_il4 dX8_read_48 ?_
          refine gj_il3 dX8_read_50 ?_
          refine gj_icmp_ge dX8_read_51 (by omega) (fun h51 => ?_) (fun h51 => ?_)
          · refine gj_il4 dX8_read_92 ?_
            exact gj_iret dX8_read_94 rfl (Or.inl ⟨by omega, by omega, by rw [(show rdK (it 0) (min (ln 0) 8) = c from by rw [n0, ← rdB_congr (g := g0) (fun j g8 g9 => (v0 j g8 (by omega)).1)]; unfold rdK; rw [← ha, fstZ_end (by omega), if_pos rfl, show min le0 8 = c by omega])], by rw [(show rdK (it 0) (min (ln 0) 8) = c from by rw [n0, ← rdB_congr (g := g0) (fun j g8 g9 => (v0 j g8 (by omega)).1)]; unfold rdK; rw [← ha, fstZ_end (by omega), if_pos rfl, show min le0 8 = c by omega]), ovF_congr (g := it 0) (g2 := g0) (fun j g8 g9 => (v0 j g8 (by omega)).1.symm)]; exact ⟨⟨(upw_o (by decide) q0), ⟨_, _, _, _, _, _, ⟨(upw_o (by decide) q1), (upw_o (by decide) q2), (upw_o (by decide) q3), (upw_o (by decide) q4), (upw_o (by decide) q5), (upw_o (by decide) q6)⟩, hRd⟩, ⟨_, ⟨(upw_o (by decide) q9), (upw_o (by decide) q10), (upw_o (by decide) q11)⟩, ⟨(upw_o (by decide) q7), upw_s⟩, ⟨hO.1, ru_ov hO.2.1 hg, hO.2.2⟩⟩, ⟨_, _, _, (upw_o (by decide) q12), (upw_o (by decide) q13), (upw_o (by decide) q14)⟩, ⟨_, (upw_o (by decide) q15)⟩, hbm, ⟨_, _, _, B, _, _, (upw_o (by decide) q16), (upw_o (by decide) q17), (upw_o (by decide) q18)⟩, ⟨⟨(upw_o (by decide) q19), (upw_o (by decide) q20), (upw_o (by decide) q21), (upw_o (by decide) q22)⟩, hMm⟩, ⟨⟨_, (upw_o (by decide) q23), s0, s1, s2, s3⟩, ⟨_, _, _, _, (upw_o (by decide) q24), (upw_o (by decide) q25), r0, d0⟩, ⟨_, _, _, _, (upw_o (by decide) q26), (upw_o (by decide) q27), r1, d1⟩, ⟨_, _, _, _, (upw_o (by decide) q28), (upw_o (by decide) q29), r2, d2⟩, ⟨_, _, _, _, (upw_o (by decide) q30), (upw_o (by decide) q31), r3, d3⟩⟩⟩, (fun (k : Nat) (hk : 32 ≤ k) => (upw_o (by omega) rfl : upw w 8 _ k = w k))⟩⟩)
          · refine gj_al2 dX8_read_54 ?_
            refine gj_get dX8_read_55 fX8_138 (upw_o (by decide) q24) rfl rfl ?_
            refine gj_il4 dX8_read_58 ?_
            refine gj_iald dX8_read_60 (upw_o (by decide) q25) rfl rfl (by omega) ?_
            have g7 := (v0 c hi.1 (by omega)).2
            refine gj_bipush dX8_read_61 rfl ?_
            refine gj_cS2r dX8_read_63 mX8_75 hX8_upTo (by omega) rfl (tX8_upTo  (by omega) (by omega) (by omega)) ?_
            refine gj_ifB_eq dX8_read_66 (fun h66 => ?_) (fun h66 => ?_)
            · refine gj_il4 dX8_read_92 ?_
              exact gj_iret dX8_read_94 rfl (Or.inl ⟨by omega, by omega, by rw [(show rdK (it 0) (min (ln 0) 8) = c from by rw [n0, ← rdB_congr (g := g0) (fun j g8 g9 => (v0 j g8 (by omega)).1)]; unfold rdK; rw [← ha, fstZ_yes (by omega) (by unfold rdB; rw [decide_eq_false h66]; rfl), if_neg (by omega)])], by rw [(show rdK (it 0) (min (ln 0) 8) = c from by rw [n0, ← rdB_congr (g := g0) (fun j g8 g9 => (v0 j g8 (by omega)).1)]; unfold rdK; rw [← ha, fstZ_yes (by omega) (by unfold rdB; rw [decide_eq_false h66]; rfl), if_neg (by omega)]), ovF_congr (g := it 0) (g2 := g0) (fun j g8 g9 => (v0 j g8 (by omega)).1.symm)]; exact ⟨⟨(upw_o (by decide) q0), ⟨_, _, _, _, _, _, ⟨(upw_o (by decide) q1), (upw_o (by decide) q2), (upw_o (by decide) q3), (upw_o (by decide) q4), (upw_o (by decide) q5), (upw_o (by decide) q6)⟩, hRd⟩, ⟨_, ⟨(upw_o (by decide) q9), (upw_o (by decide) q10), (upw_o (by decide) q11)⟩, ⟨(upw_o (by decide) q7), upw_s⟩, ⟨hO.1, ru_ov hO.2.1 hg, hO.2.2⟩⟩, ⟨_, _, _, (upw_o (by decide) q12), (upw_o (by decide) q13), (upw_o (by decide) q14)⟩, ⟨_, (upw_o (by decide) q15)⟩, hbm, ⟨_, _, _, B, _, _, (upw_o (by decide) q16), (upw_o (by decide) q17), (upw_o (by decide) q18)⟩, ⟨⟨(upw_o (by decide) q19), (upw_o (by decide) q20), (upw_o (by decide) q21), (upw_o (by decide) q22)⟩, hMm⟩, ⟨⟨_, (upw_o (by decide) q23), s0, s1, s2, s3⟩, ⟨_, _, _, _, (upw_o (by decide) q24), (upw_o (by decide) q25), r0, d0⟩, ⟨_, _, _, _, (upw_o (by decide) q26), (upw_o (by decide) q27), r1, d1⟩, ⟨_, _, _, _, (upw_o (by decide) q28), (upw_o (by decide) q29), r2, d2⟩, ⟨_, _, _, _, (upw_o (by decide) q30), (upw_o (by decide) q31), r3, d3⟩⟩⟩, (fun (k : Nat) (hk : 32 ≤ k) => (upw_o (by omega) rfl : upw w 8 _ k = w k))⟩⟩)
            · refine gj_al0 dX8_read_69 ?_
              refine gj_get dX8_read_70 fX8_19 (upw_o (by decide) q0) rfl rfl ?_
              refine gj_il4 dX8_read_73 ?_
              refine gj_al2 dX8_read_75 ?_
              refine gj_get dX8_read_76 fX8_138 (upw_o (by decide) q24) rfl rfl ?_
              refine gj_il4 dX8_read_79 ?_
              refine gj_iald dX8_read_81 (upw_o (by decide) q25) rfl rfl (by omega) ?_
              refine gj_cV2w dX8_read_82 mX8_118 hX0_put (upw_o (by decide) q7) rfl (by omega) rfl (tX0_put  (by omega) ⟨(upw_o (by decide) q7), upw_s⟩ (by omega)) (fun w82 P82 => ?_)
              obtain rfl := P82
              refine gj_popI dX8_read_85 ?_
              refine gj_ii4 dX8_read_86 rfl rfl ?_
              refine gj_goto dX8_read_89 ?_
              rw [upw_upw, ovF_s _ _ hi.1 rfl]
              exact ih48 _ (by omega) (by rw [← ha, ← fstZ_no (by omega) (by unfold rdB; simp [h66])]) (fun j g8 g9 => by by_cases e : j = c; (rw [e]; exact h66); (exact hg j g8 (by omega))) (by omega)
      exact loop48 _ 0 (by omega) rfl (fun j g8 g9 => absurd g9 (by omega)) (Nat.lt_succ_self _)
    · have e0 : lo0 = 1 ∧ fm 0 = -1 := d0.resolve_right (fun z => absurd z.1 (by omega))
      refine gj_al0 dX8_read_22 ?_
      refine gj_iconst dX8_read_23 ?_
      refine gj_cV1w dX8_read_24 mX8_127 hX8_found q0 rfl (by omega) rfl (tX8_found  (by omega) q0) (fun w24 P24 => ?_)
      obtain rfl := P24
      exact gj_iret dX8_read_27 rfl (Or.inr (Or.inl ⟨by omega, e0.2, rfl, ⟨⟨upw_s, ⟨_, _, _, _, _, _, ⟨(upw_o (by decide) q1), (upw_o (by decide) q2), (upw_o (by decide) q3), (upw_o (by decide) q4), (upw_o (by decide) q5), (upw_o (by decide) q6)⟩, hRd⟩, ⟨_, ⟨(upw_o (by decide) q9), (upw_o (by decide) q10), (upw_o (by decide) q11)⟩, ⟨(upw_o (by decide) q7), (upw_o (by decide) q8)⟩, hO⟩, ⟨_, _, _, (upw_o (by decide) q12), (upw_o (by decide) q13), (upw_o (by decide) q14)⟩, ⟨_, (upw_o (by decide) q15)⟩, hbm, ⟨_, _, _, B, _, _, (upw_o (by decide) q16), (upw_o (by decide) q17), (upw_o (by decide) q18)⟩, ⟨⟨(upw_o (by decide) q19), (upw_o (by decide) q20), (upw_o (by decide) q21), (upw_o (by decide) q22)⟩, hMm⟩, ⟨⟨_, (upw_o (by decide) q23), s0, s1, s2, s3⟩, ⟨_, _, _, _, (upw_o (by decide) q24), (upw_o (by decide) q25), r0, d0⟩, ⟨_, _, _, _, (upw_o (by decide) q26), (upw_o (by decide) q27), r1, d1⟩, ⟨_, _, _, _, (upw_o (by decide) q28), (upw_o (by decide) q29), r2, d2⟩, ⟨_, _, _, _, (upw_o (by decide) q30), (upw_o (by decide) q31), r3, d3⟩⟩⟩, (fun k hk => upw_o (by omega) ((fun (k : Nat) (_ : 32 ≤ k) => rfl) k hk))⟩⟩))
  · exact absurd (by omega) h4
set_option maxRecDepth 20000 in
set_option maxHeartbeats 4000000 in
theorem tRead1 {l : Launch} {x : Cx} {d : Nat} {w : AW} {tx : Int → Int} {by0 : Int} {ru fa fe : Int → Int} {fc lw br me : Int} {mh ml mw : Int → Int} {mn fi : Int} {fm ln : Int → Int} {it : Int → Int → Int}  (hd : 2 ≤ d) (hC : ClassC w tx by0 ru fa fe fc lw br me mh ml mw mn fi fm ln it) : Mt l x iX8_read d 0 0 50 w [vR 0, vI 1] (fun v2 w2 => ((0 ≤ (1 : Int) ∧ (1 : Int) ≤ 3) ∧ fm (1 : Int) ≠ -1 ∧ v2 = some (vI (rdK (it (1 : Int)) (min (ln (1 : Int)) 8))) ∧ ClassC w2 tx by0 (ovF ru (it (1 : Int)) (rdK (it (1 : Int)) (min (ln (1 : Int)) 8))) fa fe fc lw br me mh ml mw mn fi fm ln it ∧ ∀ k : Nat, 32 ≤ k → w2 k = w k) ∨ ((0 ≤ (1 : Int) ∧ (1 : Int) ≤ 3) ∧ fm (1 : Int) = -1 ∧ v2 = some (vI (-11)) ∧ ClassC w2 tx by0 ru fa fe fc lw br me mh ml mw mn 1 fm ln it ∧ ∀ k : Nat, 32 ≤ k → w2 k = w k) ∨ (¬ (0 ≤ (1 : Int) ∧ (1 : Int) ≤ 3) ∧ v2 = some (vI (-2)) ∧ w2 = w)) := by
  have hC0 := hC
  obtain ⟨q0, ⟨on, ot, ho, wy, nu, fl, ⟨q1, q2, q3, q4, q5, q6⟩, hRd⟩, ⟨fd, ⟨q9, q10, q11⟩, ⟨q7, q8⟩, hO⟩, ⟨la, be, ne, q12, q13, q14⟩, ⟨sl, q15⟩, hbm, ⟨go, st, bn, B, ra, rb, q16, q17, q18⟩, ⟨⟨q19, q20, q21, q22⟩, hMm⟩, hSh⟩ := hC
  have hW : WarC w fa (warB lw fa ru fe fc) := ⟨fe, ru, fc, fd, lw, ⟨q9, q10, q11⟩, ⟨q7, q8⟩, hO, rfl⟩
  have hE := hRd.ed
  have hM := hRd.mat
  obtain ⟨⟨sf, q23, s0, s1, s2, s3⟩, ⟨fo0, le0, lo0, g0, q24, q25, r0, d0⟩, ⟨fo1, le1, lo1, g1, q26, q27, r1, d1⟩, ⟨fo2, le2, lo2, g2, q28, q29, r2, d2⟩, ⟨fo3, le3, lo3, g3, q30, q31, r3, d3⟩⟩ := hSh
  refine Mt.of (L0 := [some (vR 0), some (vI 1), none, none, none]) rfl rfl rfl ?_
  refine gj_il1 dX8_read_0 ?_
  refine gj_cS1r dX8_read_1 mX8_120 hX8_isSheet (by omega) rfl (tX8_isSheet  (by omega) (by omega)) ?_
  refine gj_ifB_ne dX8_read_4 (fun h4 => ?_) (fun h4 => ?_)
  · refine gj_al0 dX8_read_10 ?_
    refine gj_get dX8_read_11 fX8_66 q0 rfl rfl ?_
    refine gj_il1 dX8_read_14 ?_
    refine gj_aald dX8_read_15 q23 rfl rfl (by omega) s1 ?_
    refine gj_get dX8_read_16 fX8_123 q26 rfl rfl ?_
    refine gj_if_eq dX8_read_19 (by omega) (fun h19 => ?_) (fun h19 => ?_)
    · obtain ⟨e1, y1, m1, n1, t1, v1⟩ : lo1 = 0 ∧ fm 1 = fo1 ∧ (0 ≤ fo1 ∧ fo1 ≤ 2) ∧ ln 1 = le1 ∧ (0 ≤ le1 ∧ le1 ≤ 60) ∧ ∀ j : Int, 0 ≤ j → j < le1 → g1 j = it 1 j ∧ R32 (g1 j) := d1.resolve_left (fun z => absurd z.1 (by omega))
      refine gj_al0 dX8_read_28 ?_
      refine gj_get dX8_read_29 fX8_66 q0 rfl rfl ?_
      refine gj_il1 dX8_read_32 ?_
      refine gj_aald dX8_read_33 q23 rfl rfl (by omega) s1 ?_
      refine gj_as2 dX8_read_34 rfl rfl ?_
      refine gj_al2 dX8_read_35 ?_
      refine gj_get dX8_read_36 fX8_130 q26 rfl rfl ?_
      refine gj_bipush dX8_read_39 rfl ?_
      refine gj_min dX8_read_41 mX8_133 (by omega) rfl (by omega) ?_
      refine gj_is3 dX8_read_44 rfl rfl ?_
      refine gj_iconst dX8_read_45 ?_
      refine gj_is4 dX8_read_46 rfl rfl ?_
      refine gj_eq rfl rfl (show w = upw w 8 (cI 8 (ovF ru g1 0)) from (by rw [ovF_0, upw_same q8])) ?_
      have loop48 : ∀ (k : Nat), ∀ (c : Int), (0 ≤ c ∧ c ≤ min le1 8) → (fstZ (rdB g1) c (min le1 8) = fstZ (rdB g1) 0 (min le1 8)) → (∀ j : Int, 0 ≤ j → j < c → 0 ≤ g1 j ∧ g1 j ≤ 23) → (min le1 8 - c).toNat < k → Gj l x iX8_read d 0 0 50 (fun v2 w2 => ((0 ≤ (1 : Int) ∧ (1 : Int) ≤ 3) ∧ fm (1 : Int) ≠ -1 ∧ v2 = some (vI (rdK (it (1 : Int)) (min (ln (1 : Int)) 8))) ∧ ClassC w2 tx by0 (ovF ru (it (1 : Int)) (rdK (it (1 : Int)) (min (ln (1 : Int)) 8))) fa fe fc lw br me mh ml mw mn fi fm ln it ∧ ∀ k : Nat, 32 ≤ k → w2 k = w k) ∨ ((0 ≤ (1 : Int) ∧ (1 : Int) ≤ 3) ∧ fm (1 : Int) = -1 ∧ v2 = some (vI (-11)) ∧ ClassC w2 tx by0 ru fa fe fc lw br me mh ml mw mn 1 fm ln it ∧ ∀ k : Nat, 32 ≤ k → w2 k = w k) ∨ (¬ (0 ≤ (1 : Int) ∧ (1 : Int) ≤ 3) ∧ v2 = some (vI (-2)) ∧ w2 = w)) 0 0 50 (upw w 8 (cI 8 (ovF ru g1 c))) 48 [some (vR 0), some (vI 1), some (vR 26), some (vI (min le1 8)), some (vI c)] [] := by
        intro k
        induction k with
        | zero => intro _ _ _ _ hm; exact absurd hm (Nat.not_lt_zero _)
        | succ k ih48 =>
          intro c  hi ha hg hm48
          refine gj_il4 dX8_read_48 ?_
          refine gj_il3 dX8_read_50 ?_
          refine gj_icmp_ge dX8_read_51 (by omega) (fun h51 => ?_) (fun h51 => ?_)
          · refine gj_il4 dX8_read_92 ?_
            exact gj_iret dX8_read_94 rfl (Or.inl ⟨by omega, by omega, by rw [(show rdK (it 1) (min (ln 1) 8) = c from by rw [n1, ← rdB_congr (g := g1) (fun j g8 g9 => (v1 j g8 (by omega)).1)]; unfold rdK; rw [← ha, fstZ_end (by omega), if_pos rfl, show min le1 8 = c by omega])], by rw [(show rdK (it 1) (min (ln 1) 8) = c from by rw [n1, ← rdB_congr (g := g1) (fun j g8 g9 => (v1 j g8 (by omega)).1)]; unfold rdK; rw [← ha, fstZ_end (by omega), if_pos rfl, show min le1 8 = c by omega]), ovF_congr (g := it 1) (g2 := g1) (fun j g8 g9 => (v1 j g8 (by omega)).1.symm)]; exact ⟨⟨(upw_o (by decide) q0), ⟨_, _, _, _, _, _, ⟨(upw_o (by decide) q1), (upw_o (by decide) q2), (upw_o (by decide) q3), (upw_o (by decide) q4), (upw_o (by decide) q5), (upw_o (by decide) q6)⟩, hRd⟩, ⟨_, ⟨(upw_o (by decide) q9), (upw_o (by decide) q10), (upw_o (by decide) q11)⟩, ⟨(upw_o (by decide) q7), upw_s⟩, ⟨hO.1, ru_ov hO.2.1 hg, hO.2.2⟩⟩, ⟨_, _, _, (upw_o (by decide) q12), (upw_o (by decide) q13), (upw_o (by decide) q14)⟩, ⟨_, (upw_o (by decide) q15)⟩, hbm, ⟨_, _, _, B, _, _, (upw_o (by decide) q16), (upw_o (by decide) q17), (upw_o (by decide) q18)⟩, ⟨⟨(upw_o (by decide) q19), (upw_o (by decide) q20), (upw_o (by decide) q21), (upw_o (by decide) q22)⟩, hMm⟩, ⟨⟨_, (upw_o (by decide) q23), s0, s1, s2, s3⟩, ⟨_, _, _, _, (upw_o (by decide) q24), (upw_o (by decide) q25), r0, d0⟩, ⟨_, _, _, _, (upw_o (by decide) q26), (upw_o (by decide) q27), r1, d1⟩, ⟨_, _, _, _, (upw_o (by decide) q28), (upw_o (by decide) q29), r2, d2⟩, ⟨_, _, _, _, (upw_o (by decide) q30), (upw_o (by decide) q31), r3, d3⟩⟩⟩, (fun (k : Nat) (hk : 32 ≤ k) => (upw_o (by omega) rfl : upw w 8 _ k = w k))⟩⟩)
          · refine gj_al2 dX8_read_54 ?_
            refine gj_get dX8_read_55 fX8_138 (upw_o (by decide) q26) rfl rfl ?_
            refine gj_il4 dX8_read_58 ?_
            refine gj_iald dX8_read_60 (upw_o (by decide) q27) rfl rfl (by omega) ?_
            have g7 := (v1 c hi.1 (by omega)).2
            refine gj_bipush dX8_read_61 rfl ?_
            refine gj_cS2r dX8_read_63 mX8_75 hX8_upTo (by omega) rfl (tX8_upTo  (by omega) (by omega) (by omega)) ?_
            refine gj_ifB_eq dX8_read_66 (fun h66 => ?_) (fun h66 => ?_)
            · refine gj_il4 dX8_read_92 ?_
              exact gj_iret dX8_read_94 rfl (Or.inl ⟨by omega, by omega, by rw [(show rdK (it 1) (min (ln 1) 8) = c from by rw [n1, ← rdB_congr (g := g1) (fun j g8 g9 => (v1 j g8 (by omega)).1)]; unfold rdK; rw [← ha, fstZ_yes (by omega) (by unfold rdB; rw [decide_eq_false h66]; rfl), if_neg (by omega)])], by rw [(show rdK (it 1) (min (ln 1) 8) = c from by rw [n1, ← rdB_congr (g := g1) (fun j g8 g9 => (v1 j g8 (by omega)).1)]; unfold rdK; rw [← ha, fstZ_yes (by omega) (by unfold rdB; rw [decide_eq_false h66]; rfl), if_neg (by omega)]), ovF_congr (g := it 1) (g2 := g1) (fun j g8 g9 => (v1 j g8 (by omega)).1.symm)]; exact ⟨⟨(upw_o (by decide) q0), ⟨_, _, _, _, _, _, ⟨(upw_o (by decide) q1), (upw_o (by decide) q2), (upw_o (by decide) q3), (upw_o (by decide) q4), (upw_o (by decide) q5), (upw_o (by decide) q6)⟩, hRd⟩, ⟨_, ⟨(upw_o (by decide) q9), (upw_o (by decide) q10), (upw_o (by decide) q11)⟩, ⟨(upw_o (by decide) q7), upw_s⟩, ⟨hO.1, ru_ov hO.2.1 hg, hO.2.2⟩⟩, ⟨_, _, _, (upw_o (by decide) q12), (upw_o (by decide) q13), (upw_o (by decide) q14)⟩, ⟨_, (upw_o (by decide) q15)⟩, hbm, ⟨_, _, _, B, _, _, (upw_o (by decide) q16), (upw_o (by decide) q17), (upw_o (by decide) q18)⟩, ⟨⟨(upw_o (by decide) q19), (upw_o (by decide) q20), (upw_o (by decide) q21), (upw_o (by decide) q22)⟩, hMm⟩, ⟨⟨_, (upw_o (by decide) q23), s0, s1, s2, s3⟩, ⟨_, _, _, _, (upw_o (by decide) q24), (upw_o (by decide) q25), r0, d0⟩, ⟨_, _, _, _, (upw_o (by decide) q26), (upw_o (by decide) q27), r1, d1⟩, ⟨_, _, _, _, (upw_o (by decide) q28), (upw_o (by decide) q29), r2, d2⟩, ⟨_, _, _, _, (upw_o (by decide) q30), (upw_o (by decide) q31), r3, d3⟩⟩⟩, (fun (k : Nat) (hk : 32 ≤ k) => (upw_o (by omega) rfl : upw w 8 _ k = w k))⟩⟩)
            · refine gj_al0 dX8_read_69 ?_
              refine gj_get dX8_read_70 fX8_19 (upw_o (by decide) q0) rfl rfl ?_
              refine gj_il4 dX8_read_73 ?_
              refine gj_al2 dX8_read_75 ?_
              refine gj_get dX8_read_76 fX8_138 (upw_o (by decide) q26) rfl rfl ?_
              refine gj_il4 dX8_read_79 ?_
              refine gj_iald dX8_read_81 (upw_o (by decide) q27) rfl rfl (by omega) ?_
              refine gj_cV2w dX8_read_82 mX8_118 hX0_put (upw_o (by decide) q7) rfl (by omega) rfl (tX0_put  (by omega) ⟨(upw_o (by decide) q7), upw_s⟩ (by omega)) (fun w82 P82 => ?_)
              obtain rfl := P82
              refine gj_popI dX8_read_85 ?_
              refine gj_ii4 dX8_read_86 rfl rfl ?_
              refine gj_goto dX8_read_89 ?_
              rw [upw_upw, ovF_s _ _ hi.1 rfl]
              exact ih48 _ (by omega) (by rw [← ha, ← fstZ_no (by omega) (by unfold rdB; simp [h66])]) (fun j g8 g9 => by by_cases e : j = c; (rw [e]; exact h66); (exact hg j g8 (by omega))) (by omega)
      exact loop48 _ 0 (by omega) rfl (fun j g8 g9 => absurd g9 (by omega)) (Nat.lt_succ_self _)
    · have e1 : lo1 = 1 ∧ fm 1 = -1 := d1.resolve_right (fun z => absurd z.1 (by omega))
      refine gj_al0 dX8_read_22 ?_
      refine gj_iconst dX8_read_23 ?_
      refine gj_cV1w dX8_read_24 mX8_127 hX8_found q0 rfl (by omega) rfl (tX8_found  (by omega) q0) (fun w24 P24 => ?_)
      obtain rfl := P24
      exact gj_iret dX8_read_27 rfl (Or.inr (Or.inl ⟨by omega, e1.2, rfl, ⟨⟨upw_s, ⟨_, _, _, _, _, _, ⟨(upw_o (by decide) q1), (upw_o (by decide) q2), (upw_o (by decide) q3), (upw_o (by decide) q4), (upw_o (by decide) q5), (upw_o (by decide) q6)⟩, hRd⟩, ⟨_, ⟨(upw_o (by decide) q9), (upw_o (by decide) q10), (upw_o (by decide) q11)⟩, ⟨(upw_o (by decide) q7), (upw_o (by decide) q8)⟩, hO⟩, ⟨_, _, _, (upw_o (by decide) q12), (upw_o (by decide) q13), (upw_o (by decide) q14)⟩, ⟨_, (upw_o (by decide) q15)⟩, hbm, ⟨_, _, _, B, _, _, (upw_o (by decide) q16), (upw_o (by decide) q17), (upw_o (by decide) q18)⟩, ⟨⟨(upw_o (by decide) q19), (upw_o (by decide) q20), (upw_o (by decide) q21), (upw_o (by decide) q22)⟩, hMm⟩, ⟨⟨_, (upw_o (by decide) q23), s0, s1, s2, s3⟩, ⟨_, _, _, _, (upw_o (by decide) q24), (upw_o (by decide) q25), r0, d0⟩, ⟨_, _, _, _, (upw_o (by decide) q26), (upw_o (by decide) q27), r1, d1⟩, ⟨_, _, _, _, (upw_o (by decide) q28), (upw_o (by decide) q29), r2, d2⟩, ⟨_, _, _, _, (upw_o (by decide) q30), (upw_o (by decide) q31), r3, d3⟩⟩⟩, (fun k hk => upw_o (by omega) ((fun (k : Nat) (_ : 32 ≤ k) => rfl) k hk))⟩⟩))
  · exact absurd (by omega) h4
set_option maxRecDepth 20000 in
set_option maxHeartbeats 4000000 in
theorem tRead2 {l : Launch} {x : Cx} {d : Nat} {w : AW} {tx : Int → Int} {by0 : Int} {ru fa fe : Int → Int} {fc lw br me : Int} {mh ml mw : Int → Int} {mn fi : Int} {fm ln : Int → Int} {it : Int → Int → Int}  (hd : 2 ≤ d) (hC : ClassC w tx by0 ru fa fe fc lw br me mh ml mw mn fi fm ln it) : Mt l x iX8_read d 0 0 50 w [vR 0, vI 2] (fun v2 w2 => ((0 ≤ (2 : Int) ∧ (2 : Int) ≤ 3) ∧ fm (2 : Int) ≠ -1 ∧ v2 = some (vI (rdK (it (2 : Int)) (min (ln (2 : Int)) 8))) ∧ ClassC w2 tx by0 (ovF ru (it (2 : Int)) (rdK (it (2 : Int)) (min (ln (2 : Int)) 8))) fa fe fc lw br me mh ml mw mn fi fm ln it ∧ ∀ k : Nat, 32 ≤ k → w2 k = w k) ∨ ((0 ≤ (2 : Int) ∧ (2 : Int) ≤ 3) ∧ fm (2 : Int) = -1 ∧ v2 = some (vI (-11)) ∧ ClassC w2 tx by0 ru fa fe fc lw br me mh ml mw mn 1 fm ln it ∧ ∀ k : Nat, 32 ≤ k → w2 k = w k) ∨ (¬ (0 ≤ (2 : Int) ∧ (2 : Int) ≤ 3) ∧ v2 = some (vI (-2)) ∧ w2 = w)) := by
  have hC0 := hC
  obtain ⟨q0, ⟨on, ot, ho, wy, nu, fl, ⟨q1, q2, q3, q4, q5, q6⟩, hRd⟩, ⟨fd, ⟨q9, q10, q11⟩, ⟨q7, q8⟩, hO⟩, ⟨la, be, ne, q12, q13, q14⟩, ⟨sl, q15⟩, hbm, ⟨go, st, bn, B, ra, rb, q16, q17, q18⟩, ⟨⟨q19, q20, q21, q22⟩, hMm⟩, hSh⟩ := hC
  have hW : WarC w fa (warB lw fa ru fe fc) := ⟨fe, ru, fc, fd, lw, ⟨q9, q10, q11⟩, ⟨q7, q8⟩, hO, rfl⟩
  have hE := hRd.ed
  have hM := hRd.mat
  obtain ⟨⟨sf, q23, s0, s1, s2, s3⟩, ⟨fo0, le0, lo0, g0, q24, q25, r0, d0⟩, ⟨fo1, le1, lo1, g1, q26, q27, r1, d1⟩, ⟨fo2, le2, lo2, g2, q28, q29, r2, d2⟩, ⟨fo3, le3, lo3, g3, q30, q31, r3, d3⟩⟩ := hSh
  refine Mt.of (L0 := [some (vR 0), some (vI 2), none, none, none]) rfl rfl rfl ?_
  refine gj_il1 dX8_read_0 ?_
  refine gj_cS1r dX8_read_1 mX8_120 hX8_isSheet (by omega) rfl (tX8_isSheet  (by omega) (by omega)) ?_
  refine gj_ifB_ne dX8_read_4 (fun h4 => ?_) (fun h4 => ?_)
  · refine gj_al0 dX8_read_10 ?_
    refine gj_get dX8_read_11 fX8_66 q0 rfl rfl ?_
    refine gj_il1 dX8_read_14 ?_
    refine gj_aald dX8_read_15 q23 rfl rfl (by omega) s2 ?_
    refine gj_get dX8_read_16 fX8_123 q28 rfl rfl ?_
    refine gj_if_eq dX8_read_19 (by omega) (fun h19 => ?_) (fun h19 => ?_)
    · obtain ⟨e2, y2, m2, n2, t2, v2⟩ : lo2 = 0 ∧ fm 2 = fo2 ∧ (0 ≤ fo2 ∧ fo2 ≤ 2) ∧ ln 2 = le2 ∧ (0 ≤ le2 ∧ le2 ≤ 60) ∧ ∀ j : Int, 0 ≤ j → j < le2 → g2 j = it 2 j ∧ R32 (g2 j) := d2.resolve_left (fun z => absurd z.1 (by omega))
      refine gj_al0 dX8_read_28 ?_
      refine gj_get dX8_read_29 fX8_66 q0 rfl rfl ?_
      refine gj_il1 dX8_read_32 ?_
      refine gj_aald dX8_read_33 q23 rfl rfl (by omega) s2 ?_
      refine gj_as2 dX8_read_34 rfl rfl ?_
      refine gj_al2 dX8_read_35 ?_
      refine gj_get dX8_read_36 fX8_130 q28 rfl rfl ?_
      refine gj_bipush dX8_read_39 rfl ?_
      refine gj_min dX8_read_41 mX8_133 (by omega) rfl (by omega) ?_
      refine gj_is3 dX8_read_44 rfl rfl ?_
      refine gj_iconst dX8_read_45 ?_
      refine gj_is4 dX8_read_46 rfl rfl ?_
      refine gj_eq rfl rfl (show w = upw w 8 (cI 8 (ovF ru g2 0)) from (by rw [ovF_0, upw_same q8])) ?_
      have loop48 : ∀ (k : Nat), ∀ (c : Int), (0 ≤ c ∧ c ≤ min le2 8) → (fstZ (rdB g2) c (min le2 8) = fstZ (rdB g2) 0 (min le2 8)) → (∀ j : Int, 0 ≤ j → j < c → 0 ≤ g2 j ∧ g2 j ≤ 23) → (min le2 8 - c).toNat < k → Gj l x iX8_read d 0 0 50 (fun v2 w2 => ((0 ≤ (2 : Int) ∧ (2 : Int) ≤ 3) ∧ fm (2 : Int) ≠ -1 ∧ v2 = some (vI (rdK (it (2 : Int)) (min (ln (2 : Int)) 8))) ∧ ClassC w2 tx by0 (ovF ru (it (2 : Int)) (rdK (it (2 : Int)) (min (ln (2 : Int)) 8))) fa fe fc lw br me mh ml mw mn fi fm ln it ∧ ∀ k : Nat, 32 ≤ k → w2 k = w k) ∨ ((0 ≤ (2 : Int) ∧ (2 : Int) ≤ 3) ∧ fm (2 : Int) = -1 ∧ v2 = some (vI (-11)) ∧ ClassC w2 tx by0 ru fa fe fc lw br me mh ml mw mn 1 fm ln it ∧ ∀ k : Nat, 32 ≤ k → w2 k = w k) ∨ (¬ (0 ≤ (2 : Int) ∧ (2 : Int) ≤ 3) ∧ v2 = some (vI (-2)) ∧ w2 = w)) 0 0 50 (upw w 8 (cI 8 (ovF ru g2 c))) 48 [some (vR 0), some (vI 2), some (vR 28), some (vI (min le2 8)), some (vI c)] [] := by
        intro k
        induction k with
        | zero => intro _ _ _ _ hm; exact absurd hm (Nat.not_lt_zero _)
        | succ k ih48 =>
          intro c  hi ha hg hm48
          refine gj_il4 dX8_read_48 ?_
          refine gj_il3 dX8_read_50 ?_
          refine gj_icmp_ge dX8_read_51 (by omega) (fun h51 => ?_) (fun h51 => ?_)
          · refine gj_il4 dX8_read_92 ?_
            exact gj_iret dX8_read_94 rfl (Or.inl ⟨by omega, by omega, by rw [(show rdK (it 2) (min (ln 2) 8) = c from by rw [n2, ← rdB_congr (g := g2) (fun j g8 g9 => (v2 j g8 (by omega)).1)]; unfold rdK; rw [← ha, fstZ_end (by omega), if_pos rfl, show min le2 8 = c by omega])], by rw [(show rdK (it 2) (min (ln 2) 8) = c from by rw [n2, ← rdB_congr (g := g2) (fun j g8 g9 => (v2 j g8 (by omega)).1)]; unfold rdK; rw [← ha, fstZ_end (by omega), if_pos rfl, show min le2 8 = c by omega]), ovF_congr (g := it 2) (g2 := g2) (fun j g8 g9 => (v2 j g8 (by omega)).1.symm)]; exact ⟨⟨(upw_o (by decide) q0), ⟨_, _, _, _, _, _, ⟨(upw_o (by decide) q1), (upw_o (by decide) q2), (upw_o (by decide) q3), (upw_o (by decide) q4), (upw_o (by decide) q5), (upw_o (by decide) q6)⟩, hRd⟩, ⟨_, ⟨(upw_o (by decide) q9), (upw_o (by decide) q10), (upw_o (by decide) q11)⟩, ⟨(upw_o (by decide) q7), upw_s⟩, ⟨hO.1, ru_ov hO.2.1 hg, hO.2.2⟩⟩, ⟨_, _, _, (upw_o (by decide) q12), (upw_o (by decide) q13), (upw_o (by decide) q14)⟩, ⟨_, (upw_o (by decide) q15)⟩, hbm, ⟨_, _, _, B, _, _, (upw_o (by decide) q16), (upw_o (by decide) q17), (upw_o (by decide) q18)⟩, ⟨⟨(upw_o (by decide) q19), (upw_o (by decide) q20), (upw_o (by decide) q21), (upw_o (by decide) q22)⟩, hMm⟩, ⟨⟨_, (upw_o (by decide) q23), s0, s1, s2, s3⟩, ⟨_, _, _, _, (upw_o (by decide) q24), (upw_o (by decide) q25), r0, d0⟩, ⟨_, _, _, _, (upw_o (by decide) q26), (upw_o (by decide) q27), r1, d1⟩, ⟨_, _, _, _, (upw_o (by decide) q28), (upw_o (by decide) q29), r2, d2⟩, ⟨_, _, _, _, (upw_o (by decide) q30), (upw_o (by decide) q31), r3, d3⟩⟩⟩, (fun (k : Nat) (hk : 32 ≤ k) => (upw_o (by omega) rfl : upw w 8 _ k = w k))⟩⟩)
          · refine gj_al2 dX8_read_54 ?_
            refine gj_get dX8_read_55 fX8_138 (upw_o (by decide) q28) rfl rfl ?_
            refine gj_il4 dX8_read_58 ?_
            refine gj_iald dX8_read_60 (upw_o (by decide) q29) rfl rfl (by omega) ?_
            have g7 := (v2 c hi.1 (by omega)).2
            refine gj_bipush dX8_read_61 rfl ?_
            refine gj_cS2r dX8_read_63 mX8_75 hX8_upTo (by omega) rfl (tX8_upTo  (by omega) (by omega) (by omega)) ?_
            refine gj_ifB_eq dX8_read_66 (fun h66 => ?_) (fun h66 => ?_)
            · refine gj_il4 dX8_read_92 ?_
              exact gj_iret dX8_read_94 rfl (Or.inl ⟨by omega, by omega, by rw [(show rdK (it 2) (min (ln 2) 8) = c from by rw [n2, ← rdB_congr (g := g2) (fun j g8 g9 => (v2 j g8 (by omega)).1)]; unfold rdK; rw [← ha, fstZ_yes (by omega) (by unfold rdB; rw [decide_eq_false h66]; rfl), if_neg (by omega)])], by rw [(show rdK (it 2) (min (ln 2) 8) = c from by rw [n2, ← rdB_congr (g := g2) (fun j g8 g9 => (v2 j g8 (by omega)).1)]; unfold rdK; rw [← ha, fstZ_yes (by omega) (by unfold rdB; rw [decide_eq_false h66]; rfl), if_neg (by omega)]), ovF_congr (g := it 2) (g2 := g2) (fun j g8 g9 => (v2 j g8 (by omega)).1.symm)]; exact ⟨⟨(upw_o (by decide) q0), ⟨_, _, _, _, _, _, ⟨(upw_o (by decide) q1), (upw_o (by decide) q2), (upw_o (by decide) q3), (upw_o (by decide) q4), (upw_o (by decide) q5), (upw_o (by decide) q6)⟩, hRd⟩, ⟨_, ⟨(upw_o (by decide) q9), (upw_o (by decide) q10), (upw_o (by decide) q11)⟩, ⟨(upw_o (by decide) q7), upw_s⟩, ⟨hO.1, ru_ov hO.2.1 hg, hO.2.2⟩⟩, ⟨_, _, _, (upw_o (by decide) q12), (upw_o (by decide) q13), (upw_o (by decide) q14)⟩, ⟨_, (upw_o (by decide) q15)⟩, hbm, ⟨_, _, _, B, _, _, (upw_o (by decide) q16), (upw_o (by decide) q17), (upw_o (by decide) q18)⟩, ⟨⟨(upw_o (by decide) q19), (upw_o (by decide) q20), (upw_o (by decide) q21), (upw_o (by decide) q22)⟩, hMm⟩, ⟨⟨_, (upw_o (by decide) q23), s0, s1, s2, s3⟩, ⟨_, _, _, _, (upw_o (by decide) q24), (upw_o (by decide) q25), r0, d0⟩, ⟨_, _, _, _, (upw_o (by decide) q26), (upw_o (by decide) q27), r1, d1⟩, ⟨_, _, _, _, (upw_o (by decide) q28), (upw_o (by decide) q29), r2, d2⟩, ⟨_, _, _, _, (upw_o (by decide) q30), (upw_o (by decide) q31), r3, d3⟩⟩⟩, (fun (k : Nat) (hk : 32 ≤ k) => (upw_o (by omega) rfl : upw w 8 _ k = w k))⟩⟩)
            · refine gj_al0 dX8_read_69 ?_
              refine gj_get dX8_read_70 fX8_19 (upw_o (by decide) q0) rfl rfl ?_
              refine gj_il4 dX8_read_73 ?_
              refine gj_al2 dX8_read_75 ?_
              refine gj_get dX8_read_76 fX8_138 (upw_o (by decide) q28) rfl rfl ?_
              refine gj_il4 dX8_read_79 ?_
              refine gj_iald dX8_read_81 (upw_o (by decide) q29) rfl rfl (by omega) ?_
              refine gj_cV2w dX8_read_82 mX8_118 hX0_put (upw_o (by decide) q7) rfl (by omega) rfl (tX0_put  (by omega) ⟨(upw_o (by decide) q7), upw_s⟩ (by omega)) (fun w82 P82 => ?_)
              obtain rfl := P82
              refine gj_popI dX8_read_85 ?_
              refine gj_ii4 dX8_read_86 rfl rfl ?_
              refine gj_goto dX8_read_89 ?_
              rw [upw_upw, ovF_s _ _ hi.1 rfl]
              exact ih48 _ (by omega) (by rw [← ha, ← fstZ_no (by omega) (by unfold rdB; simp [h66])]) (fun j g8 g9 => by by_cases e : j = c; (rw [e]; exact h66); (exact hg j g8 (by omega))) (by omega)
      exact loop48 _ 0 (by omega) rfl (fun j g8 g9 => absurd g9 (by omega)) (Nat.lt_succ_self _)
    · have e2 : lo2 = 1 ∧ fm 2 = -1 := d2.resolve_right (fun z => absurd z.1 (by omega))
      refine gj_al0 dX8_read_22 ?_
      refine gj_iconst dX8_read_23 ?_
      refine gj_cV1w dX8_read_24 mX8_127 hX8_found q0 rfl (by omega) rfl (tX8_found  (by omega) q0) (fun w24 P24 => ?_)
      obtain rfl := P24
      exact gj_iret dX8_read_27 rfl (Or.inr (Or.inl ⟨by omega, e2.2, rfl, ⟨⟨upw_s, ⟨_, _, _, _, _, _, ⟨(upw_o (by decide) q1), (upw_o (by decide) q2), (upw_o (by decide) q3), (upw_o (by decide) q4), (upw_o (by decide) q5), (upw_o (by decide) q6)⟩, hRd⟩, ⟨_, ⟨(upw_o (by decide) q9), (upw_o (by decide) q10), (upw_o (by decide) q11)⟩, ⟨(upw_o (by decide) q7), (upw_o (by decide) q8)⟩, hO⟩, ⟨_, _, _, (upw_o (by decide) q12), (upw_o (by decide) q13), (upw_o (by decide) q14)⟩, ⟨_, (upw_o (by decide) q15)⟩, hbm, ⟨_, _, _, B, _, _, (upw_o (by decide) q16), (upw_o (by decide) q17), (upw_o (by decide) q18)⟩, ⟨⟨(upw_o (by decide) q19), (upw_o (by decide) q20), (upw_o (by decide) q21), (upw_o (by decide) q22)⟩, hMm⟩, ⟨⟨_, (upw_o (by decide) q23), s0, s1, s2, s3⟩, ⟨_, _, _, _, (upw_o (by decide) q24), (upw_o (by decide) q25), r0, d0⟩, ⟨_, _, _, _, (upw_o (by decide) q26), (upw_o (by decide) q27), r1, d1⟩, ⟨_, _, _, _, (upw_o (by decide) q28), (upw_o (by decide) q29), r2, d2⟩, ⟨_, _, _, _, (upw_o (by decide) q30), (upw_o (by decide) q31), r3, d3⟩⟩⟩, (fun k hk => upw_o (by omega) ((fun (k : Nat) (_ : 32 ≤ k) => rfl) k hk))⟩⟩))
  · exact absurd (by omega) h4
set_option maxRecDepth 20000 in
set_option maxHeartbeats 4000000 in
theorem tRead3 {l : Launch} {x : Cx} {d : Nat} {w : AW} {tx : Int → Int} {by0 : Int} {ru fa fe : Int → Int} {fc lw br me : Int} {mh ml mw : Int → Int} {mn fi : Int} {fm ln : Int → Int} {it : Int → Int → Int}  (hd : 2 ≤ d) (hC : ClassC w tx by0 ru fa fe fc lw br me mh ml mw mn fi fm ln it) : Mt l x iX8_read d 0 0 50 w [vR 0, vI 3] (fun v2 w2 => ((0 ≤ (3 : Int) ∧ (3 : Int) ≤ 3) ∧ fm (3 : Int) ≠ -1 ∧ v2 = some (vI (rdK (it (3 : Int)) (min (ln (3 : Int)) 8))) ∧ ClassC w2 tx by0 (ovF ru (it (3 : Int)) (rdK (it (3 : Int)) (min (ln (3 : Int)) 8))) fa fe fc lw br me mh ml mw mn fi fm ln it ∧ ∀ k : Nat, 32 ≤ k → w2 k = w k) ∨ ((0 ≤ (3 : Int) ∧ (3 : Int) ≤ 3) ∧ fm (3 : Int) = -1 ∧ v2 = some (vI (-11)) ∧ ClassC w2 tx by0 ru fa fe fc lw br me mh ml mw mn 1 fm ln it ∧ ∀ k : Nat, 32 ≤ k → w2 k = w k) ∨ (¬ (0 ≤ (3 : Int) ∧ (3 : Int) ≤ 3) ∧ v2 = some (vI (-2)) ∧ w2 = w)) := by
  have hC0 := hC
  obtain ⟨q0, ⟨on, ot, ho, wy, nu, fl, ⟨q1, q2, q3, q4, q5, q6⟩, hRd⟩, ⟨fd, ⟨q9, q10, q11⟩, ⟨q7, q8⟩, hO⟩, ⟨la, be, ne, q12, q13, q14⟩, ⟨sl, q15⟩, hbm, ⟨go, st, bn, B, ra, rb, q16, q17, q18⟩, ⟨⟨q19, q20, q21, q22⟩, hMm⟩, hSh⟩ := hC
  have hW : WarC w fa (warB lw fa ru fe fc) := ⟨fe, ru, fc, fd, lw, ⟨q9, q10, q11⟩, ⟨q7, q8⟩, hO, rfl⟩
  have hE := hRd.ed
  have hM := hRd.mat
  obtain ⟨⟨sf, q23, s0, s1, s2, s3⟩, ⟨fo0, le0, lo0, g0, q24, q25, r0, d0⟩, ⟨fo1, le1, lo1, g1, q26, q27, r1, d1⟩, ⟨fo2, le2, lo2, g2, q28, q29, r2, d2⟩, ⟨fo3, le3, lo3, g3, q30, q31, r3, d3⟩⟩ := hSh
  refine Mt.of (L0 := [some (vR 0), some (vI 3), none, none, none]) rfl rfl rfl ?_
  refine gj_il1 dX8_read_0 ?_
  refine gj_cS1r dX8_read_1 mX8_120 hX8_isSheet (by omega) rfl (tX8_isSheet  (by omega) (by omega)) ?_
  refine gj_ifB_ne dX8_read_4 (fun h4 => ?_) (fun h4 => ?_)
  · refine gj_al0 dX8_read_10 ?_
    refine gj_get dX8_read_11 fX8_66 q0 rfl rfl ?_
    refine gj_il1 dX8_read_14 ?_
    refine gj_aald dX8_read_15 q23 rfl rfl (by omega) s3 ?_
    refine gj_get dX8_read_16 fX8_123 q30 rfl rfl ?_
    refine gj_if_eq dX8_read_19 (by omega) (fun h19 => ?_) (fun h19 => ?_)
    · obtain ⟨e3, y3, m3, n3, t3, v3⟩ : lo3 = 0 ∧ fm 3 = fo3 ∧ (0 ≤ fo3 ∧ fo3 ≤ 2) ∧ ln 3 = le3 ∧ (0 ≤ le3 ∧ le3 ≤ 60) ∧ ∀ j : Int, 0 ≤ j → j < le3 → g3 j = it 3 j ∧ R32 (g3 j) := d3.resolve_left (fun z => absurd z.1 (by omega))
      refine gj_al0 dX8_read_28 ?_
      refine gj_get dX8_read_29 fX8_66 q0 rfl rfl ?_
      refine gj_il1 dX8_read_32 ?_
      refine gj_aald dX8_read_33 q23 rfl rfl (by omega) s3 ?_
      refine gj_as2 dX8_read_34 rfl rfl ?_
      refine gj_al2 dX8_read_35 ?_
      refine gj_get dX8_read_36 fX8_130 q30 rfl rfl ?_
      refine gj_bipush dX8_read_39 rfl ?_
      refine gj_min dX8_read_41 mX8_133 (by omega) rfl (by omega) ?_
      refine gj_is3 dX8_read_44 rfl rfl ?_
      refine gj_iconst dX8_read_45 ?_
      refine gj_is4 dX8_read_46 rfl rfl ?_
      refine gj_eq rfl rfl (show w = upw w 8 (cI 8 (ovF ru g3 0)) from (by rw [ovF_0, upw_same q8])) ?_
      have loop48 : ∀ (k : Nat), ∀ (c : Int), (0 ≤ c ∧ c ≤ min le3 8) → (fstZ (rdB g3) c (min le3 8) = fstZ (rdB g3) 0 (min le3 8)) → (∀ j : Int, 0 ≤ j → j < c → 0 ≤ g3 j ∧ g3 j ≤ 23) → (min le3 8 - c).toNat < k → Gj l x iX8_read d 0 0 50 (fun v2 w2 => ((0 ≤ (3 : Int) ∧ (3 : Int) ≤ 3) ∧ fm (3 : Int) ≠ -1 ∧ v2 = some (vI (rdK (it (3 : Int)) (min (ln (3 : Int)) 8))) ∧ ClassC w2 tx by0 (ovF ru (it (3 : Int)) (rdK (it (3 : Int)) (min (ln (3 : Int)) 8))) fa fe fc lw br me mh ml mw mn fi fm ln it ∧ ∀ k : Nat, 32 ≤ k → w2 k = w k) ∨ ((0 ≤ (3 : Int) ∧ (3 : Int) ≤ 3) ∧ fm (3 : Int) = -1 ∧ v2 = some (vI (-11)) ∧ ClassC w2 tx by0 ru fa fe fc lw br me mh ml mw mn 1 fm ln it ∧ ∀ k : Nat, 32 ≤ k → w2 k = w k) ∨ (¬ (0 ≤ (3 : Int) ∧ (3 : Int) ≤ 3) ∧ v2 = some (vI (-2)) ∧ w2 = w)) 0 0 50 (upw w 8 (cI 8 (ovF ru g3 c))) 48 [some (vR 0), some (vI 3), some (vR 30), some (vI (min le3 8)), some (vI c)] [] := by
        intro k
        induction k with
        | zero => intro _ _ _ _ hm; exact absurd hm (Nat.not_lt_zero _)
        | succ k ih48 =>
          intro c  hi ha hg hm48
          refine gj_il4 dX8_read_48 ?_
          refine gj_il3 dX8_read_50 ?_
          refine gj_icmp_ge dX8_read_51 (by omega) (fun h51 => ?_) (fun h51 => ?_)
          · refine gj_il4 dX8_read_92 ?_
            exact gj_iret dX8_read_94 rfl (Or.inl ⟨by omega, by omega, by rw [(show rdK (it 3) (min (ln 3) 8) = c from by rw [n3, ← rdB_congr (g := g3) (fun j g8 g9 => (v3 j g8 (by omega)).1)]; unfold rdK; rw [← ha, fstZ_end (by omega), if_pos rfl, show min le3 8 = c by omega])], by rw [(show rdK (it 3) (min (ln 3) 8) = c from by rw [n3, ← rdB_congr (g := g3) (fun j g8 g9 => (v3 j g8 (by omega)).1)]; unfold rdK; rw [← ha, fstZ_end (by omega), if_pos rfl, show min le3 8 = c by omega]), ovF_congr (g := it 3) (g2 := g3) (fun j g8 g9 => (v3 j g8 (by omega)).1.symm)]; exact ⟨⟨(upw_o (by decide) q0), ⟨_, _, _, _, _, _, ⟨(upw_o (by decide) q1), (upw_o (by decide) q2), (upw_o (by decide) q3), (upw_o (by decide) q4), (upw_o (by decide) q5), (upw_o (by decide) q6)⟩, hRd⟩, ⟨_, ⟨(upw_o (by decide) q9), (upw_o (by decide) q10), (upw_o (by decide) q11)⟩, ⟨(upw_o (by decide) q7), upw_s⟩, ⟨hO.1, ru_ov hO.2.1 hg, hO.2.2⟩⟩, ⟨_, _, _, (upw_o (by decide) q12), (upw_o (by decide) q13), (upw_o (by decide) q14)⟩, ⟨_, (upw_o (by decide) q15)⟩, hbm, ⟨_, _, _, B, _, _, (upw_o (by decide) q16), (upw_o (by decide) q17), (upw_o (by decide) q18)⟩, ⟨⟨(upw_o (by decide) q19), (upw_o (by decide) q20), (upw_o (by decide) q21), (upw_o (by decide) q22)⟩, hMm⟩, ⟨⟨_, (upw_o (by decide) q23), s0, s1, s2, s3⟩, ⟨_, _, _, _, (upw_o (by decide) q24), (upw_o (by decide) q25), r0, d0⟩, ⟨_, _, _, _, (upw_o (by decide) q26), (upw_o (by decide) q27), r1, d1⟩, ⟨_, _, _, _, (upw_o (by decide) q28), (upw_o (by decide) q29), r2, d2⟩, ⟨_, _, _, _, (upw_o (by decide) q30), (upw_o (by decide) q31), r3, d3⟩⟩⟩, (fun (k : Nat) (hk : 32 ≤ k) => (upw_o (by omega) rfl : upw w 8 _ k = w k))⟩⟩)
          · refine gj_al2 dX8_read_54 ?_
            refine gj_get dX8_read_55 fX8_138 (upw_o (by decide) q30) rfl rfl ?_
            refine gj_il4 dX8_read_58 ?_
            refine gj_iald dX8_read_60 (upw_o (by decide) q31) rfl rfl (by omega) ?_
            have g7 := (v3 c hi.1 (by omega)).2
            refine gj_bipush dX8_read_61 rfl ?_
            refine gj_cS2r dX8_read_63 mX8_75 hX8_upTo (by omega) rfl (tX8_upTo  (by omega) (by omega) (by omega)) ?_
            refine gj_ifB_eq dX8_read_66 (fun h66 => ?_) (fun h66 => ?_)
            · refine gj_il4 dX8_read_92 ?_
              exact gj_iret dX8_read_94 rfl (Or.inl ⟨by omega, by omega, by rw [(show rdK (it 3) (min (ln 3) 8) = c from by rw [n3, ← rdB_congr (g := g3) (fun j g8 g9 => (v3 j g8 (by omega)).1)]; unfold rdK; rw [← ha, fstZ_yes (by omega) (by unfold rdB; rw [decide_eq_false h66]; rfl), if_neg (by omega)])], by rw [(show rdK (it 3) (min (ln 3) 8) = c from by rw [n3, ← rdB_congr (g := g3) (fun j g8 g9 => (v3 j g8 (by omega)).1)]; unfold rdK; rw [← ha, fstZ_yes (by omega) (by unfold rdB; rw [decide_eq_false h66]; rfl), if_neg (by omega)]), ovF_congr (g := it 3) (g2 := g3) (fun j g8 g9 => (v3 j g8 (by omega)).1.symm)]; exact ⟨⟨(upw_o (by decide) q0), ⟨_, _, _, _, _, _, ⟨(upw_o (by decide) q1), (upw_o (by decide) q2), (upw_o (by decide) q3), (upw_o (by decide) q4), (upw_o (by decide) q5), (upw_o (by decide) q6)⟩, hRd⟩, ⟨_, ⟨(upw_o (by decide) q9), (upw_o (by decide) q10), (upw_o (by decide) q11)⟩, ⟨(upw_o (by decide) q7), upw_s⟩, ⟨hO.1, ru_ov hO.2.1 hg, hO.2.2⟩⟩, ⟨_, _, _, (upw_o (by decide) q12), (upw_o (by decide) q13), (upw_o (by decide) q14)⟩, ⟨_, (upw_o (by decide) q15)⟩, hbm, ⟨_, _, _, B, _, _, (upw_o (by decide) q16), (upw_o (by decide) q17), (upw_o (by decide) q18)⟩, ⟨⟨(upw_o (by decide) q19), (upw_o (by decide) q20), (upw_o (by decide) q21), (upw_o (by decide) q22)⟩, hMm⟩, ⟨⟨_, (upw_o (by decide) q23), s0, s1, s2, s3⟩, ⟨_, _, _, _, (upw_o (by decide) q24), (upw_o (by decide) q25), r0, d0⟩, ⟨_, _, _, _, (upw_o (by decide) q26), (upw_o (by decide) q27), r1, d1⟩, ⟨_, _, _, _, (upw_o (by decide) q28), (upw_o (by decide) q29), r2, d2⟩, ⟨_, _, _, _, (upw_o (by decide) q30), (upw_o (by decide) q31), r3, d3⟩⟩⟩, (fun (k : Nat) (hk : 32 ≤ k) => (upw_o (by omega) rfl : upw w 8 _ k = w k))⟩⟩)
            · refine gj_al0 dX8_read_69 ?_
              refine gj_get dX8_read_70 fX8_19 (upw_o (by decide) q0) rfl rfl ?_
              refine gj_il4 dX8_read_73 ?_
              refine gj_al2 dX8_read_75 ?_
              refine gj_get dX8_read_76 fX8_138 (upw_o (by decide) q30) rfl rfl ?_
              refine gj_il4 dX8_read_79 ?_
              refine gj_iald dX8_read_81 (upw_o (by decide) q31) rfl rfl (by omega) ?_
              refine gj_cV2w dX8_read_82 mX8_118 hX0_put (upw_o (by decide) q7) rfl (by omega) rfl (tX0_put  (by omega) ⟨(upw_o (by decide) q7), upw_s⟩ (by omega)) (fun w82 P82 => ?_)
              obtain rfl := P82
              refine gj_popI dX8_read_85 ?_
              refine gj_ii4 dX8_read_86 rfl rfl ?_
              refine gj_goto dX8_read_89 ?_
              rw [upw_upw, ovF_s _ _ hi.1 rfl]
              exact ih48 _ (by omega) (by rw [← ha, ← fstZ_no (by omega) (by unfold rdB; simp [h66])]) (fun j g8 g9 => by by_cases e : j = c; (rw [e]; exact h66); (exact hg j g8 (by omega))) (by omega)
      exact loop48 _ 0 (by omega) rfl (fun j g8 g9 => absurd g9 (by omega)) (Nat.lt_succ_self _)
    · have e3 : lo3 = 1 ∧ fm 3 = -1 := d3.resolve_right (fun z => absurd z.1 (by omega))
      refine gj_al0 dX8_read_22 ?_
      refine gj_iconst dX8_read_23 ?_
      refine gj_cV1w dX8_read_24 mX8_127 hX8_found q0 rfl (by omega) rfl (tX8_found  (by omega) q0) (fun w24 P24 => ?_)
      obtain rfl := P24
      exact gj_iret dX8_read_27 rfl (Or.inr (Or.inl ⟨by omega, e3.2, rfl, ⟨⟨upw_s, ⟨_, _, _, _, _, _, ⟨(upw_o (by decide) q1), (upw_o (by decide) q2), (upw_o (by decide) q3), (upw_o (by decide) q4), (upw_o (by decide) q5), (upw_o (by decide) q6)⟩, hRd⟩, ⟨_, ⟨(upw_o (by decide) q9), (upw_o (by decide) q10), (upw_o (by decide) q11)⟩, ⟨(upw_o (by decide) q7), (upw_o (by decide) q8)⟩, hO⟩, ⟨_, _, _, (upw_o (by decide) q12), (upw_o (by decide) q13), (upw_o (by decide) q14)⟩, ⟨_, (upw_o (by decide) q15)⟩, hbm, ⟨_, _, _, B, _, _, (upw_o (by decide) q16), (upw_o (by decide) q17), (upw_o (by decide) q18)⟩, ⟨⟨(upw_o (by decide) q19), (upw_o (by decide) q20), (upw_o (by decide) q21), (upw_o (by decide) q22)⟩, hMm⟩, ⟨⟨_, (upw_o (by decide) q23), s0, s1, s2, s3⟩, ⟨_, _, _, _, (upw_o (by decide) q24), (upw_o (by decide) q25), r0, d0⟩, ⟨_, _, _, _, (upw_o (by decide) q26), (upw_o (by decide) q27), r1, d1⟩, ⟨_, _, _, _, (upw_o (by decide) q28), (upw_o (by decide) q29), r2, d2⟩, ⟨_, _, _, _, (upw_o (by decide) q30), (upw_o (by decide) q31), r3, d3⟩⟩⟩, (fun k hk => upw_o (by omega) ((fun (k : Nat) (_ : 32 ≤ k) => rfl) k hk))⟩⟩))
  · exact absurd (by omega) h4
set_option maxRecDepth 20000 in
set_option maxHeartbeats 4000000 in
theorem tReadB {l : Launch} {x : Cx} {d : Nat} {w : AW} {tx : Int → Int} {by0 : Int} {ru fa fe : Int → Int} {fc lw br me : Int} {mh ml mw : Int → Int} {mn fi : Int} {fm ln : Int → Int} {it : Int → Int → Int} {s : Int}  (hd : 2 ≤ d) (hC : ClassC w tx by0 ru fa fe fc lw br me mh ml mw mn fi fm ln it) (hs : R32 s) (hs9 : ¬ (0 ≤ s ∧ s ≤ 3)) : Mt l x iX8_read d 0 0 50 w [vR 0, vI s] (fun v2 w2 => ((0 ≤ s ∧ s ≤ 3) ∧ fm s ≠ -1 ∧ v2 = some (vI (rdK (it s) (min (ln s) 8))) ∧ ClassC w2 tx by0 (ovF ru (it s) (rdK (it s) (min (ln s) 8))) fa fe fc lw br me mh ml mw mn fi fm ln it ∧ ∀ k : Nat, 32 ≤ k → w2 k = w k) ∨ ((0 ≤ s ∧ s ≤ 3) ∧ fm s = -1 ∧ v2 = some (vI (-11)) ∧ ClassC w2 tx by0 ru fa fe fc lw br me mh ml mw mn 1 fm ln it ∧ ∀ k : Nat, 32 ≤ k → w2 k = w k) ∨ (¬ (0 ≤ s ∧ s ≤ 3) ∧ v2 = some (vI (-2)) ∧ w2 = w)) := by
  have hC0 := hC
  obtain ⟨q0, ⟨on, ot, ho, wy, nu, fl, ⟨q1, q2, q3, q4, q5, q6⟩, hRd⟩, ⟨fd, ⟨q9, q10, q11⟩, ⟨q7, q8⟩, hO⟩, ⟨la, be, ne, q12, q13, q14⟩, ⟨sl, q15⟩, hbm, ⟨go, st, bn, B, ra, rb, q16, q17, q18⟩, ⟨⟨q19, q20, q21, q22⟩, hMm⟩, hSh⟩ := hC
  have hW : WarC w fa (warB lw fa ru fe fc) := ⟨fe, ru, fc, fd, lw, ⟨q9, q10, q11⟩, ⟨q7, q8⟩, hO, rfl⟩
  have hE := hRd.ed
  have hM := hRd.mat
  obtain ⟨⟨sf, q23, s0, s1, s2, s3⟩, ⟨fo0, le0, lo0, g0, q24, q25, r0, d0⟩, ⟨fo1, le1, lo1, g1, q26, q27, r1, d1⟩, ⟨fo2, le2, lo2, g2, q28, q29, r2, d2⟩, ⟨fo3, le3, lo3, g3, q30, q31, r3, d3⟩⟩ := hSh
  refine Mt.of (L0 := [some (vR 0), some (vI s), none, none, none]) rfl rfl rfl ?_
  refine gj_il1 dX8_read_0 ?_
  refine gj_cS1r dX8_read_1 mX8_120 hX8_isSheet (by omega) rfl (tX8_isSheet  (by omega) (by omega)) ?_
  refine gj_ifB_ne dX8_read_4 (fun h4 => ?_) (fun h4 => ?_)
  · exact absurd h4 hs9
  · refine gj_bipush dX8_read_7 rfl ?_
    exact gj_iret dX8_read_9 rfl (Or.inr (Or.inr ⟨by omega, rfl, rfl⟩))
theorem tRead {l : Launch} {x : Cx} {d : Nat} {w : AW} {tx : Int → Int} {by0 : Int} {ru fa fe : Int → Int} {fc lw br me : Int} {mh ml mw : Int → Int} {mn fi : Int} {fm ln : Int → Int} {it : Int → Int → Int} {s : Int}  (hd : 2 ≤ d) (hC : ClassC w tx by0 ru fa fe fc lw br me mh ml mw mn fi fm ln it) (hs : R32 s) : Mt l x iX8_read d 0 0 50 w [vR 0, vI s] (fun v2 w2 => ((0 ≤ s ∧ s ≤ 3) ∧ fm s ≠ -1 ∧ v2 = some (vI (rdK (it s) (min (ln s) 8))) ∧ ClassC w2 tx by0 (ovF ru (it s) (rdK (it s) (min (ln s) 8))) fa fe fc lw br me mh ml mw mn fi fm ln it ∧ ∀ k : Nat, 32 ≤ k → w2 k = w k) ∨ ((0 ≤ s ∧ s ≤ 3) ∧ fm s = -1 ∧ v2 = some (vI (-11)) ∧ ClassC w2 tx by0 ru fa fe fc lw br me mh ml mw mn 1 fm ln it ∧ ∀ k : Nat, 32 ≤ k → w2 k = w k) ∨ (¬ (0 ≤ s ∧ s ≤ 3) ∧ v2 = some (vI (-2)) ∧ w2 = w)) := by
  by_cases c : 0 ≤ s ∧ s ≤ 3
  · rcases (show s = 0 ∨ s = 1 ∨ s = 2 ∨ s = 3 by omega) with rfl | rfl | rfl | rfl
    · exact tRead0 (by omega) hC 
    · exact tRead1 (by omega) hC 
    · exact tRead2 (by omega) hC 
    · exact tRead3 (by omega) hC 
  · exact tReadB (by omega) hC hs  c
set_option maxRecDepth 20000 in
set_option maxHeartbeats 4000000 in
theorem tWrite0 {l : Launch} {x : Cx} {d : Nat} {w : AW} {tx : Int → Int} {by0 : Int} {ru fa fe : Int → Int} {fc lw br me : Int} {mh ml mw : Int → Int} {mn fi : Int} {fm ln : Int → Int} {it : Int → Int → Int} {l0 h : Int} (hd : 3 ≤ d) (hC : ClassC w tx by0 ru fa fe fc lw br me mh ml mw mn fi fm ln it) (hl0 : R32 l0) (hh : R32 h) : Mt l x iX8_write d 0 0 50 w [vR 0, vI l0, vI h, vI 0] (fun v2 w2 => (((0 ≤ l0 ∧ l0 ≤ 7) ∧ (0 ≤ h ∧ h ≤ 671) ∧ (0 ≤ (0 : Int) ∧ (0 : Int) ≤ 3)) ∧ fm (0 : Int) ≠ -1 ∧ v2 = some (vI (min (ln (0 : Int)) (672 - h))) ∧ ClassC w2 tx by0 ru fa fe fc lw br me mh ml mw mn fi fm ln (upi it (0 : Int) (ovF (it (0 : Int)) (fun k => b2i ((warB lw fa ru fe fc) (h + k) l0 = true)) (min (ln (0 : Int)) (672 - h)))) ∧ ∀ k : Nat, 32 ≤ k → w2 k = w k) ∨ (((0 ≤ l0 ∧ l0 ≤ 7) ∧ (0 ≤ h ∧ h ≤ 671) ∧ (0 ≤ (0 : Int) ∧ (0 : Int) ≤ 3)) ∧ fm (0 : Int) = -1 ∧ v2 = some (vI (-11)) ∧ ClassC w2 tx by0 ru fa fe fc lw br me mh ml mw mn 1 fm ln it ∧ ∀ k : Nat, 32 ≤ k → w2 k = w k) ∨ (¬ ((0 ≤ l0 ∧ l0 ≤ 7) ∧ (0 ≤ h ∧ h ≤ 671) ∧ (0 ≤ (0 : Int) ∧ (0 : Int) ≤ 3)) ∧ v2 = some (vI (-2)) ∧ w2 = w)) := by
  have hC0 := hC
  obtain ⟨q0, ⟨on, ot, ho, wy, nu, fl, ⟨q1, q2, q3, q4, q5, q6⟩, hRd⟩, ⟨fd, ⟨q9, q10, q11⟩, ⟨q7, q8⟩, hO⟩, ⟨la, be, ne, q12, q13, q14⟩, ⟨sl, q15⟩, hbm, ⟨go, st, bn, B, ra, rb, q16, q17, q18⟩, ⟨⟨q19, q20, q21, q22⟩, hMm⟩, hSh⟩ := hC
  have hW : WarC w fa (warB lw fa ru fe fc) := ⟨fe, ru, fc, fd, lw, ⟨q9, q10, q11⟩, ⟨q7, q8⟩, hO, rfl⟩
  have hE := hRd.ed
  have hM := hRd.mat
  obtain ⟨⟨sf, q23, s0, s1, s2, s3⟩, ⟨fo0, le0, lo0, g0, q24, q25, r0, d0⟩, ⟨fo1, le1, lo1, g1, q26, q27, r1, d1⟩, ⟨fo2, le2, lo2, g2, q28, q29, r2, d2⟩, ⟨fo3, le3, lo3, g3, q30, q31, r3, d3⟩⟩ := hSh
  refine Mt.of (L0 := [some (vR 0), some (vI l0), some (vI h), some (vI 0), none, none]) rfl rfl rfl ?_
  refine gj_il1 dX8_write_0 ?_
  refine gj_cS1r dX8_write_1 mX8_104 hX8_isLand (by omega) rfl (tX8_isLand  (by omega) (by omega)) ?_
  refine gj_ifB_eq dX8_write_4 (fun h4 => ?_) (fun h4 => ?_)
  · refine gj_bipush dX8_write_21 rfl ?_
    exact gj_iret dX8_write_23 rfl (Or.inr (Or.inr ⟨by omega, rfl, rfl⟩))
  · refine gj_il2 dX8_write_7 ?_
    refine gj_cS1r dX8_write_8 mX8_154 hX8_isHour (by omega) rfl (tX8_isHour  (by omega) (by omega)) ?_
    refine gj_ifB_eq dX8_write_11 (fun h11 => ?_) (fun h11 => ?_)
    · refine gj_bipush dX8_write_21 rfl ?_
      exact gj_iret dX8_write_23 rfl (Or.inr (Or.inr ⟨by omega, rfl, rfl⟩))
    · refine gj_il3 dX8_write_14 ?_
      refine gj_cS1r dX8_write_15 mX8_120 hX8_isSheet (by omega) rfl (tX8_isSheet  (by omega) (by omega)) ?_
      refine gj_ifB_ne dX8_write_18 (fun h18 => ?_) (fun h18 => ?_)
      · refine gj_al0 dX8_write_24 ?_
        refine gj_get dX8_write_25 fX8_66 q0 rfl rfl ?_
        refine gj_il3 dX8_write_28 ?_
        refine gj_aald dX8_write_29 q23 rfl rfl (by omega) s0 ?_
        refine gj_get dX8_write_30 fX8_123 q24 rfl rfl ?_
        refine gj_if_eq dX8_write_33 (by omega) (fun h33 => ?_) (fun h33 => ?_)
        · obtain ⟨e0, y0, m0, n0, t0, v0⟩ : lo0 = 0 ∧ fm 0 = fo0 ∧ (0 ≤ fo0 ∧ fo0 ≤ 2) ∧ ln 0 = le0 ∧ (0 ≤ le0 ∧ le0 ≤ 60) ∧ ∀ j : Int, 0 ≤ j → j < le0 → g0 j = it 0 j ∧ R32 (g0 j) := d0.resolve_left (fun z => absurd z.1 (by omega))
          refine gj_al0 dX8_write_42 ?_
          refine gj_get dX8_write_43 fX8_66 q0 rfl rfl ?_
          refine gj_il3 dX8_write_46 ?_
          refine gj_aald dX8_write_47 q23 rfl rfl (by omega) s0 ?_
          refine gj_get dX8_write_48 fX8_130 q24 rfl rfl ?_
          refine gj_sipush dX8_write_51 rfl ?_
          refine gj_il2 dX8_write_54 ?_
          refine gj_isub dX8_write_55 ?_
          refine gj_min dX8_write_56 mX8_133 (by omega) rfl (by omega) ?_
          refine gj_is4 dX8_write_59 rfl rfl ?_
          refine gj_iconst dX8_write_61 ?_
          refine gj_is5 dX8_write_62 rfl rfl ?_
          refine gj_eq rfl rfl (show w = upw w 25 (cI 60 (ovF g0 (fun k => b2i ((warB lw fa ru fe fc) (h + k) l0 = true)) 0)) from (by rw [ovF_0, upw_same q25])) ?_
          have loop64 : ∀ (k : Nat), ∀ (c : Int), (0 ≤ c ∧ c ≤ min le0 (672 - h)) → (min le0 (672 - h) - c).toNat < k → Gj l x iX8_write d 0 0 50 (fun v2 w2 => (((0 ≤ l0 ∧ l0 ≤ 7) ∧ (0 ≤ h ∧ h ≤ 671) ∧ (0 ≤ (0 : Int) ∧ (0 : Int) ≤ 3)) ∧ fm (0 : Int) ≠ -1 ∧ v2 = some (vI (min (ln (0 : Int)) (672 - h))) ∧ ClassC w2 tx by0 ru fa fe fc lw br me mh ml mw mn fi fm ln (upi it (0 : Int) (ovF (it (0 : Int)) (fun k => b2i ((warB lw fa ru fe fc) (h + k) l0 = true)) (min (ln (0 : Int)) (672 - h)))) ∧ ∀ k : Nat, 32 ≤ k → w2 k = w k) ∨ (((0 ≤ l0 ∧ l0 ≤ 7) ∧ (0 ≤ h ∧ h ≤ 671) ∧ (0 ≤ (0 : Int) ∧ (0 : Int) ≤ 3)) ∧ fm (0 : Int) = -1 ∧ v2 = some (vI (-11)) ∧ ClassC w2 tx by0 ru fa fe fc lw br me mh ml mw mn 1 fm ln it ∧ ∀ k : Nat, 32 ≤ k → w2 k = w k) ∨ (¬ ((0 ≤ l0 ∧ l0 ≤ 7) ∧ (0 ≤ h ∧ h ≤ 671) ∧ (0 ≤ (0 : Int) ∧ (0 : Int) ≤ 3)) ∧ v2 = some (vI (-2)) ∧ w2 = w)) 0 0 50 (upw w 25 (cI 60 (ovF g0 (fun k => b2i ((warB lw fa ru fe fc) (h + k) l0 = true)) c))) 64 [some (vR 0), some (vI l0), some (vI h), some (vI 0), some (vI (min le0 (672 - h))), some (vI c)] [] := by
            intro k
            induction k with
            | zero => intro _ _ hm; exact absurd hm (Nat.not_lt_zero _)
            | succ k ih64 =>
              intro c  hi hm64
              refine gj_il5 dX8_write_64 ?_
              refine gj_il4 dX8_write_66 ?_
              refine gj_icmp_ge dX8_write_68 (by omega) (fun h68 => ?_) (fun h68 => ?_)
              · refine gj_il4 dX8_write_108 ?_
                exact gj_iret dX8_write_110 rfl (Or.inl ⟨⟨by omega, by omega, by omega⟩, by omega, by rw [n0], ⟨⟨(upw_o (by decide) q0), ⟨_, _, _, _, _, _, ⟨(upw_o (by decide) q1), (upw_o (by decide) q2), (upw_o (by decide) q3), (upw_o (by decide) q4), (upw_o (by decide) q5), (upw_o (by decide) q6)⟩, hRd⟩, ⟨_, ⟨(upw_o (by decide) q9), (upw_o (by decide) q10), (upw_o (by decide) q11)⟩, ⟨(upw_o (by decide) q7), (upw_o (by decide) q8)⟩, hO⟩, ⟨_, _, _, (upw_o (by decide) q12), (upw_o (by decide) q13), (upw_o (by decide) q14)⟩, ⟨_, (upw_o (by decide) q15)⟩, hbm, ⟨_, _, _, B, _, _, (upw_o (by decide) q16), (upw_o (by decide) q17), (upw_o (by decide) q18)⟩, ⟨⟨(upw_o (by decide) q19), (upw_o (by decide) q20), (upw_o (by decide) q21), (upw_o (by decide) q22)⟩, hMm⟩, ⟨⟨_, (upw_o (by decide) q23), s0, s1, s2, s3⟩, ⟨_, _, _, _, (upw_o (by decide) q24), upw_s, r0, Or.inr ⟨e0, y0, m0, n0, t0, fun q g8 g9 => by
                            show ovF g0 (fun k => b2i ((warB lw fa ru fe fc) (h + k) l0 = true)) c q = ovF (it 0) (fun k => b2i ((warB lw fa ru fe fc) (h + k) l0 = true)) (min (ln 0) (672 - h)) q ∧ R32 (ovF g0 (fun k => b2i ((warB lw fa ru fe fc) (h + k) l0 = true)) c q)
                            rw [n0, show min le0 (672 - h) = c by omega]
                            unfold ovF
                            by_cases z : 0 ≤ q ∧ q < c
                            · rw [if_pos z, if_pos z]; refine ⟨rfl, ?_⟩; show R32 (b2i ((warB lw fa ru fe fc) (h + q) l0 = true)); rcases b2i_R ((warB lw fa ru fe fc) (h + q) l0 = true) with z1 | z1 <;> rw [z1] <;> omega
                            · rw [if_neg z, if_neg z]; exact v0 q g8 g9⟩⟩, ⟨_, _, _, _, (upw_o (by decide) q26), (upw_o (by decide) q27), r1, d1⟩, ⟨_, _, _, _, (upw_o (by decide) q28), (upw_o (by decide) q29), r2, d2⟩, ⟨_, _, _, _, (upw_o (by decide) q30), (upw_o (by decide) q31), r3, d3⟩⟩⟩, (fun (k : Nat) (hk : 32 ≤ k) => (upw_o (by omega) rfl : upw w 25 _ k = w k))⟩⟩)
              · refine gj_al0 dX8_write_71 ?_
                refine gj_get dX8_write_72 fX8_66 (upw_o (by decide) q0) rfl rfl ?_
                refine gj_il3 dX8_write_75 ?_
                refine gj_aald dX8_write_76 (upw_o (by decide) q23) rfl rfl (by omega) s0 ?_
                refine gj_il5 dX8_write_77 ?_
                refine gj_al0 dX8_write_79 ?_
                refine gj_get dX8_write_80 fX8_28 (upw_o (by decide) q0) rfl rfl ?_
                refine gj_il2 dX8_write_83 ?_
                refine gj_il5 dX8_write_84 ?_
                refine gj_iadd dX8_write_86 ?_
                refine gj_il1 dX8_write_87 ?_
                refine gj_cV2r dX8_write_88 mX8_157 hX5_isWar (upw_o (by decide) q9) rfl (by omega) rfl (tWar  (by omega) (WarC.up (by decide) hW) (by omega) (by omega)) ?_
                refine gj_ifB_eq dX8_write_91 (fun h91 => ?_) (fun h91 => ?_)
                · refine gj_iconst dX8_write_98 ?_
                  refine gj_cV2v dX8_write_99 mX8_258 hX7_put (upw_o (by decide) q24) rfl (by omega) rfl (tX7_put0  (by omega) ⟨(upw_o (by decide) q24), upw_s⟩ (by omega) (by omega)) (fun w99 P99 => ?_)
                  obtain rfl := P99
                  refine gj_ii5 dX8_write_102 rfl rfl ?_
                  refine gj_goto dX8_write_105 ?_
                  rw [upw_upw, ovF_s _ _ hi.1 (by rw [cut_0, b2i_f h91])]
                  exact ih64 _ (by omega) (by omega)
                · refine gj_iconst dX8_write_94 ?_
                  refine gj_goto dX8_write_95 ?_
                  refine gj_cV2v dX8_write_99 mX8_258 hX7_put (upw_o (by decide) q24) rfl (by omega) rfl (tX7_put0  (by omega) ⟨(upw_o (by decide) q24), upw_s⟩ (by omega) (by omega)) (fun w99 P99 => ?_)
                  obtain rfl := P99
                  refine gj_ii5 dX8_write_102 rfl rfl ?_
                  refine gj_goto dX8_write_105 ?_
                  rw [upw_upw, ovF_s _ _ hi.1 (by rw [cut_1, b2i_t h91])]
                  exact ih64 _ (by omega) (by omega)
          exact loop64 _ 0 (by omega) (Nat.lt_succ_self _)
        · have e0 : lo0 = 1 ∧ fm 0 = -1 := d0.resolve_right (fun z => absurd z.1 (by omega))
          refine gj_al0 dX8_write_36 ?_
          refine gj_iconst dX8_write_37 ?_
          refine gj_cV1w dX8_write_38 mX8_127 hX8_found q0 rfl (by omega) rfl (tX8_found  (by omega) q0) (fun w38 P38 => ?_)
          obtain rfl := P38
          exact gj_iret dX8_write_41 rfl (Or.inr (Or.inl ⟨⟨by omega, by omega, by omega⟩, e0.2, rfl, ⟨⟨upw_s, ⟨_, _, _, _, _, _, ⟨(upw_o (by decide) q1), (upw_o (by decide) q2), (upw_o (by decide) q3), (upw_o (by decide) q4), (upw_o (by decide) q5), (upw_o (by decide) q6)⟩, hRd⟩, ⟨_, ⟨(upw_o (by decide) q9), (upw_o (by decide) q10), (upw_o (by decide) q11)⟩, ⟨(upw_o (by decide) q7), (upw_o (by decide) q8)⟩, hO⟩, ⟨_, _, _, (upw_o (by decide) q12), (upw_o (by decide) q13), (upw_o (by decide) q14)⟩, ⟨_, (upw_o (by decide) q15)⟩, hbm, ⟨_, _, _, B, _, _, (upw_o (by decide) q16), (upw_o (by decide) q17), (upw_o (by decide) q18)⟩, ⟨⟨(upw_o (by decide) q19), (upw_o (by decide) q20), (upw_o (by decide) q21), (upw_o (by decide) q22)⟩, hMm⟩, ⟨⟨_, (upw_o (by decide) q23), s0, s1, s2, s3⟩, ⟨_, _, _, _, (upw_o (by decide) q24), (upw_o (by decide) q25), r0, d0⟩, ⟨_, _, _, _, (upw_o (by decide) q26), (upw_o (by decide) q27), r1, d1⟩, ⟨_, _, _, _, (upw_o (by decide) q28), (upw_o (by decide) q29), r2, d2⟩, ⟨_, _, _, _, (upw_o (by decide) q30), (upw_o (by decide) q31), r3, d3⟩⟩⟩, (fun k hk => upw_o (by omega) ((fun (k : Nat) (_ : 32 ≤ k) => rfl) k hk))⟩⟩))
      · exact absurd (by omega) h18
set_option maxRecDepth 20000 in
set_option maxHeartbeats 4000000 in
theorem tWrite1 {l : Launch} {x : Cx} {d : Nat} {w : AW} {tx : Int → Int} {by0 : Int} {ru fa fe : Int → Int} {fc lw br me : Int} {mh ml mw : Int → Int} {mn fi : Int} {fm ln : Int → Int} {it : Int → Int → Int} {l0 h : Int} (hd : 3 ≤ d) (hC : ClassC w tx by0 ru fa fe fc lw br me mh ml mw mn fi fm ln it) (hl0 : R32 l0) (hh : R32 h) : Mt l x iX8_write d 0 0 50 w [vR 0, vI l0, vI h, vI 1] (fun v2 w2 => (((0 ≤ l0 ∧ l0 ≤ 7) ∧ (0 ≤ h ∧ h ≤ 671) ∧ (0 ≤ (1 : Int) ∧ (1 : Int) ≤ 3)) ∧ fm (1 : Int) ≠ -1 ∧ v2 = some (vI (min (ln (1 : Int)) (672 - h))) ∧ ClassC w2 tx by0 ru fa fe fc lw br me mh ml mw mn fi fm ln (upi it (1 : Int) (ovF (it (1 : Int)) (fun k => b2i ((warB lw fa ru fe fc) (h + k) l0 = true)) (min (ln (1 : Int)) (672 - h)))) ∧ ∀ k : Nat, 32 ≤ k → w2 k = w k) ∨ (((0 ≤ l0 ∧ l0 ≤ 7) ∧ (0 ≤ h ∧ h ≤ 671) ∧ (0 ≤ (1 : Int) ∧ (1 : Int) ≤ 3)) ∧ fm (1 : Int) = -1 ∧ v2 = some (vI (-11)) ∧ ClassC w2 tx by0 ru fa fe fc lw br me mh ml mw mn 1 fm ln it ∧ ∀ k : Nat, 32 ≤ k → w2 k = w k) ∨ (¬ ((0 ≤ l0 ∧ l0 ≤ 7) ∧ (0 ≤ h ∧ h ≤ 671) ∧ (0 ≤ (1 : Int) ∧ (1 : Int) ≤ 3)) ∧ v2 = some (vI (-2)) ∧ w2 = w)) := by
  have hC0 := hC
  obtain ⟨q0, ⟨on, ot, ho, wy, nu, fl, ⟨q1, q2, q3, q4, q5, q6⟩, hRd⟩, ⟨fd, ⟨q9, q10, q11⟩, ⟨q7, q8⟩, hO⟩, ⟨la, be, ne, q12, q13, q14⟩, ⟨sl, q15⟩, hbm, ⟨go, st, bn, B, ra, rb, q16, q17, q18⟩, ⟨⟨q19, q20, q21, q22⟩, hMm⟩, hSh⟩ := hC
  have hW : WarC w fa (warB lw fa ru fe fc) := ⟨fe, ru, fc, fd, lw, ⟨q9, q10, q11⟩, ⟨q7, q8⟩, hO, rfl⟩
  have hE := hRd.ed
  have hM := hRd.mat
  obtain ⟨⟨sf, q23, s0, s1, s2, s3⟩, ⟨fo0, le0, lo0, g0, q24, q25, r0, d0⟩, ⟨fo1, le1, lo1, g1, q26, q27, r1, d1⟩, ⟨fo2, le2, lo2, g2, q28, q29, r2, d2⟩, ⟨fo3, le3, lo3, g3, q30, q31, r3, d3⟩⟩ := hSh
  refine Mt.of (L0 := [some (vR 0), some (vI l0), some (vI h), some (vI 1), none, none]) rfl rfl rfl ?_
  refine gj_il1 dX8_write_0 ?_
  refine gj_cS1r dX8_write_1 mX8_104 hX8_isLand (by omega) rfl (tX8_isLand  (by omega) (by omega)) ?_
  refine gj_ifB_eq dX8_write_4 (fun h4 => ?_) (fun h4 => ?_)
  · refine gj_bipush dX8_write_21 rfl ?_
    exact gj_iret dX8_write_23 rfl (Or.inr (Or.inr ⟨by omega, rfl, rfl⟩))
  · refine gj_il2 dX8_write_7 ?_
    refine gj_cS1r dX8_write_8 mX8_154 hX8_isHour (by omega) rfl (tX8_isHour  (by omega) (by omega)) ?_
    refine gj_ifB_eq dX8_write_11 (fun h11 => ?_) (fun h11 => ?_)
    · refine gj_bipush dX8_write_21 rfl ?_
      exact gj_iret dX8_write_23 rfl (Or.inr (Or.inr ⟨by omega, rfl, rfl⟩))
    · refine gj_il3 dX8_write_14 ?_
      refine gj_cS1r dX8_write_15 mX8_120 hX8_isSheet (by omega) rfl (tX8_isSheet  (by omega) (by omega)) ?_
      refine gj_ifB_ne dX8_write_18 (fun h18 => ?_) (fun h18 => ?_)
      · refine gj_al0 dX8_write_24 ?_
        refine gj_get dX8_write_25 fX8_66 q0 rfl rfl ?_
        refine gj_il3 dX8_write_28 ?_
        refine gj_aald dX8_write_29 q23 rfl rfl (by omega) s1 ?_
        refine gj_get dX8_write_30 fX8_123 q26 rfl rfl ?_
        refine gj_if_eq dX8_write_33 (by omega) (fun h33 => ?_) (fun h33 => ?_)
        · obtain ⟨e1, y1, m1, n1, t1, v1⟩ : lo1 = 0 ∧ fm 1 = fo1 ∧ (0 ≤ fo1 ∧ fo1 ≤ 2) ∧ ln 1 = le1 ∧ (0 ≤ le1 ∧ le1 ≤ 60) ∧ ∀ j : Int, 0 ≤ j → j < le1 → g1 j = it 1 j ∧ R32 (g1 j) := d1.resolve_left (fun z => absurd z.1 (by omega))
          refine gj_al0 dX8_write_42 ?_
          refine gj_get dX8_write_43 fX8_66 q0 rfl rfl ?_
          refine gj_il3 dX8_write_46 ?_
          refine gj_aald dX8_write_47 q23 rfl rfl (by omega) s1 ?_
          refine gj_get dX8_write_48 fX8_130 q26 rfl rfl ?_
          refine gj_sipush dX8_write_51 rfl ?_
          refine gj_il2 dX8_write_54 ?_
          refine gj_isub dX8_write_55 ?_
          refine gj_min dX8_write_56 mX8_133 (by omega) rfl (by omega) ?_
          refine gj_is4 dX8_write_59 rfl rfl ?_
          refine gj_iconst dX8_write_61 ?_
          refine gj_is5 dX8_write_62 rfl rfl ?_
          refine gj_eq rfl rfl (show w = upw w 27 (cI 60 (ovF g1 (fun k => b2i ((warB lw fa ru fe fc) (h + k) l0 = true)) 0)) from (by rw [ovF_0, upw_same q27])) ?_
          have loop64 : ∀ (k : Nat), ∀ (c : Int), (0 ≤ c ∧ c ≤ min le1 (672 - h)) → (min le1 (672 - h) - c).toNat < k → Gj l x iX8_write d 0 0 50 (fun v2 w2 => (((0 ≤ l0 ∧ l0 ≤ 7) ∧ (0 ≤ h ∧ h ≤ 671) ∧ (0 ≤ (1 : Int) ∧ (1 : Int) ≤ 3)) ∧ fm (1 : Int) ≠ -1 ∧ v2 = some (vI (min (ln (1 : Int)) (672 - h))) ∧ ClassC w2 tx by0 ru fa fe fc lw br me mh ml mw mn fi fm ln (upi it (1 : Int) (ovF (it (1 : Int)) (fun k => b2i ((warB lw fa ru fe fc) (h + k) l0 = true)) (min (ln (1 : Int)) (672 - h)))) ∧ ∀ k : Nat, 32 ≤ k → w2 k = w k) ∨ (((0 ≤ l0 ∧ l0 ≤ 7) ∧ (0 ≤ h ∧ h ≤ 671) ∧ (0 ≤ (1 : Int) ∧ (1 : Int) ≤ 3)) ∧ fm (1 : Int) = -1 ∧ v2 = some (vI (-11)) ∧ ClassC w2 tx by0 ru fa fe fc lw br me mh ml mw mn 1 fm ln it ∧ ∀ k : Nat, 32 ≤ k → w2 k = w k) ∨ (¬ ((0 ≤ l0 ∧ l0 ≤ 7) ∧ (0 ≤ h ∧ h ≤ 671) ∧ (0 ≤ (1 : Int) ∧ (1 : Int) ≤ 3)) ∧ v2 = some (vI (-2)) ∧ w2 = w)) 0 0 50 (upw w 27 (cI 60 (ovF g1 (fun k => b2i ((warB lw fa ru fe fc) (h + k) l0 = true)) c))) 64 [some (vR 0), some (vI l0), some (vI h), some (vI 1), some (vI (min le1 (672 - h))), some (vI c)] [] := by
            intro k
            induction k with
            | zero => intro _ _ hm; exact absurd hm (Nat.not_lt_zero _)
            | succ k ih64 =>
              intro c  hi hm64
              refine gj_il5 dX8_write_64 ?_
              refine gj_il4 dX8_write_66 ?_
              refine gj_icmp_ge dX8_write_68 (by omega) (fun h68 => ?_) (fun h68 => ?_)
              · refine gj_il4 dX8_write_108 ?_
                exact gj_iret dX8_write_110 rfl (Or.inl ⟨⟨by omega, by omega, by omega⟩, by omega, by rw [n1], ⟨⟨(upw_o (by decide) q0), ⟨_, _, _, _, _, _, ⟨(upw_o (by decide) q1), (upw_o (by decide) q2), (upw_o (by decide) q3), (upw_o (by decide) q4), (upw_o (by decide) q5), (upw_o (by decide) q6)⟩, hRd⟩, ⟨_, ⟨(upw_o (by decide) q9), (upw_o (by decide) q10), (upw_o (by decide) q11)⟩, ⟨(upw_o (by decide) q7), (upw_o (by decide) q8)⟩, hO⟩, ⟨_, _, _, (upw_o (by decide) q12), (upw_o (by decide) q13), (upw_o (by decide) q14)⟩, ⟨_, (upw_o (by decide) q15)⟩, hbm, ⟨_, _, _, B, _, _, (upw_o (by decide) q16), (upw_o (by decide) q17), (upw_o (by decide) q18)⟩, ⟨⟨(upw_o (by decide) q19), (upw_o (by decide) q20), (upw_o (by decide) q21), (upw_o (by decide) q22)⟩, hMm⟩, ⟨⟨_, (upw_o (by decide) q23), s0, s1, s2, s3⟩, ⟨_, _, _, _, (upw_o (by decide) q24), (upw_o (by decide) q25), r0, d0⟩, ⟨_, _, _, _, (upw_o (by decide) q26), upw_s, r1, Or.inr ⟨e1, y1, m1, n1, t1, fun q g8 g9 => by
                            show ovF g1 (fun k => b2i ((warB lw fa ru fe fc) (h + k) l0 = true)) c q = ovF (it 1) (fun k => b2i ((warB lw fa ru fe fc) (h + k) l0 = true)) (min (ln 1) (672 - h)) q ∧ R32 (ovF g1 (fun k => b2i ((warB lw fa ru fe fc) (h + k) l0 = true)) c q)
                            rw [n1, show min le1 (672 - h) = c by omega]
                            unfold ovF
                            by_cases z : 0 ≤ q ∧ q < c
                            · rw [if_pos z, if_pos z]; refine ⟨rfl, ?_⟩; show R32 (b2i ((warB lw fa ru fe fc) (h + q) l0 = true)); rcases b2i_R ((warB lw fa ru fe fc) (h + q) l0 = true) with z1 | z1 <;> rw [z1] <;> omega
                            · rw [if_neg z, if_neg z]; exact v1 q g8 g9⟩⟩, ⟨_, _, _, _, (upw_o (by decide) q28), (upw_o (by decide) q29), r2, d2⟩, ⟨_, _, _, _, (upw_o (by decide) q30), (upw_o (by decide) q31), r3, d3⟩⟩⟩, (fun (k : Nat) (hk : 32 ≤ k) => (upw_o (by omega) rfl : upw w 27 _ k = w k))⟩⟩)
              · refine gj_al0 dX8_write_71 ?_
                refine gj_get dX8_write_72 fX8_66 (upw_o (by decide) q0) rfl rfl ?_
                refine gj_il3 dX8_write_75 ?_
                refine gj_aald dX8_write_76 (upw_o (by decide) q23) rfl rfl (by omega) s1 ?_
                refine gj_il5 dX8_write_77 ?_
                refine gj_al0 dX8_write_79 ?_
                refine gj_get dX8_write_80 fX8_28 (upw_o (by decide) q0) rfl rfl ?_
                refine gj_il2 dX8_write_83 ?_
                refine gj_il5 dX8_write_84 ?_
                refine gj_iadd dX8_write_86 ?_
                refine gj_il1 dX8_write_87 ?_
                refine gj_cV2r dX8_write_88 mX8_157 hX5_isWar (upw_o (by decide) q9) rfl (by omega) rfl (tWar  (by omega) (WarC.up (by decide) hW) (by omega) (by omega)) ?_
                refine gj_ifB_eq dX8_write_91 (fun h91 => ?_) (fun h91 => ?_)
                · refine gj_iconst dX8_write_98 ?_
                  refine gj_cV2v dX8_write_99 mX8_258 hX7_put (upw_o (by decide) q26) rfl (by omega) rfl (tX7_put1  (by omega) ⟨(upw_o (by decide) q26), upw_s⟩ (by omega) (by omega)) (fun w99 P99 => ?_)
                  obtain rfl := P99
                  refine gj_ii5 dX8_write_102 rfl rfl ?_
                  refine gj_goto dX8_write_105 ?_
                  rw [upw_upw, ovF_s _ _ hi.1 (by rw [cut_0, b2i_f h91])]
                  exact ih64 _ (by omega) (by omega)
                · refine gj_iconst dX8_write_94 ?_
                  refine gj_goto dX8_write_95 ?_
                  refine gj_cV2v dX8_write_99 mX8_258 hX7_put (upw_o (by decide) q26) rfl (by omega) rfl (tX7_put1  (by omega) ⟨(upw_o (by decide) q26), upw_s⟩ (by omega) (by omega)) (fun w99 P99 => ?_)
                  obtain rfl := P99
                  refine gj_ii5 dX8_write_102 rfl rfl ?_
                  refine gj_goto dX8_write_105 ?_
                  rw [upw_upw, ovF_s _ _ hi.1 (by rw [cut_1, b2i_t h91])]
                  exact ih64 _ (by omega) (by omega)
          exact loop64 _ 0 (by omega) (Nat.lt_succ_self _)
        · have e1 : lo1 = 1 ∧ fm 1 = -1 := d1.resolve_right (fun z => absurd z.1 (by omega))
          refine gj_al0 dX8_write_36 ?_
          refine gj_iconst dX8_write_37 ?_
          refine gj_cV1w dX8_write_38 mX8_127 hX8_found q0 rfl (by omega) rfl (tX8_found  (by omega) q0) (fun w38 P38 => ?_)
          obtain rfl := P38
          exact gj_iret dX8_write_41 rfl (Or.inr (Or.inl ⟨⟨by omega, by omega, by omega⟩, e1.2, rfl, ⟨⟨upw_s, ⟨_, _, _, _, _, _, ⟨(upw_o (by decide) q1), (upw_o (by decide) q2), (upw_o (by decide) q3), (upw_o (by decide) q4), (upw_o (by decide) q5), (upw_o (by decide) q6)⟩, hRd⟩, ⟨_, ⟨(upw_o (by decide) q9), (upw_o (by decide) q10), (upw_o (by decide) q11)⟩, ⟨(upw_o (by decide) q7), (upw_o (by decide) q8)⟩, hO⟩, ⟨_, _, _, (upw_o (by decide) q12), (upw_o (by decide) q13), (upw_o (by decide) q14)⟩, ⟨_, (upw_o (by decide) q15)⟩, hbm, ⟨_, _, _, B, _, _, (upw_o (by decide) q16), (upw_o (by decide) q17), (upw_o (by decide) q18)⟩, ⟨⟨(upw_o (by decide) q19), (upw_o (by decide) q20), (upw_o (by decide) q21), (upw_o (by decide) q22)⟩, hMm⟩, ⟨⟨_, (upw_o (by decide) q23), s0, s1, s2, s3⟩, ⟨_, _, _, _, (upw_o (by decide) q24), (upw_o (by decide) q25), r0, d0⟩, ⟨_, _, _, _, (upw_o (by decide) q26), (upw_o (by decide) q27), r1, d1⟩, ⟨_, _, _, _, (upw_o (by decide) q28), (upw_o (by decide) q29), r2, d2⟩, ⟨_, _, _, _, (upw_o (by decide) q30), (upw_o (by decide) q31), r3, d3⟩⟩⟩, (fun k hk => upw_o (by omega) ((fun (k : Nat) (_ : 32 ≤ k) => rfl) k hk))⟩⟩))
      · exact absurd (by omega) h18
set_option maxRecDepth 20000 in
set_option maxHeartbeats 4000000 in
theorem tWrite2 {l : Launch} {x : Cx} {d : Nat} {w : AW} {tx : Int → Int} {by0 : Int} {ru fa fe : Int → Int} {fc lw br me : Int} {mh ml mw : Int → Int} {mn fi : Int} {fm ln : Int → Int} {it : Int → Int → Int} {l0 h : Int} (hd : 3 ≤ d) (hC : ClassC w tx by0 ru fa fe fc lw br me mh ml mw mn fi fm ln it) (hl0 : R32 l0) (hh : R32 h) : Mt l x iX8_write d 0 0 50 w [vR 0, vI l0, vI h, vI 2] (fun v2 w2 => (((0 ≤ l0 ∧ l0 ≤ 7) ∧ (0 ≤ h ∧ h ≤ 671) ∧ (0 ≤ (2 : Int) ∧ (2 : Int) ≤ 3)) ∧ fm (2 : Int) ≠ -1 ∧ v2 = some (vI (min (ln (2 : Int)) (672 - h))) ∧ ClassC w2 tx by0 ru fa fe fc lw br me mh ml mw mn fi fm ln (upi it (2 : Int) (ovF (it (2 : Int)) (fun k => b2i ((warB lw fa ru fe fc) (h + k) l0 = true)) (min (ln (2 : Int)) (672 - h)))) ∧ ∀ k : Nat, 32 ≤ k → w2 k = w k) ∨ (((0 ≤ l0 ∧ l0 ≤ 7) ∧ (0 ≤ h ∧ h ≤ 671) ∧ (0 ≤ (2 : Int) ∧ (2 : Int) ≤ 3)) ∧ fm (2 : Int) = -1 ∧ v2 = some (vI (-11)) ∧ ClassC w2 tx by0 ru fa fe fc lw br me mh ml mw mn 1 fm ln it ∧ ∀ k : Nat, 32 ≤ k → w2 k = w k) ∨ (¬ ((0 ≤ l0 ∧ l0 ≤ 7) ∧ (0 ≤ h ∧ h ≤ 671) ∧ (0 ≤ (2 : Int) ∧ (2 : Int) ≤ 3)) ∧ v2 = some (vI (-2)) ∧ w2 = w)) := by
  have hC0 := hC
  obtain ⟨q0, ⟨on, ot, ho, wy, nu, fl, ⟨q1, q2, q3, q4, q5, q6⟩, hRd⟩, ⟨fd, ⟨q9, q10, q11⟩, ⟨q7, q8⟩, hO⟩, ⟨la, be, ne, q12, q13, q14⟩, ⟨sl, q15⟩, hbm, ⟨go, st, bn, B, ra, rb, q16, q17, q18⟩, ⟨⟨q19, q20, q21, q22⟩, hMm⟩, hSh⟩ := hC
  have hW : WarC w fa (warB lw fa ru fe fc) := ⟨fe, ru, fc, fd, lw, ⟨q9, q10, q11⟩, ⟨q7, q8⟩, hO, rfl⟩
  have hE := hRd.ed
  have hM := hRd.mat
  obtain ⟨⟨sf, q23, s0, s1, s2, s3⟩, ⟨fo0, le0, lo0, g0, q24, q25, r0, d0⟩, ⟨fo1, le1, lo1, g1, q26, q27, r1, d1⟩, ⟨fo2, le2, lo2, g2, q28, q29, r2, d2⟩, ⟨fo3, le3, lo3, g3, q30, q31, r3, d3⟩⟩ := hSh
  refine Mt.of (L0 := [some (vR 0), some (vI l0), some (vI h), some (vI 2), none, none]) rfl rfl rfl ?_
  refine gj_il1 dX8_write_0 ?_
  refine gj_cS1r dX8_write_1 mX8_104 hX8_isLand (by omega) rfl (tX8_isLand  (by omega) (by omega)) ?_
  refine gj_ifB_eq dX8_write_4 (fun h4 => ?_) (fun h4 => ?_)
  · refine gj_bipush dX8_write_21 rfl ?_
    exact gj_iret dX8_write_23 rfl (Or.inr (Or.inr ⟨by omega, rfl, rfl⟩))
  · refine gj_il2 dX8_write_7 ?_
    refine gj_cS1r dX8_write_8 mX8_154 hX8_isHour (by omega) rfl (tX8_isHour  (by omega) (by omega)) ?_
    refine gj_ifB_eq dX8_write_11 (fun h11 => ?_) (fun h11 => ?_)
    · refine gj_bipush dX8_write_21 rfl ?_
      exact gj_iret dX8_write_23 rfl (Or.inr (Or.inr ⟨by omega, rfl, rfl⟩))
    · refine gj_il3 dX8_write_14 ?_
      refine gj_cS1r dX8_write_15 mX8_120 hX8_isSheet (by omega) rfl (tX8_isSheet  (by omega) (by omega)) ?_
      refine gj_ifB_ne dX8_write_18 (fun h18 => ?_) (fun h18 => ?_)
      · refine gj_al0 dX8_write_24 ?_
        refine gj_get dX8_write_25 fX8_66 q0 rfl rfl ?_
        refine gj_il3 dX8_write_28 ?_
        refine gj_aald dX8_write_29 q23 rfl rfl (by omega) s2 ?_
        refine gj_get dX8_write_30 fX8_123 q28 rfl rfl ?_
        refine gj_if_eq dX8_write_33 (by omega) (fun h33 => ?_) (fun h33 => ?_)
        · obtain ⟨e2, y2, m2, n2, t2, v2⟩ : lo2 = 0 ∧ fm 2 = fo2 ∧ (0 ≤ fo2 ∧ fo2 ≤ 2) ∧ ln 2 = le2 ∧ (0 ≤ le2 ∧ le2 ≤ 60) ∧ ∀ j : Int, 0 ≤ j → j < le2 → g2 j = it 2 j ∧ R32 (g2 j) := d2.resolve_left (fun z => absurd z.1 (by omega))
          refine gj_al0 dX8_write_42 ?_
          refine gj_get dX8_write_43 fX8_66 q0 rfl rfl ?_
          refine gj_il3 dX8_write_46 ?_
          refine gj_aald dX8_write_47 q23 rfl rfl (by omega) s2 ?_
          refine gj_get dX8_write_48 fX8_130 q28 rfl rfl ?_
          refine gj_sipush dX8_write_51 rfl ?_
          refine gj_il2 dX8_write_54 ?_
          refine gj_isub dX8_write_55 ?_
          refine gj_min dX8_write_56 mX8_133 (by omega) rfl (by omega) ?_
          refine gj_is4 dX8_write_59 rfl rfl ?_
          refine gj_iconst dX8_write_61 ?_
          refine gj_is5 dX8_write_62 rfl rfl ?_
          refine gj_eq rfl rfl (show w = upw w 29 (cI 60 (ovF g2 (fun k => b2i ((warB lw fa ru fe fc) (h + k) l0 = true)) 0)) from (by rw [ovF_0, upw_same q29])) ?_
          have loop64 : ∀ (k : Nat), ∀ (c : Int), (0 ≤ c ∧ c ≤ min le2 (672 - h)) → (min le2 (672 - h) - c).toNat < k → Gj l x iX8_write d 0 0 50 (fun v2 w2 => (((0 ≤ l0 ∧ l0 ≤ 7) ∧ (0 ≤ h ∧ h ≤ 671) ∧ (0 ≤ (2 : Int) ∧ (2 : Int) ≤ 3)) ∧ fm (2 : Int) ≠ -1 ∧ v2 = some (vI (min (ln (2 : Int)) (672 - h))) ∧ ClassC w2 tx by0 ru fa fe fc lw br me mh ml mw mn fi fm ln (upi it (2 : Int) (ovF (it (2 : Int)) (fun k => b2i ((warB lw fa ru fe fc) (h + k) l0 = true)) (min (ln (2 : Int)) (672 - h)))) ∧ ∀ k : Nat, 32 ≤ k → w2 k = w k) ∨ (((0 ≤ l0 ∧ l0 ≤ 7) ∧ (0 ≤ h ∧ h ≤ 671) ∧ (0 ≤ (2 : Int) ∧ (2 : Int) ≤ 3)) ∧ fm (2 : Int) = -1 ∧ v2 = some (vI (-11)) ∧ ClassC w2 tx by0 ru fa fe fc lw br me mh ml mw mn 1 fm ln it ∧ ∀ k : Nat, 32 ≤ k → w2 k = w k) ∨ (¬ ((0 ≤ l0 ∧ l0 ≤ 7) ∧ (0 ≤ h ∧ h ≤ 671) ∧ (0 ≤ (2 : Int) ∧ (2 : Int) ≤ 3)) ∧ v2 = some (vI (-2)) ∧ w2 = w)) 0 0 50 (upw w 29 (cI 60 (ovF g2 (fun k => b2i ((warB lw fa ru fe fc) (h + k) l0 = true)) c))) 64 [some (vR 0), some (vI l0), some (vI h), some (vI 2), some (vI (min le2 (672 - h))), some (vI c)] [] := by
            intro k
            induction k with
            | zero => intro _ _ hm; exact absurd hm (Nat.not_lt_zero _)
            | succ k ih64 =>
              intro c  hi hm64
              refine gj_il5 dX8_write_64 ?_
              refine gj_il4 dX8_write_66 ?_
              refine gj_icmp_ge dX8_write_68 (by omega) (fun h68 => ?_) (fun h68 => ?_)
              · refine gj_il4 dX8_write_108 ?_
                exact gj_iret dX8_write_110 rfl (Or.inl ⟨⟨by omega, by omega, by omega⟩, by omega, by rw [n2], ⟨⟨(upw_o (by decide) q0), ⟨_, _, _, _, _, _, ⟨(upw_o (by decide) q1), (upw_o (by decide) q2), (upw_o (by decide) q3), (upw_o (by decide) q4), (upw_o (by decide) q5), (upw_o (by decide) q6)⟩, hRd⟩, ⟨_, ⟨(upw_o (by decide) q9), (upw_o (by decide) q10), (upw_o (by decide) q11)⟩, ⟨(upw_o (by decide) q7), (upw_o (by decide) q8)⟩, hO⟩, ⟨_, _, _, (upw_o (by decide) q12), (upw_o (by decide) q13), (upw_o (by decide) q14)⟩, ⟨_, (upw_o (by decide) q15)⟩, hbm, ⟨_, _, _, B, _, _, (upw_o (by decide) q16), (upw_o (by decide) q17), (upw_o (by decide) q18)⟩, ⟨⟨(upw_o (by decide) q19), (upw_o (by decide) q20), (upw_o (by decide) q21), (upw_o (by decide) q22)⟩, hMm⟩, ⟨⟨_, (upw_o (by decide) q23), s0, s1, s2, s3⟩, ⟨_, _, _, _, (upw_o (by decide) q24), (upw_o (by decide) q25), r0, d0⟩, ⟨_, _, _, _, (upw_o (by decide) q26), (upw_o (by decide) q27), r1, d1⟩, ⟨_, _, _, _, (upw_o (by decide) q28), upw_s, r2, Or.inr ⟨e2, y2, m2, n2, t2, fun q g8 g9 => by
                            show ovF g2 (fun k => b2i ((warB lw fa ru fe fc) (h + k) l0 = true)) c q = ovF (it 2) (fun k => b2i ((warB lw fa ru fe fc) (h + k) l0 = true)) (min (ln 2) (672 - h)) q ∧ R32 (ovF g2 (fun k => b2i ((warB lw fa ru fe fc) (h + k) l0 = true)) c q)
                            rw [n2, show min le2 (672 - h) = c by omega]
                            unfold ovF
                            by_cases z : 0 ≤ q ∧ q < c
                            · rw [if_pos z, if_pos z]; refine ⟨rfl, ?_⟩; show R32 (b2i ((warB lw fa ru fe fc) (h + q) l0 = true)); rcases b2i_R ((warB lw fa ru fe fc) (h + q) l0 = true) with z1 | z1 <;> rw [z1] <;> omega
                            · rw [if_neg z, if_neg z]; exact v2 q g8 g9⟩⟩, ⟨_, _, _, _, (upw_o (by decide) q30), (upw_o (by decide) q31), r3, d3⟩⟩⟩, (fun (k : Nat) (hk : 32 ≤ k) => (upw_o (by omega) rfl : upw w 29 _ k = w k))⟩⟩)
              · refine gj_al0 dX8_write_71 ?_
                refine gj_get dX8_write_72 fX8_66 (upw_o (by decide) q0) rfl rfl ?_
                refine gj_il3 dX8_write_75 ?_
                refine gj_aald dX8_write_76 (upw_o (by decide) q23) rfl rfl (by omega) s2 ?_
                refine gj_il5 dX8_write_77 ?_
                refine gj_al0 dX8_write_79 ?_
                refine gj_get dX8_write_80 fX8_28 (upw_o (by decide) q0) rfl rfl ?_
                refine gj_il2 dX8_write_83 ?_
                refine gj_il5 dX8_write_84 ?_
                refine gj_iadd dX8_write_86 ?_
                refine gj_il1 dX8_write_87 ?_
                refine gj_cV2r dX8_write_88 mX8_157 hX5_isWar (upw_o (by decide) q9) rfl (by omega) rfl (tWar  (by omega) (WarC.up (by decide) hW) (by omega) (by omega)) ?_
                refine gj_ifB_eq dX8_write_91 (fun h91 => ?_) (fun h91 => ?_)
                · refine gj_iconst dX8_write_98 ?_
                  refine gj_cV2v dX8_write_99 mX8_258 hX7_put (upw_o (by decide) q28) rfl (by omega) rfl (tX7_put2  (by omega) ⟨(upw_o (by decide) q28), upw_s⟩ (by omega) (by omega)) (fun w99 P99 => ?_)
                  obtain rfl := P99
                  refine gj_ii5 dX8_write_102 rfl rfl ?_
                  refine gj_goto dX8_write_105 ?_
                  rw [upw_upw, ovF_s _ _ hi.1 (by rw [cut_0, b2i_f h91])]
                  exact ih64 _ (by omega) (by omega)
                · refine gj_iconst dX8_write_94 ?_
                  refine gj_goto dX8_write_95 ?_
                  refine gj_cV2v dX8_write_99 mX8_258 hX7_put (upw_o (by decide) q28) rfl (by omega) rfl (tX7_put2  (by omega) ⟨(upw_o (by decide) q28), upw_s⟩ (by omega) (by omega)) (fun w99 P99 => ?_)
                  obtain rfl := P99
                  refine gj_ii5 dX8_write_102 rfl rfl ?_
                  refine gj_goto dX8_write_105 ?_
                  rw [upw_upw, ovF_s _ _ hi.1 (by rw [cut_1, b2i_t h91])]
                  exact ih64 _ (by omega) (by omega)
          exact loop64 _ 0 (by omega) (Nat.lt_succ_self _)
        · have e2 : lo2 = 1 ∧ fm 2 = -1 := d2.resolve_right (fun z => absurd z.1 (by omega))
          refine gj_al0 dX8_write_36 ?_
          refine gj_iconst dX8_write_37 ?_
          refine gj_cV1w dX8_write_38 mX8_127 hX8_found q0 rfl (by omega) rfl (tX8_found  (by omega) q0) (fun w38 P38 => ?_)
          obtain rfl := P38
          exact gj_iret dX8_write_41 rfl (Or.inr (Or.inl ⟨⟨by omega, by omega, by omega⟩, e2.2, rfl, ⟨⟨upw_s, ⟨_, _, _, _, _, _, ⟨(upw_o (by decide) q1), (upw_o (by decide) q2), (upw_o (by decide) q3), (upw_o (by decide) q4), (upw_o (by decide) q5), (upw_o (by decide) q6)⟩, hRd⟩, ⟨_, ⟨(upw_o (by decide) q9), (upw_o (by decide) q10), (upw_o (by decide) q11)⟩, ⟨(upw_o (by decide) q7), (upw_o (by decide) q8)⟩, hO⟩, ⟨_, _, _, (upw_o (by decide) q12), (upw_o (by decide) q13), (upw_o (by decide) q14)⟩, ⟨_, (upw_o (by decide) q15)⟩, hbm, ⟨_, _, _, B, _, _, (upw_o (by decide) q16), (upw_o (by decide) q17), (upw_o (by decide) q18)⟩, ⟨⟨(upw_o (by decide) q19), (upw_o (by decide) q20), (upw_o (by decide) q21), (upw_o (by decide) q22)⟩, hMm⟩, ⟨⟨_, (upw_o (by decide) q23), s0, s1, s2, s3⟩, ⟨_, _, _, _, (upw_o (by decide) q24), (upw_o (by decide) q25), r0, d0⟩, ⟨_, _, _, _, (upw_o (by decide) q26), (upw_o (by decide) q27), r1, d1⟩, ⟨_, _, _, _, (upw_o (by decide) q28), (upw_o (by decide) q29), r2, d2⟩, ⟨_, _, _, _, (upw_o (by decide) q30), (upw_o (by decide) q31), r3, d3⟩⟩⟩, (fun k hk => upw_o (by omega) ((fun (k : Nat) (_ : 32 ≤ k) => rfl) k hk))⟩⟩))
      · exact absurd (by omega) h18
set_option maxRecDepth 20000 in
set_option maxHeartbeats 4000000 in
theorem tWrite3 {l : Launch} {x : Cx} {d : Nat} {w : AW} {tx : Int → Int} {by0 : Int} {ru fa fe : Int → Int} {fc lw br me : Int} {mh ml mw : Int → Int} {mn fi : Int} {fm ln : Int → Int} {it : Int → Int → Int} {l0 h : Int} (hd : 3 ≤ d) (hC : ClassC w tx by0 ru fa fe fc lw br me mh ml mw mn fi fm ln it) (hl0 : R32 l0) (hh : R32 h) : Mt l x iX8_write d 0 0 50 w [vR 0, vI l0, vI h, vI 3] (fun v2 w2 => (((0 ≤ l0 ∧ l0 ≤ 7) ∧ (0 ≤ h ∧ h ≤ 671) ∧ (0 ≤ (3 : Int) ∧ (3 : Int) ≤ 3)) ∧ fm (3 : Int) ≠ -1 ∧ v2 = some (vI (min (ln (3 : Int)) (672 - h))) ∧ ClassC w2 tx by0 ru fa fe fc lw br me mh ml mw mn fi fm ln (upi it (3 : Int) (ovF (it (3 : Int)) (fun k => b2i ((warB lw fa ru fe fc) (h + k) l0 = true)) (min (ln (3 : Int)) (672 - h)))) ∧ ∀ k : Nat, 32 ≤ k → w2 k = w k) ∨ (((0 ≤ l0 ∧ l0 ≤ 7) ∧ (0 ≤ h ∧ h ≤ 671) ∧ (0 ≤ (3 : Int) ∧ (3 : Int) ≤ 3)) ∧ fm (3 : Int) = -1 ∧ v2 = some (vI (-11)) ∧ ClassC w2 tx by0 ru fa fe fc lw br me mh ml mw mn 1 fm ln it ∧ ∀ k : Nat, 32 ≤ k → w2 k = w k) ∨ (¬ ((0 ≤ l0 ∧ l0 ≤ 7) ∧ (0 ≤ h ∧ h ≤ 671) ∧ (0 ≤ (3 : Int) ∧ (3 : Int) ≤ 3)) ∧ v2 = some (vI (-2)) ∧ w2 = w)) := by
  have hC0 := hC
  obtain ⟨q0, ⟨on, ot, ho, wy, nu, fl, ⟨q1, q2, q3, q4, q5, q6⟩, hRd⟩, ⟨fd, ⟨q9, q10, q11⟩, ⟨q7, q8⟩, hO⟩, ⟨la, be, ne, q12, q13, q14⟩, ⟨sl, q15⟩, hbm, ⟨go, st, bn, B, ra, rb, q16, q17, q18⟩, ⟨⟨q19, q20, q21, q22⟩, hMm⟩, hSh⟩ := hC
  have hW : WarC w fa (warB lw fa ru fe fc) := ⟨fe, ru, fc, fd, lw, ⟨q9, q10, q11⟩, ⟨q7, q8⟩, hO, rfl⟩
  have hE := hRd.ed
  have hM := hRd.mat
  obtain ⟨⟨sf, q23, s0, s1, s2, s3⟩, ⟨fo0, le0, lo0, g0, q24, q25, r0, d0⟩, ⟨fo1, le1, lo1, g1, q26, q27, r1, d1⟩, ⟨fo2, le2, lo2, g2, q28, q29, r2, d2⟩, ⟨fo3, le3, lo3, g3, q30, q31, r3, d3⟩⟩ := hSh
  refine Mt.of (L0 := [some (vR 0), some (vI l0), some (vI h), some (vI 3), none, none]) rfl rfl rfl ?_
  refine gj_il1 dX8_write_0 ?_
  refine gj_cS1r dX8_write_1 mX8_104 hX8_isLand (by omega) rfl (tX8_isLand  (by omega) (by omega)) ?_
  refine gj_ifB_eq dX8_write_4 (fun h4 => ?_) (fun h4 => ?_)
  · refine gj_bipush dX8_write_21 rfl ?_
    exact gj_iret dX8_write_23 rfl (Or.inr (Or.inr ⟨by omega, rfl, rfl⟩))
  · refine gj_il2 dX8_write_7 ?_
    refine gj_cS1r dX8_write_8 mX8_154 hX8_isHour (by omega) rfl (tX8_isHour  (by omega) (by omega)) ?_
    refine gj_ifB_eq dX8_write_11 (fun h11 => ?_) (fun h11 => ?_)
    · refine gj_bipush dX8_write_21 rfl ?_
      exact gj_iret dX8_write_23 rfl (Or.inr (Or.inr ⟨by omega, rfl, rfl⟩))
    · refine gj_il3 dX8_write_14 ?_
      refine gj_cS1r dX8_write_15 mX8_120 hX8_isSheet (by omega) rfl (tX8_isSheet  (by omega) (by omega)) ?_
      refine gj_ifB_ne dX8_write_18 (fun h18 => ?_) (fun h18 => ?_)
      · refine gj_al0 dX8_write_24 ?_
        refine gj_get dX8_write_25 fX8_66 q0 rfl rfl ?_
        refine gj_il3 dX8_write_28 ?_
        refine gj_aald dX8_write_29 q23 rfl rfl (by omega) s3 ?_
        refine gj_get dX8_write_30 fX8_123 q30 rfl rfl ?_
        refine gj_if_eq dX8_write_33 (by omega) (fun h33 => ?_) (fun h33 => ?_)
        · obtain ⟨e3, y3, m3, n3, t3, v3⟩ : lo3 = 0 ∧ fm 3 = fo3 ∧ (0 ≤ fo3 ∧ fo3 ≤ 2) ∧ ln 3 = le3 ∧ (0 ≤ le3 ∧ le3 ≤ 60) ∧ ∀ j : Int, 0 ≤ j → j < le3 → g3 j = it 3 j ∧ R32 (g3 j) := d3.resolve_left (fun z => absurd z.1 (by omega))
          refine gj_al0 dX8_write_42 ?_
          refine gj_get dX8_write_43 fX8_66 q0 rfl rfl ?_
          refine gj_il3 dX8_write_46 ?_
          refine gj_aald dX8_write_47 q23 rfl rfl (by omega) s3 ?_
          refine gj_get dX8_write_48 fX8_130 q30 rfl rfl ?_
          refine gj_sipush dX8_write_51 rfl ?_
          refine gj_il2 dX8_write_54 ?_
          refine gj_isub dX8_write_55 ?_
          refine gj_min dX8_write_56 mX8_133 (by omega) rfl (by omega) ?_
          refine gj_is4 dX8_write_59 rfl rfl ?_
          refine gj_iconst dX8_write_61 ?_
          refine gj_is5 dX8_write_62 rfl rfl ?_
          refine gj_eq rfl rfl (show w = upw w 31 (cI 60 (ovF g3 (fun k => b2i ((warB lw fa ru fe fc) (h + k) l0 = true)) 0)) from (by rw [ovF_0, upw_same q31])) ?_
          have loop64 : ∀ (k : Nat), ∀ (c : Int), (0 ≤ c ∧ c ≤ min le3 (672 - h)) → (min le3 (672 - h) - c).toNat < k → Gj l x iX8_write d 0 0 50 (fun v2 w2 => (((0 ≤ l0 ∧ l0 ≤ 7) ∧ (0 ≤ h ∧ h ≤ 671) ∧ (0 ≤ (3 : Int) ∧ (3 : Int) ≤ 3)) ∧ fm (3 : Int) ≠ -1 ∧ v2 = some (vI (min (ln (3 : Int)) (672 - h))) ∧ ClassC w2 tx by0 ru fa fe fc lw br me mh ml mw mn fi fm ln (upi it (3 : Int) (ovF (it (3 : Int)) (fun k => b2i ((warB lw fa ru fe fc) (h + k) l0 = true)) (min (ln (3 : Int)) (672 - h)))) ∧ ∀ k : Nat, 32 ≤ k → w2 k = w k) ∨ (((0 ≤ l0 ∧ l0 ≤ 7) ∧ (0 ≤ h ∧ h ≤ 671) ∧ (0 ≤ (3 : Int) ∧ (3 : Int) ≤ 3)) ∧ fm (3 : Int) = -1 ∧ v2 = some (vI (-11)) ∧ ClassC w2 tx by0 ru fa fe fc lw br me mh ml mw mn 1 fm ln it ∧ ∀ k : Nat, 32 ≤ k → w2 k = w k) ∨ (¬ ((0 ≤ l0 ∧ l0 ≤ 7) ∧ (0 ≤ h ∧ h ≤ 671) ∧ (0 ≤ (3 : Int) ∧ (3 : Int) ≤ 3)) ∧ v2 = some (vI (-2)) ∧ w2 = w)) 0 0 50 (upw w 31 (cI 60 (ovF g3 (fun k => b2i ((warB lw fa ru fe fc) (h + k) l0 = true)) c))) 64 [some (vR 0), some (vI l0), some (vI h), some (vI 3), some (vI (min le3 (672 - h))), some (vI c)] [] := by
            intro k
            induction k with
            | zero => intro _ _ hm; exact absurd hm (Nat.not_lt_zero _)
            | succ k ih64 =>
              intro c  hi hm64
              refine gj_il5 dX8_write_64 ?_
              refine gj_il4 dX8_write_66 ?_
              refine gj_icmp_ge dX8_write_68 (by omega) (fun h68 => ?_) (fun h68 => ?_)
              · refine gj_il4 dX8_write_108 ?_
                exact gj_iret dX8_write_110 rfl (Or.inl ⟨⟨by omega, by omega, by omega⟩, by omega, by rw [n3], ⟨⟨(upw_o (by decide) q0), ⟨_, _, _, _, _, _, ⟨(upw_o (by decide) q1), (upw_o (by decide) q2), (upw_o (by decide) q3), (upw_o (by decide) q4), (upw_o (by decide) q5), (upw_o (by decide) q6)⟩, hRd⟩, ⟨_, ⟨(upw_o (by decide) q9), (upw_o (by decide) q10), (upw_o (by decide) q11)⟩, ⟨(upw_o (by decide) q7), (upw_o (by decide) q8)⟩, hO⟩, ⟨_, _, _, (upw_o (by decide) q12), (upw_o (by decide) q13), (upw_o (by decide) q14)⟩, ⟨_, (upw_o (by decide) q15)⟩, hbm, ⟨_, _, _, B, _, _, (upw_o (by decide) q16), (upw_o (by decide) q17), (upw_o (by decide) q18)⟩, ⟨⟨(upw_o (by decide) q19), (upw_o (by decide) q20), (upw_o (by decide) q21), (upw_o (by decide) q22)⟩, hMm⟩, ⟨⟨_, (upw_o (by decide) q23), s0, s1, s2, s3⟩, ⟨_, _, _, _, (upw_o (by decide) q24), (upw_o (by decide) q25), r0, d0⟩, ⟨_, _, _, _, (upw_o (by decide) q26), (upw_o (by decide) q27), r1, d1⟩, ⟨_, _, _, _, (upw_o (by decide) q28), (upw_o (by decide) q29), r2, d2⟩, ⟨_, _, _, _, (upw_o (by decide) q30), upw_s, r3, Or.inr ⟨e3, y3, m3, n3, t3, fun q g8 g9 => by
                            show ovF g3 (fun k => b2i ((warB lw fa ru fe fc) (h + k) l0 = true)) c q = ovF (it 3) (fun k => b2i ((warB lw fa ru fe fc) (h + k) l0 = true)) (min (ln 3) (672 - h)) q ∧ R32 (ovF g3 (fun k => b2i ((warB lw fa ru fe fc) (h + k) l0 = true)) c q)
                            rw [n3, show min le3 (672 - h) = c by omega]
                            unfold ovF
                            by_cases z : 0 ≤ q ∧ q < c
                            · rw [if_pos z, if_pos z]; refine ⟨rfl, ?_⟩; show R32 (b2i ((warB lw fa ru fe fc) (h + q) l0 = true)); rcases b2i_R ((warB lw fa ru fe fc) (h + q) l0 = true) with z1 | z1 <;> rw [z1] <;> omega
                            · rw [if_neg z, if_neg z]; exact v3 q g8 g9⟩⟩⟩⟩, (fun (k : Nat) (hk : 32 ≤ k) => (upw_o (by omega) rfl : upw w 31 _ k = w k))⟩⟩)
              · refine gj_al0 dX8_write_71 ?_
                refine gj_get dX8_write_72 fX8_66 (upw_o (by decide) q0) rfl rfl ?_
                refine gj_il3 dX8_write_75 ?_
                refine gj_aald dX8_write_76 (upw_o (by decide) q23) rfl rfl (by omega) s3 ?_
                refine gj_il5 dX8_write_77 ?_
                refine gj_al0 dX8_write_79 ?_
                refine gj_get dX8_write_80 fX8_28 (upw_o (by decide) q0) rfl rfl ?_
                refine gj_il2 dX8_write_83 ?_
                refine gj_il5 dX8_write_84 ?_
                refine gj_iadd dX8_write_86 ?_
                refine gj_il1 dX8_write_87 ?_
                refine gj_cV2r dX8_write_88 mX8_157 hX5_isWar (upw_o (by decide) q9) rfl (by omega) rfl (tWar  (by omega) (WarC.up (by decide) hW) (by omega) (by omega)) ?_
                refine gj_ifB_eq dX8_write_91 (fun h91 => ?_) (fun h91 => ?_)
                · refine gj_iconst dX8_write_98 ?_
                  refine gj_cV2v dX8_write_99 mX8_258 hX7_put (upw_o (by decide) q30) rfl (by omega) rfl (tX7_put3  (by omega) ⟨(upw_o (by decide) q30), upw_s⟩ (by omega) (by omega)) (fun w99 P99 => ?_)
                  obtain rfl := P99
                  refine gj_ii5 dX8_write_102 rfl rfl ?_
                  refine gj_goto dX8_write_105 ?_
                  rw [upw_upw, ovF_s _ _ hi.1 (by rw [cut_0, b2i_f h91])]
                  exact ih64 _ (by omega) (by omega)
                · refine gj_iconst dX8_write_94 ?_
                  refine gj_goto dX8_write_95 ?_
                  refine gj_cV2v dX8_write_99 mX8_258 hX7_put (upw_o (by decide) q30) rfl (by omega) rfl (tX7_put3  (by omega) ⟨(upw_o (by decide) q30), upw_s⟩ (by omega) (by omega)) (fun w99 P99 => ?_)
                  obtain rfl := P99
                  refine gj_ii5 dX8_write_102 rfl rfl ?_
                  refine gj_goto dX8_write_105 ?_
                  rw [upw_upw, ovF_s _ _ hi.1 (by rw [cut_1, b2i_t h91])]
                  exact ih64 _ (by omega) (by omega)
          exact loop64 _ 0 (by omega) (Nat.lt_succ_self _)
        · have e3 : lo3 = 1 ∧ fm 3 = -1 := d3.resolve_right (fun z => absurd z.1 (by omega))
          refine gj_al0 dX8_write_36 ?_
          refine gj_iconst dX8_write_37 ?_
          refine gj_cV1w dX8_write_38 mX8_127 hX8_found q0 rfl (by omega) rfl (tX8_found  (by omega) q0) (fun w38 P38 => ?_)
          obtain rfl := P38
          exact gj_iret dX8_write_41 rfl (Or.inr (Or.inl ⟨⟨by omega, by omega, by omega⟩, e3.2, rfl, ⟨⟨upw_s, ⟨_, _, _, _, _, _, ⟨(upw_o (by decide) q1), (upw_o (by decide) q2), (upw_o (by decide) q3), (upw_o (by decide) q4), (upw_o (by decide) q5), (upw_o (by decide) q6)⟩, hRd⟩, ⟨_, ⟨(upw_o (by decide) q9), (upw_o (by decide) q10), (upw_o (by decide) q11)⟩, ⟨(upw_o (by decide) q7), (upw_o (by decide) q8)⟩, hO⟩, ⟨_, _, _, (upw_o (by decide) q12), (upw_o (by decide) q13), (upw_o (by decide) q14)⟩, ⟨_, (upw_o (by decide) q15)⟩, hbm, ⟨_, _, _, B, _, _, (upw_o (by decide) q16), (upw_o (by decide) q17), (upw_o (by decide) q18)⟩, ⟨⟨(upw_o (by decide) q19), (upw_o (by decide) q20), (upw_o (by decide) q21), (upw_o (by decide) q22)⟩, hMm⟩, ⟨⟨_, (upw_o (by decide) q23), s0, s1, s2, s3⟩, ⟨_, _, _, _, (upw_o (by decide) q24), (upw_o (by decide) q25), r0, d0⟩, ⟨_, _, _, _, (upw_o (by decide) q26), (upw_o (by decide) q27), r1, d1⟩, ⟨_, _, _, _, (upw_o (by decide) q28), (upw_o (by decide) q29), r2, d2⟩, ⟨_, _, _, _, (upw_o (by decide) q30), (upw_o (by decide) q31), r3, d3⟩⟩⟩, (fun k hk => upw_o (by omega) ((fun (k : Nat) (_ : 32 ≤ k) => rfl) k hk))⟩⟩))
      · exact absurd (by omega) h18
set_option maxRecDepth 20000 in
set_option maxHeartbeats 4000000 in
theorem tWriteB {l : Launch} {x : Cx} {d : Nat} {w : AW} {tx : Int → Int} {by0 : Int} {ru fa fe : Int → Int} {fc lw br me : Int} {mh ml mw : Int → Int} {mn fi : Int} {fm ln : Int → Int} {it : Int → Int → Int} {s : Int} {l0 h : Int} (hd : 2 ≤ d) (hC : ClassC w tx by0 ru fa fe fc lw br me mh ml mw mn fi fm ln it) (hs : R32 s) (hl0 : R32 l0) (hh : R32 h) (hs9 : ¬ (0 ≤ s ∧ s ≤ 3)) : Mt l x iX8_write d 0 0 50 w [vR 0, vI l0, vI h, vI s] (fun v2 w2 => (((0 ≤ l0 ∧ l0 ≤ 7) ∧ (0 ≤ h ∧ h ≤ 671) ∧ (0 ≤ s ∧ s ≤ 3)) ∧ fm s ≠ -1 ∧ v2 = some (vI (min (ln s) (672 - h))) ∧ ClassC w2 tx by0 ru fa fe fc lw br me mh ml mw mn fi fm ln (upi it s (ovF (it s) (fun k => b2i ((warB lw fa ru fe fc) (h + k) l0 = true)) (min (ln s) (672 - h)))) ∧ ∀ k : Nat, 32 ≤ k → w2 k = w k) ∨ (((0 ≤ l0 ∧ l0 ≤ 7) ∧ (0 ≤ h ∧ h ≤ 671) ∧ (0 ≤ s ∧ s ≤ 3)) ∧ fm s = -1 ∧ v2 = some (vI (-11)) ∧ ClassC w2 tx by0 ru fa fe fc lw br me mh ml mw mn 1 fm ln it ∧ ∀ k : Nat, 32 ≤ k → w2 k = w k) ∨ (¬ ((0 ≤ l0 ∧ l0 ≤ 7) ∧ (0 ≤ h ∧ h ≤ 671) ∧ (0 ≤ s ∧ s ≤ 3)) ∧ v2 = some (vI (-2)) ∧ w2 = w)) := by
  have hC0 := hC
  obtain ⟨q0, ⟨on, ot, ho, wy, nu, fl, ⟨q1, q2, q3, q4, q5, q6⟩, hRd⟩, ⟨fd, ⟨q9, q10, q11⟩, ⟨q7, q8⟩, hO⟩, ⟨la, be, ne, q12, q13, q14⟩, ⟨sl, q15⟩, hbm, ⟨go, st, bn, B, ra, rb, q16, q17, q18⟩, ⟨⟨q19, q20, q21, q22⟩, hMm⟩, hSh⟩ := hC
  have hW : WarC w fa (warB lw fa ru fe fc) := ⟨fe, ru, fc, fd, lw, ⟨q9, q10, q11⟩, ⟨q7, q8⟩, hO, rfl⟩
  have hE := hRd.ed
  have hM := hRd.mat
  obtain ⟨⟨sf, q23, s0, s1, s2, s3⟩, ⟨fo0, le0, lo0, g0, q24, q25, r0, d0⟩, ⟨fo1, le1, lo1, g1, q26, q27, r1, d1⟩, ⟨fo2, le2, lo2, g2, q28, q29, r2, d2⟩, ⟨fo3, le3, lo3, g3, q30, q31, r3, d3⟩⟩ := hSh
  refine Mt.of (L0 := [some (vR 0), some (vI l0), some (vI h), some (vI s), none, none]) rfl rfl rfl ?_
  refine gj_il1 dX8_write_0 ?_
  refine gj_cS1r dX8_write_1 mX8_104 hX8_isLand (by omega) rfl (tX8_isLand  (by omega) (by omega)) ?_
  refine gj_ifB_eq dX8_write_4 (fun h4 => ?_) (fun h4 => ?_)
  · refine gj_bipush dX8_write_21 rfl ?_
    exact gj_iret dX8_write_23 rfl (Or.inr (Or.inr ⟨by omega, rfl, rfl⟩))
  · refine gj_il2 dX8_write_7 ?_
    refine gj_cS1r dX8_write_8 mX8_154 hX8_isHour (by omega) rfl (tX8_isHour  (by omega) (by omega)) ?_
    refine gj_ifB_eq dX8_write_11 (fun h11 => ?_) (fun h11 => ?_)
    · refine gj_bipush dX8_write_21 rfl ?_
      exact gj_iret dX8_write_23 rfl (Or.inr (Or.inr ⟨by omega, rfl, rfl⟩))
    · refine gj_il3 dX8_write_14 ?_
      refine gj_cS1r dX8_write_15 mX8_120 hX8_isSheet (by omega) rfl (tX8_isSheet  (by omega) (by omega)) ?_
      refine gj_ifB_ne dX8_write_18 (fun h18 => ?_) (fun h18 => ?_)
      · exact absurd h18 hs9
      · refine gj_bipush dX8_write_21 rfl ?_
        exact gj_iret dX8_write_23 rfl (Or.inr (Or.inr ⟨by omega, rfl, rfl⟩))
theorem tWrite {l : Launch} {x : Cx} {d : Nat} {w : AW} {tx : Int → Int} {by0 : Int} {ru fa fe : Int → Int} {fc lw br me : Int} {mh ml mw : Int → Int} {mn fi : Int} {fm ln : Int → Int} {it : Int → Int → Int} {s : Int} {l0 h : Int} (hd : 3 ≤ d) (hC : ClassC w tx by0 ru fa fe fc lw br me mh ml mw mn fi fm ln it) (hs : R32 s) (hl0 : R32 l0) (hh : R32 h) : Mt l x iX8_write d 0 0 50 w [vR 0, vI l0, vI h, vI s] (fun v2 w2 => (((0 ≤ l0 ∧ l0 ≤ 7) ∧ (0 ≤ h ∧ h ≤ 671) ∧ (0 ≤ s ∧ s ≤ 3)) ∧ fm s ≠ -1 ∧ v2 = some (vI (min (ln s) (672 - h))) ∧ ClassC w2 tx by0 ru fa fe fc lw br me mh ml mw mn fi fm ln (upi it s (ovF (it s) (fun k => b2i ((warB lw fa ru fe fc) (h + k) l0 = true)) (min (ln s) (672 - h)))) ∧ ∀ k : Nat, 32 ≤ k → w2 k = w k) ∨ (((0 ≤ l0 ∧ l0 ≤ 7) ∧ (0 ≤ h ∧ h ≤ 671) ∧ (0 ≤ s ∧ s ≤ 3)) ∧ fm s = -1 ∧ v2 = some (vI (-11)) ∧ ClassC w2 tx by0 ru fa fe fc lw br me mh ml mw mn 1 fm ln it ∧ ∀ k : Nat, 32 ≤ k → w2 k = w k) ∨ (¬ ((0 ≤ l0 ∧ l0 ≤ 7) ∧ (0 ≤ h ∧ h ≤ 671) ∧ (0 ≤ s ∧ s ≤ 3)) ∧ v2 = some (vI (-2)) ∧ w2 = w)) := by
  by_cases c : 0 ≤ s ∧ s ≤ 3
  · rcases (show s = 0 ∨ s = 1 ∨ s = 2 ∨ s = 3 by omega) with rfl | rfl | rfl | rfl
    · exact tWrite0 (by omega) hC hl0 hh
    · exact tWrite1 (by omega) hC hl0 hh
    · exact tWrite2 (by omega) hC hl0 hh
    · exact tWrite3 (by omega) hC hl0 hh
  · exact tWriteB (by omega) hC hs hl0 hh c
