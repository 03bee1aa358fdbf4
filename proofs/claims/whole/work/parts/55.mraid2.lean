/-! the model's ways: raids -/
abbrev gEnd (W : Int → Int → Bool) (wy : Int → Int) (f t h hm : Int) : Prop := (hm = 1 ∧ h + wy (f * 8 + t) ≤ 671) ∨ (hm = 0 ∧ W (h + wy (f * 8 + t)) t = true)
abbrev gFin (W : Int → Int → Bool) (wy nx : Int → Int) (f t h hm : Int) : Prop := wy (f * 8 + t) < 1000 ∧ pthN W wy nx t (wy (f * 8 + t)) h 8 (nx f) = true ∧ gEnd W wy f t h hm
def gInv (W : Int → Int → Bool) (wy nx : Int → Int) (f t h hm l0 now wl : Int) : Prop := (wl = 1 ∧ wy (l0 * 8 + t) < 1000 ∧ now = h + (wy (f * 8 + t) - wy (l0 * 8 + t)) ∧ (l0 = t → gFin W wy nx f t h hm) ∧ (l0 ≠ t → (gFin W wy nx f t h hm ↔ (pthN W wy nx t (wy (f * 8 + t)) h 8 (nx l0) = true ∧ gEnd W wy f t h hm)))) ∨ (wl = 0 ∧ ¬ gFin W wy nx f t h hm)
theorem go_y {W : Int → Int → Bool} {on ot ho wy : Int → Int} {nu f t h hm l0 nw : Int} (hE : EdOK on ot ho nu) (hG : GrOK on ot ho wy nu) (ht : In7 t) (hl : In7 l0) (hlt : l0 ≠ t) (hd : wy (l0 * 8 + t) < 1000) (hh : hm = 0 ∨ hm = 1) (hi : gFin W wy (fun q => nxtF on ot ho wy q t nu) f t h hm ↔ (pthN W wy (fun q => nxtF on ot ho wy q t nu) t (wy (f * 8 + t)) h 8 (nxtF on ot ho wy l0 t nu) = true ∧ gEnd W wy f t h hm)) (hn : nw = h + (wy (f * 8 + t) - wy (nxtF on ot ho wy l0 t nu * 8 + t))) (h6 : nw ≤ 671) (hy : W nw (nxtF on ot ho wy l0 t nu) = true ∨ (hm = 1 ∧ nxtF on ot ho wy l0 t nu = t)) : gInv W wy (fun q => nxtF on ot ho wy q t nu) f t h hm (nxtF on ot ho wy l0 t nu) nw 1 := by
  obtain ⟨n1, n2, -, -⟩ := nxt_ok hE hG hl ht hlt hd
  refine Or.inl ⟨rfl, by omega, hn, fun e => ?_, fun e => ?_⟩
  · rw [hi, e]
    refine ⟨pth_0, ?_⟩
    rw [e, hG.1 t ht] at hn
    rcases hh with z | z
    · refine Or.inr ⟨z, ?_⟩
      rcases hy with y | y
      · rw [e, hn, Int.sub_zero] at y; exact y
      · omega
    · exact Or.inl ⟨z, by omega⟩
  · rw [hi, pth_s hE hG ht n1 (by omega) e, ← hn]
    rcases hy with y | y
    · rw [y, Bool.true_and]
    · exact absurd y.2 e
theorem go_n {W : Int → Int → Bool} {on ot ho wy : Int → Int} {nu f t h hm l0 nw : Int} (hW : ∀ q l, W q l = true → q ≤ 671) (hE : EdOK on ot ho nu) (hG : GrOK on ot ho wy nu) (ht : In7 t) (hl : In7 l0) (hlt : l0 ≠ t) (hd : wy (l0 * 8 + t) < 1000) (hi : gFin W wy (fun q => nxtF on ot ho wy q t nu) f t h hm ↔ (pthN W wy (fun q => nxtF on ot ho wy q t nu) t (wy (f * 8 + t)) h 8 (nxtF on ot ho wy l0 t nu) = true ∧ gEnd W wy f t h hm)) (hn : nw = h + (wy (f * 8 + t) - wy (nxtF on ot ho wy l0 t nu * 8 + t))) (hy : 671 < nw ∨ (¬ W nw (nxtF on ot ho wy l0 t nu) = true ∧ (hm = 0 ∨ nxtF on ot ho wy l0 t nu ≠ t))) : gInv W wy (fun q => nxtF on ot ho wy q t nu) f t h hm (nxtF on ot ho wy l0 t nu) nw 0 := by
  obtain ⟨n1, n2, -, -⟩ := nxt_ok hE hG hl ht hlt hd
  refine Or.inr ⟨rfl, fun z => ?_⟩
  have z2 := hi.mp z
  by_cases e : nxtF on ot ho wy l0 t nu = t
  · rw [e, hG.1 t ht, Int.sub_zero] at hn
    rw [e] at hy
    rcases z2.2 with y | y
    · omega
    · have := hW _ _ y.2
      rw [hn] at hy
      rcases hy with q | q
      · omega
      · exact q.1 y.2
  · have z3 := z2.1
    rw [pth_s hE hG ht n1 (by omega) e, ← hn, Bool.and_eq_true] at z3
    have := hW _ _ z3.1
    rcases hy with q | q
    · omega
    · exact q.1 z3.1
theorem warB_671 {lw : Int} {fa ru fe : Int → Int} {fc : Int} : ∀ q l, warB lw fa ru fe fc q l = true → q ≤ 671 := fun q l h => (warB_iff.mp h).1.2
theorem pth_shift {W : Int → Int → Bool} {wy nx : Int → Int} {t off st off2 st2 : Int} (e : st + off = st2 + off2) : ∀ (k : Nat) (l0 : Int), pthN W wy nx t off st k l0 = pthN W wy nx t off2 st2 k l0
  | 0, _ => rfl
  | k + 1, l0 => by
    rw [pthN, pthN, pth_shift e k, show st + (off - wy (l0 * 8 + t)) = st2 + (off2 - wy (l0 * 8 + t)) by omega]
theorem str_no {W : Int → Int → Bool} {t off st : Int} : ∀ (n k : Nat), k < n → W (st + (off + (k : Int))) t = false → strN W t off st n = false
  | 0, k, h, _ => absurd h (by omega)
  | n + 1, k, h, hf => by
    rw [strN]
    by_cases c : k = n
    · subst c; rw [hf, Bool.and_false]
    · rw [str_no n k (by omega) hf, Bool.false_and]
theorem strZ_no {W : Int → Int → Bool} {t off st n i : Int} (h0 : 0 ≤ i) (h : i < n) (hf : W (st + (off + i)) t = false) : strZ W t off st n = false := str_no _ i.toNat (by omega) (by rw [show ((i.toNat : Nat) : Int) = i by omega]; exact hf)
theorem raid_iff {W : Int → Int → Bool} {on ot ho wy : Int → Int} {nu f t s h : Int} (hG : GrOK on ot ho wy nu) (hf : In7 f) (ht : In7 t) (hs : 1 ≤ s) : (wy (f * 8 + t) < 1000 ∧ raidB W on ot ho wy nu f t s h = true) ↔ (gFin W wy (fun q => nxtF on ot ho wy q t nu) f t h 0 ∧ strZ W t (wy (f * 8 + t)) h s = true ∧ gFin W wy (fun q => nxtF on ot ho wy q f nu) t f (h + wy (f * 8 + t) + s) 1) := by
  have sy := hG.2.2.1 t f ht hf
  unfold raidB
  simp only [Bool.and_eq_true, decide_eq_true_eq]
  rw [pth_shift (off2 := wy (f * 8 + t)) (st2 := h) (by omega), pth_shift (t := f) (off2 := wy (t * 8 + f)) (st2 := h + wy (f * 8 + t) + s) (by omega)]
  constructor
  · rintro ⟨h1, ⟨⟨h2, h3⟩, h4⟩, h5⟩
    have h6 : W (h + wy (f * 8 + t)) t = true := by
      by_cases c : W (h + wy (f * 8 + t)) t = true
      · exact c
      · rw [strZ_no (i := 0) (by omega) (by omega) (by rw [Int.add_zero]; simpa using c)] at h3
        exact absurd h3 (by decide)
    exact ⟨⟨h1, h2, Or.inr ⟨rfl, h6⟩⟩, h3, ⟨by omega, h4, Or.inl ⟨rfl, by omega⟩⟩⟩
  · rintro ⟨⟨h1, h2, h3⟩, h4, ⟨h5, h6, h7⟩⟩
    exact ⟨h1, ⟨⟨h2, h4⟩, h6⟩, by omega⟩
set_option maxRecDepth 20000 in
set_option maxHeartbeats 4000000 in
theorem tX9_wayOf {l : Launch} {x : Cx} {d : Nat} {w : AW} {fi by0 a0 fc lw le bs bl bp mn mo : Int} {rd tx fr : Int → Int} {a b k0 : Int} (hd : 3 ≤ d) (q32 : w 32 = (oM fi by0 a0 (numF tx by0) fc lw le bs bl bp mn mo)) (q38 : w 38 = cI 36 rd) (q43 : w 43 = cI 8 fr) (hT : TxOK tx by0) (hR : RdT rd tx (numF tx by0)) (ha : In7 a) (hb : In7 b) (hab : a ≠ b) (hk0 : R32 k0) : Mt l x iX9_wayOf d 0 0 50 w [vR 32, vI a, vI b, vI k0] (Wr (vI (if ((cWy tx by0) (a * 8 + b)) < 1000 then (if k0 = 0 then ((cWy tx by0) (a * 8 + b)) else (nxtF (mOn rd) (mOt rd) (mHo rd) (cWy tx by0) a b (numF tx by0))) else -1)) (fun w2 => ∃ f : Int → Int, w2 = upw w 43 (cI 8 f))) := by
  have hE := rdt_ed hT hR
  have hG := rdt_gr hT hR
  have n9 := numF_R (tx := tx) hT.1
  have w63 := fun z => way_le hE hG ha hb z
  have w0 := way_0 hG ha hb
  refine Mt.of (L0 := [some (vR 32), some (vI a), some (vI b), some (vI k0)]) rfl rfl rfl ?_
  refine gj_al0 dX9_wayOf_0 ?_
  refine gj_il2 dX9_wayOf_1 ?_
  refine gj_cV1v dX9_wayOf_2 mX9_191 hX9_findFar q32 rfl (by omega) rfl (tX9_findFar  (by omega) q32 q38 q43 hT hR (by omega)) (fun w2 P2 => ?_)
  obtain ⟨f2, rfl, fc2⟩ := P2
  have hv := fc2 a ha
  refine gj_al0 dX9_wayOf_5 ?_
  refine gj_get dX9_wayOf_6 fX9_40 (upw_o (by decide) q32) rfl rfl ?_
  refine gj_il1 dX9_wayOf_9 ?_
  refine gj_iald dX9_wayOf_10 upw_s rfl rfl (by omega) ?_
  refine gj_sipush dX9_wayOf_11 rfl ?_
  refine gj_icmp_lt dX9_wayOf_14 (by omega) (fun h14 => ?_) (fun h14 => ?_)
  · refine gj_il3 dX9_wayOf_21 ?_
    refine gj_if_ne dX9_wayOf_22 (by omega) (fun h22 => ?_) (fun h22 => ?_)
    · refine gj_al0 dX9_wayOf_34 ?_
      refine gj_il1 dX9_wayOf_35 ?_
      refine gj_cV1r dX9_wayOf_36 mX9_195 hX9_nextLand (upw_o (by decide) q32) rfl (by omega) rfl (tX9_nextLand  (by omega) (upw_o (by decide) q32) (upw_o (by decide) q38) upw_s hT hR fc2 hb ha hab (by omega)) ?_
      exact gj_iret dX9_wayOf_39 rfl (wr_i (by first | (rw [if_neg (show ¬ ((cWy tx by0) (a * 8 + b)) < 1000 by omega)]) | (rw [if_pos (show ((cWy tx by0) (a * 8 + b)) < 1000 by omega), if_pos (by omega)]; omega) | (rw [if_pos (show ((cWy tx by0) (a * 8 + b)) < 1000 by omega), if_neg (by omega)])) ⟨_, rfl⟩)
    · refine gj_al0 dX9_wayOf_25 ?_
      refine gj_get dX9_wayOf_26 fX9_40 (upw_o (by decide) q32) rfl rfl ?_
      refine gj_il1 dX9_wayOf_29 ?_
      refine gj_iald dX9_wayOf_30 upw_s rfl rfl (by omega) ?_
      refine gj_goto dX9_wayOf_31 ?_
      exact gj_iret dX9_wayOf_39 rfl (wr_i (by first | (rw [if_neg (show ¬ ((cWy tx by0) (a * 8 + b)) < 1000 by omega)]) | (rw [if_pos (show ((cWy tx by0) (a * 8 + b)) < 1000 by omega), if_pos (by omega)]; omega) | (rw [if_pos (show ((cWy tx by0) (a * 8 + b)) < 1000 by omega), if_neg (by omega)])) ⟨_, rfl⟩)
  · refine gj_iconst dX9_wayOf_17 ?_
    refine gj_goto dX9_wayOf_18 ?_
    exact gj_iret dX9_wayOf_39 rfl (wr_i (by first | (rw [if_neg (show ¬ ((cWy tx by0) (a * 8 + b)) < 1000 by omega)]) | (rw [if_pos (show ((cWy tx by0) (a * 8 + b)) < 1000 by omega), if_pos (by omega)]; omega) | (rw [if_pos (show ((cWy tx by0) (a * 8 + b)) < 1000 by omega), if_neg (by omega)])) ⟨_, rfl⟩)
set_option maxRecDepth 20000 in
set_option maxHeartbeats 4000000 in
theorem tX9_goes {l : Launch} {x : Cx} {d : Nat} {w : AW} {fa ru fe : Int → Int} {fi by0 a0 fc lw le bs bl bp mn mo : Int} {rd tx fr : Int → Int} {a b h hm : Int} (hd : 3 ≤ d) (q32 : w 32 = (oM fi by0 a0 (numF tx by0) fc lw le bs bl bp mn mo)) (q38 : w 38 = cI 36 rd) (q39 : w 39 = cI 24 fa) (q40 : w 40 = cI 8 ru) (q41 : w 41 = cI 8 fe) (q43 : w 43 = cI 8 fr) (hT : TxOK tx by0) (hR : RdT rd tx (numF tx by0)) (hO : MoOK fa ru fe fc lw) (ha : In7 a) (hb : In7 b) (hab : a ≠ b) (hh : 0 ≤ h ∧ h ≤ 2000) (hhm : hm = 0 ∨ hm = 1) : Mt l x iX9_goes d 0 0 50 w [vR 32, vI a, vI b, vI h, vI hm] (Wr (vI (if gFin (warB lw fa ru fe fc) (cWy tx by0) (fun q => nxtF (mOn rd) (mOt rd) (mHo rd) (cWy tx by0) q b (numF tx by0)) a b h hm then h + ((cWy tx by0) (a * 8 + b)) else -1)) (fun w2 => ∃ f : Int → Int, w2 = upw w 43 (cI 8 f))) := by
  have hE := rdt_ed hT hR
  have hG := rdt_gr hT hR
  have n9 := numF_R (tx := tx) hT.1
  have w63 := fun z => way_le hE hG ha hb z
  have w0 := way_0 hG ha hb
  refine Mt.of (L0 := [some (vR 32), some (vI a), some (vI b), some (vI h), some (vI hm), none, none, none, none]) rfl rfl rfl ?_
  refine gj_al0 dX9_goes_0 ?_
  refine gj_il2 dX9_goes_1 ?_
  refine gj_cV1v dX9_goes_2 mX9_191 hX9_findFar q32 rfl (by omega) rfl (tX9_findFar  (by omega) q32 q38 q43 hT hR (by omega)) (fun w2 P2 => ?_)
  obtain ⟨f2, rfl, fc2⟩ := P2
  have hv := fc2 a ha
  have loop30 : ∀ (k : Nat), ∀ (l0 now wl : Int), (In7 l0) → (gInv (warB lw fa ru fe fc) (cWy tx by0) (fun q => nxtF (mOn rd) (mOt rd) (mHo rd) (cWy tx by0) q b (numF tx by0)) a b h hm l0 now wl) → (wl = 0 ∨ wl = 1) → ((cWy tx by0) (l0 * 8 + b) ≤ ((cWy tx by0) (a * 8 + b))) → (2 * (rkF (cWy tx by0) b l0) + wl).toNat < k → Gj l x iX9_goes d 0 0 50 (Wr (vI (if gFin (warB lw fa ru fe fc) (cWy tx by0) (fun q => nxtF (mOn rd) (mOt rd) (mHo rd) (cWy tx by0) q b (numF tx by0)) a b h hm then h + ((cWy tx by0) (a * 8 + b)) else -1)) (fun w2 => ∃ f : Int → Int, w2 = upw w 43 (cI 8 f))) 0 0 50 (upw w 43 (cI 8 f2)) 30 [some (vR 32), some (vI a), some (vI b), some (vI h), some (vI hm), some (vI l0), some (vI now), some (vI wl), none] [] := by
    intro k
    induction k with
    | zero => intro _ _ _ _ _ _ _ hm; exact absurd hm (Nat.not_lt_zero _)
    | succ k ih30 =>
      intro l0 now wl  hl hI hwl hle hm30
      refine gj_il7 dX9_goes_30 ?_
      refine gj_if_eq dX9_goes_32 (by omega) (fun h32 => ?_) (fun h32 => ?_)
      · refine gj_il7 dX9_goes_106 ?_
        refine gj_if_eq dX9_goes_108 (by omega) (fun h108 => ?_) (fun h108 => ?_)
        · refine gj_iconst dX9_goes_116 ?_
          exact gj_iret dX9_goes_117 rfl (wr_i (by rcases hI with z | z; (exact absurd z.1 (by omega)); (rw [if_neg z.2])) ⟨_, rfl⟩)
        · refine gj_il6 dX9_goes_111 ?_
          refine gj_goto dX9_goes_113 ?_
          exact gj_iret dX9_goes_117 rfl (wr_i (by omega) ⟨_, rfl⟩)
      · refine gj_il5 dX9_goes_35 ?_
        refine gj_il2 dX9_goes_37 ?_
        refine gj_icmp_eq dX9_goes_38 (by omega) (fun h38 => ?_) (fun h38 => ?_)
        · refine gj_il7 dX9_goes_106 ?_
          refine gj_if_eq dX9_goes_108 (by omega) (fun h108 => ?_) (fun h108 => ?_)
          · refine gj_iconst dX9_goes_116 ?_
            exact gj_iret dX9_goes_117 rfl (wr_i (by omega) ⟨_, rfl⟩)
          · refine gj_il6 dX9_goes_111 ?_
            refine gj_goto dX9_goes_113 ?_
            exact gj_iret dX9_goes_117 rfl (wr_i (by rcases hI with z | z; (rw [if_pos (z.2.2.2.1 h38), z.2.2.1, h38, hG.1 b hb]; omega); (exact absurd z.1 (by omega))) ⟨_, rfl⟩)
        · obtain ⟨e1, e2, e3, e4, e5⟩ := hI.resolve_right (fun z => absurd z.1 h32)
          obtain ⟨n1, n2, n3, n4⟩ := nxt_ok hE hG hl hb h38 e2
          have nh := nx_hours hE hG hl hb h38 e2
          have k1 := rk_lt (wy := (cWy tx by0)) (t := b) n1 n2
          have k2 := rk_R (wy := (cWy tx by0)) (t := b) n1
          have m0 := way_0 hG n1 hb
          have m63 := way_le hE hG hl hb e2
          refine gj_al0 dX9_goes_41 ?_
          refine gj_il5 dX9_goes_42 ?_
          refine gj_cV1r dX9_goes_44 mX9_195 hX9_nextLand (upw_o (by decide) q32) rfl (by omega) rfl (tX9_nextLand  (by omega) (upw_o (by decide) q32) (upw_o (by decide) q38) upw_s hT hR fc2 hb hl h38 e2) ?_
          refine gj_is8 dX9_goes_47 rfl rfl ?_
          refine gj_il6 dX9_goes_49 ?_
          refine gj_al0 dX9_goes_51 ?_
          refine gj_il5 dX9_goes_52 ?_
          refine gj_il8 dX9_goes_54 ?_
          refine gj_cV2r dX9_goes_56 mX9_188 hX9_hoursOf (upw_o (by decide) q32) rfl (by omega) rfl (tX9_hoursOf  (by omega) (upw_o (by decide) q32) (upw_o (by decide) q38) hT hR (by omega) n1) ?_
          rw [nh]
          refine gj_iadd dX9_goes_59 ?_
          refine gj_is6 dX9_goes_60 rfl rfl ?_
          refine gj_il8 dX9_goes_62 ?_
          refine gj_is5 dX9_goes_64 rfl rfl ?_
          refine gj_il6 dX9_goes_66 ?_
          refine gj_sipush dX9_goes_68 rfl ?_
          refine gj_icmp_gt dX9_goes_71 (by omega) (fun h71 => ?_) (fun h71 => ?_)
          · refine gj_iconst dX9_goes_100 ?_
            refine gj_is7 dX9_goes_101 rfl rfl ?_
            refine gj_goto dX9_goes_103 ?_
            refine gj_dr8 ?_
            exact ih30 _ _ _ n1 (go_n warB_671 hE hG hb hl h38 e2 (e5 h38) (by omega) (Or.inl (by omega))) (by omega) (by omega) (by omega)
          · refine gj_al0 dX9_goes_74 ?_
            refine gj_il6 dX9_goes_75 ?_
            refine gj_il5 dX9_goes_77 ?_
            refine gj_cV2r dX9_goes_79 mX9_169 hX9_isWar (upw_o (by decide) q32) rfl (by omega) rfl (tX9_isWar  (by omega) ⟨⟨_, _, _, _, _, _, _, _, _, _, (upw_o (by decide) q32)⟩, (upw_o (by decide) q39), (upw_o (by decide) q40), (upw_o (by decide) q41)⟩ hO (by omega) (by omega)) ?_
            refine gj_ifB_ne dX9_goes_82 (fun h82 => ?_) (fun h82 => ?_)
            · refine gj_iconst dX9_goes_96 ?_
              refine gj_goto dX9_goes_97 ?_
              refine gj_is7 dX9_goes_101 rfl rfl ?_
              refine gj_goto dX9_goes_103 ?_
              refine gj_dr8 ?_
              exact ih30 _ _ _ n1 (go_y hE hG hb hl h38 e2 hhm (e5 h38) (by omega) (by omega) (Or.inl h82)) (by omega) (by omega) (by omega)
            · refine gj_il4 dX9_goes_85 ?_
              refine gj_if_eq dX9_goes_87 (by omega) (fun h87 => ?_) (fun h87 => ?_)
              · refine gj_iconst dX9_goes_100 ?_
                refine gj_is7 dX9_goes_101 rfl rfl ?_
                refine gj_goto dX9_goes_103 ?_
                refine gj_dr8 ?_
                exact ih30 _ _ _ n1 (go_n warB_671 hE hG hb hl h38 e2 (e5 h38) (by omega) (Or.inr ⟨h82, Or.inl h87⟩)) (by omega) (by omega) (by omega)
              · refine gj_il5 dX9_goes_90 ?_
                refine gj_il2 dX9_goes_92 ?_
                refine gj_icmp_ne dX9_goes_93 (by omega) (fun h93 => ?_) (fun h93 => ?_)
                · refine gj_iconst dX9_goes_100 ?_
                  refine gj_is7 dX9_goes_101 rfl rfl ?_
                  refine gj_goto dX9_goes_103 ?_
                  refine gj_dr8 ?_
                  exact ih30 _ _ _ n1 (go_n warB_671 hE hG hb hl h38 e2 (e5 h38) (by omega) (Or.inr ⟨h82, Or.inr h93⟩)) (by omega) (by omega) (by omega)
                · refine gj_iconst dX9_goes_96 ?_
                  refine gj_goto dX9_goes_97 ?_
                  refine gj_is7 dX9_goes_101 rfl rfl ?_
                  refine gj_goto dX9_goes_103 ?_
                  refine gj_dr8 ?_
                  exact ih30 _ _ _ n1 (go_y hE hG hb hl h38 e2 hhm (e5 h38) (by omega) (by omega) (Or.inr ⟨by omega, h93⟩)) (by omega) (by omega) (by omega)
  refine gj_il1 dX9_goes_5 ?_
  refine gj_is5 dX9_goes_6 rfl rfl ?_
  refine gj_il3 dX9_goes_8 ?_
  refine gj_is6 dX9_goes_9 rfl rfl ?_
  refine gj_al0 dX9_goes_11 ?_
  refine gj_get dX9_goes_12 fX9_40 (upw_o (by decide) q32) rfl rfl ?_
  refine gj_il1 dX9_goes_15 ?_
  refine gj_iald dX9_goes_16 upw_s rfl rfl (by omega) ?_
  refine gj_sipush dX9_goes_17 rfl ?_
  refine gj_icmp_ge dX9_goes_20 (by omega) (fun h20 => ?_) (fun h20 => ?_)
  · refine gj_iconst dX9_goes_27 ?_
    refine gj_is7 dX9_goes_28 rfl rfl ?_
    exact loop30 _ _ _ _ ha (Or.inr ⟨rfl, fun z => absurd z.1 (by omega)⟩) (by omega) (by omega) (Nat.lt_succ_self _)
  · refine gj_iconst dX9_goes_23 ?_
    refine gj_goto dX9_goes_24 ?_
    refine gj_is7 dX9_goes_28 rfl rfl ?_
    exact loop30 _ _ _ _ ha (Or.inl ⟨rfl, by omega, by omega, fun z => absurd z hab, fun _ => ⟨fun z => z.2, fun z => ⟨by omega, z⟩⟩⟩) (by omega) (by omega) (Nat.lt_succ_self _)
