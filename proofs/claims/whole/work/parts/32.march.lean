/-! contracts: March -/
abbrev MarAt (w : AW) (la be : Int → Int) (ne : Int) : Prop := w 12 = cO 3 [vR 1, vR 9, vR 13, vR 14, vI ne] ∧ w 13 = cI 24 la ∧ w 14 = cI 24 be
abbrev MarOK (la be : Int → Int) (ne : Int) : Prop := (0 ≤ ne ∧ ne ≤ 24) ∧ ∀ k : Int, 0 ≤ k → k < ne → In7 (la k) ∧ (0 ≤ be k ∧ be k ≤ 5000)
theorem mar_add {la be : Int → Int} {ne l0 h0 : Int} (h : MarOK la be ne) (hn : ne < 24) (hl : In7 l0) (hh : 0 ≤ h0 ∧ h0 ≤ 5000) : MarOK (upf la ne l0) (upf be ne h0) (ne + 1) := by
  refine ⟨by omega, fun k h0 h1 => ?_⟩
  by_cases e : k = ne
  · subst e
    rw [upf_s, upf_s]
    exact ⟨hl, hh⟩
  · rw [upf_o _ _ e, upf_o _ _ e]
    exact h.2 k h0 (by omega)
set_option maxRecDepth 20000 in
set_option maxHeartbeats 4000000 in
theorem tX3_need {l : Launch} {x : Cx} {d : Nat} {w : AW} {la be : Int → Int} {ne : Int} {l0 h0 : Int} (hd : 0 ≤ d) (hMa : MarAt w la be ne) (hn : 0 ≤ ne ∧ ne < 24) : Mt l x iX3_need d 0 0 50 w [vR 12, vI l0, vI h0] (Wv (fun w2 => w2 = upw (upw (upw w 13 (cI 24 (upf la ne l0))) 14 (cI 24 (upf be ne h0))) 12 (cO 3 [vR 1, vR 9, vR 13, vR 14, vI (ne + 1)]))) := by
  obtain ⟨q12, q13, q14⟩ := hMa
  refine Mt.of (L0 := [some (vR 12), some (vI l0), some (vI h0)]) rfl rfl rfl ?_
  refine gj_al0 dX3_need_0 ?_
  refine gj_get dX3_need_1 fX3_26 q12 rfl rfl ?_
  refine gj_bipush dX3_need_4 rfl ?_
  refine gj_icmp_ge dX3_need_6 (by omega) (fun h6 => ?_) (fun h6 => ?_)
  · exact absurd h6 (by omega)
  · refine gj_al0 dX3_need_9 ?_
    refine gj_get dX3_need_10 fX3_11 q12 rfl rfl ?_
    refine gj_al0 dX3_need_13 ?_
    refine gj_get dX3_need_14 fX3_26 q12 rfl rfl ?_
    refine gj_il1 dX3_need_17 ?_
    refine gj_iast dX3_need_18 q13 rfl rfl (by omega) ?_
    refine gj_al0 dX3_need_19 ?_
    refine gj_get dX3_need_20 fX3_15 (upw_o (by decide) q12) rfl rfl ?_
    refine gj_al0 dX3_need_23 ?_
    refine gj_get dX3_need_24 fX3_26 (upw_o (by decide) q12) rfl rfl ?_
    refine gj_il2 dX3_need_27 ?_
    refine gj_iast dX3_need_28 (upw_o (by decide) q14) rfl rfl (by omega) ?_
    refine gj_al0 dX3_need_29 ?_
    refine gj_dupR dX3_need_30 ?_
    refine gj_get dX3_need_31 fX3_26 (upw_o (by decide) (upw_o (by decide) q12)) rfl rfl ?_
    refine gj_iconst dX3_need_34 ?_
    refine gj_iadd dX3_need_35 ?_
    refine gj_pI4 dX3_need_36 fX3_26 (upw_o (by decide) (upw_o (by decide) q12)) rfl ?_
    exact gj_vret dX3_need_39 rfl (wv_v rfl)
set_option maxRecDepth 20000 in
set_option maxHeartbeats 4000000 in
theorem tX3_isAllowed {l : Launch} {x : Cx} {d : Nat} {w : AW} {f9 : List AV} {fa : Int → Int} {W : Int → Int → Bool} {la be : Int → Int} {ne : Int} {st : Int} (hd : 3 ≤ d) (q9 : w 9 = cO 5 f9) (hW : WarC w fa W) (hMa : MarAt w la be ne) (hO : MarOK la be ne) (hs : 0 ≤ st ∧ st ≤ 671) : Mt l x iX3_isAllowed d 0 0 50 w [vR 12, vI st] (Rd (vI (b2i (allZ W la be st ne = true))) w) := by
  obtain ⟨q12, q13, q14⟩ := hMa
  refine Mt.of (L0 := [some (vR 12), some (vI st), none]) rfl rfl rfl ?_
  refine gj_iconst dX3_isAllowed_0 ?_
  refine gj_is2 dX3_isAllowed_1 rfl rfl ?_
  have loop2 : ∀ (k : Nat), ∀ (i : Int), (0 ≤ i ∧ i ≤ ne) → (allZ W la be st i = true) → (ne - i).toNat < k → Gj l x iX3_isAllowed d 0 0 50 (Rd (vI (b2i (allZ W la be st ne = true))) w) 0 0 50 w 2 [some (vR 12), some (vI st), some (vI i)] [] := by
    intro k
    induction k with
    | zero => intro _ _ _ hm; exact absurd hm (Nat.not_lt_zero _)
    | succ k ih2 =>
      intro i  hi ha hm2
      refine gj_il2 dX3_isAllowed_2 ?_
      refine gj_al0 dX3_isAllowed_3 ?_
      refine gj_get dX3_isAllowed_4 fX3_26 q12 rfl rfl ?_
      refine gj_icmp_ge dX3_isAllowed_7 (by omega) (fun h7 => ?_) (fun h7 => ?_)
      · refine gj_iconst dX3_isAllowed_42 ?_
        exact gj_zret (Or.inr rfl) dX3_isAllowed_43 rfl (rd_i (b2i_t (by rw [show ne = i by omega]; exact ha)).symm)
      · have m1 := hO.2 i hi.1 (by omega)
        refine gj_al0 dX3_isAllowed_10 ?_
        refine gj_get dX3_isAllowed_11 fX3_22 q12 rfl rfl ?_
        refine gj_il1 dX3_isAllowed_14 ?_
        refine gj_al0 dX3_isAllowed_15 ?_
        refine gj_get dX3_isAllowed_16 fX3_15 q12 rfl rfl ?_
        refine gj_il2 dX3_isAllowed_19 ?_
        refine gj_iald dX3_isAllowed_20 q14 rfl rfl (by omega) ?_
        refine gj_iadd dX3_isAllowed_21 ?_
        refine gj_al0 dX3_isAllowed_22 ?_
        refine gj_get dX3_isAllowed_23 fX3_11 q12 rfl rfl ?_
        refine gj_il2 dX3_isAllowed_26 ?_
        refine gj_iald dX3_isAllowed_27 q13 rfl rfl (by omega) ?_
        refine gj_cV2r dX3_isAllowed_28 mX3_51 hX5_isWar q9 rfl (by omega) rfl (tWar  (by omega) hW (by omega) (by omega)) ?_
        refine gj_ifB_ne dX3_isAllowed_31 (fun h31 => ?_) (fun h31 => ?_)
        · refine gj_ii2 dX3_isAllowed_36 rfl rfl ?_
          refine gj_goto dX3_isAllowed_39 ?_
          exact ih2 _ (by omega) (by rw [allZ_s _ _ _ _ hi.1, ha, h31]; rfl) (by omega)
        · refine gj_iconst dX3_isAllowed_34 ?_
          exact gj_zret (Or.inl rfl) dX3_isAllowed_35 rfl (rd_i (b2i_f (by unfold allZ; rw [allN_no _ i.toNat (by omega) (by rw [show ((i.toNat : Nat) : Int) = i by omega]; exact Bool.eq_false_iff.mpr h31)]; exact Bool.false_ne_true)).symm)
  exact loop2 _ _ (by omega) rfl (Nat.lt_succ_self _)
set_option maxRecDepth 20000 in
set_option maxHeartbeats 4000000 in
theorem tX3_goBetween {l : Launch} {x : Cx} {d : Nat} {w : AW} {W : Int → Int → Bool} {tx on ot ho wy : Int → Int} {by0 nu fl : Int} {la be : Int → Int} {ne : Int} {a b c0 : Int} (hd : 2 ≤ d) (hA : RoadsAt w tx on ot ho wy by0 nu fl) (hE : EdOK on ot ho nu) (hM : MatOK wy) (hG : GrOK on ot ho wy nu) (hMa : MarAt w la be ne) (hO : MarOK la be ne) (hn6 : ne ≤ 18) (ha : In7 a) (hb : In7 b) (hab : a ≠ b) (hlt : wy (a * 8 + b) < 1000) (hc : 0 ≤ c0 ∧ c0 ≤ 2000) : Mt l x iX3_goBetween d 0 0 50 w [vR 12, vI a, vI b, vI c0] (Wv (fun w2 => ∃ (la2 be2 : Int → Int) (ne2 : Int), MarAt w2 la2 be2 ne2 ∧ MarOK la2 be2 ne2 ∧ (ne ≤ ne2 ∧ ne2 ≤ ne + 6) ∧ (∀ st : Int, allZ W la2 be2 st ne2 = (allZ W la be st ne && pthN W wy (fun q => nxtF on ot ho wy q b nu) b (c0 + wy (a * 8 + b)) st 8 (nxtF on ot ho wy a b nu))) ∧ ∀ k : Nat, (k < 12 ∨ 14 < k) → w2 k = w k)) := by
  obtain ⟨q1, q2, q3, q4, q5, q6⟩ := hA
  obtain ⟨q12, q13, q14⟩ := hMa
  have n9 := nxt_ok hE hG ha hb hab hlt
  have m9 := hM (a * 8 + b) (by omega) (by omega)
  have k9 := rk_lt (wy := wy) (t := b) n9.1 n9.2.1
  have k8 := rk_R (wy := wy) (t := b) ha
  have k7 := rk_R (wy := wy) (t := b) n9.1
  refine Mt.of (L0 := [some (vR 12), some (vI a), some (vI b), some (vI c0), none, none, none]) rfl rfl rfl ?_
  refine gj_al0 dX3_goBetween_0 ?_
  refine gj_get dX3_goBetween_1 fX3_18 q12 rfl rfl ?_
  refine gj_il1 dX3_goBetween_4 ?_
  refine gj_il2 dX3_goBetween_5 ?_
  refine gj_cV2r dX3_goBetween_6 mX3_30 hX6_shortest q1 rfl (by omega) rfl (tX6_shortest  (by omega) ⟨q1, q2, q3, q4, q5, q6⟩ (by omega) (by omega)) ?_
  refine gj_is4 dX3_goBetween_9 rfl rfl ?_
  refine gj_al0 dX3_goBetween_11 ?_
  refine gj_get dX3_goBetween_12 fX3_18 q12 rfl rfl ?_
  refine gj_il1 dX3_goBetween_15 ?_
  refine gj_il2 dX3_goBetween_16 ?_
  refine gj_cV2r dX3_goBetween_17 mX3_48 hX6_nextLand q1 rfl (by omega) rfl (tX6_nextLand  (by omega) ⟨q1, q2, q3, q4, q5, q6⟩ hE hM (by omega) (by omega)) ?_
  refine gj_is5 dX3_goBetween_20 rfl rfl ?_
  refine gj_iconst dX3_goBetween_22 ?_
  refine gj_is6 dX3_goBetween_23 rfl rfl ?_
  have loop25 : ∀ (k : Nat), ∀ (w1 : AW), ∀ (la1 be1 : Int → Int) (ne1 l1 i : Int), (w1 12 = cO 3 [vR 1, vR 9, vR 13, vR 14, vI ne1]) → (w1 13 = cI 24 la1) → (w1 14 = cI 24 be1) → (∀ k : Nat, (k < 12 ∨ 14 < k) → w1 k = w k) → (MarOK la1 be1 ne1) → (In7 l1 ∧ wy (l1 * 8 + b) < wy (a * 8 + b)) → (0 ≤ i ∧ i + rkF wy b l1 ≤ 6) → (ne ≤ ne1 ∧ ne1 ≤ ne + i) → (∀ st : Int, (allZ W la1 be1 st ne1 && pthN W wy (fun q => nxtF on ot ho wy q b nu) b (c0 + wy (a * 8 + b)) st 8 (l1)) = (allZ W la be st ne && pthN W wy (fun q => nxtF on ot ho wy q b nu) b (c0 + wy (a * 8 + b)) st 8 (nxtF on ot ho wy a b nu))) → (8 - i).toNat < k → Gj l x iX3_goBetween d 0 0 50 (Wv (fun w2 => ∃ (la2 be2 : Int → Int) (ne2 : Int), MarAt w2 la2 be2 ne2 ∧ MarOK la2 be2 ne2 ∧ (ne ≤ ne2 ∧ ne2 ≤ ne + 6) ∧ (∀ st : Int, allZ W la2 be2 st ne2 = (allZ W la be st ne && pthN W wy (fun q => nxtF on ot ho wy q b nu) b (c0 + wy (a * 8 + b)) st 8 (nxtF on ot ho wy a b nu))) ∧ ∀ k : Nat, (k < 12 ∨ 14 < k) → w2 k = w k)) 0 0 50 w1 25 [some (vR 12), some (vI a), some (vI b), some (vI c0), some (vI (wy (a * 8 + b))), some (vI l1), some (vI i)] [] := by
    intro k
    induction k with
    | zero => intro _ _ _ _ _ _ _ _ _ _ _ _ _ _ _ hm; exact absurd hm (Nat.not_lt_zero _)
    | succ k ih25 =>
      intro w1 la1 be1 ne1 l1 i g12 g13 g14 fr hO1 hl1 hi hne hrel hm25
      refine gj_il6 dX3_goBetween_25 ?_
      refine gj_bipush dX3_goBetween_27 rfl ?_
      have k6 := rk_R (wy := wy) (t := b) hl1.1
      refine gj_icmp_ge dX3_goBetween_29 (by omega) (fun h29 => ?_) (fun h29 => ?_)
      · exact absurd h29 (by omega)
      · refine gj_il5 dX3_goBetween_32 ?_
        refine gj_il2 dX3_goBetween_34 ?_
        refine gj_icmp_eq dX3_goBetween_35 (by omega) (fun h35 => ?_) (fun h35 => ?_)
        · exact gj_vret dX3_goBetween_83 rfl (wv_v ⟨la1, be1, ne1, ⟨g12, g13, g14⟩, hO1, by omega, (fun st => by rw [← hrel st, h35, pth_0, Bool.and_true]), fr⟩)
        · refine gj_il5 dX3_goBetween_38 ?_
          refine gj_iconst dX3_goBetween_40 ?_
          refine gj_icmp_eq dX3_goBetween_41 (by omega) (fun h41 => ?_) (fun h41 => ?_)
          · exact absurd h41 (by omega)
          · have m8 := hM (l1 * 8 + b) (by omega) (by omega)
            have n8 := nxt_ok hE hG hl1.1 hb h35 (by omega)
            have k5 := rk_lt (wy := wy) (t := b) n8.1 n8.2.1
            have p8 : rkF wy b l1 ≥ 1 := by
              have z1 := hG.1 b hb
              have z2 := (hG.2.1 l1 b hl1.1 hb h35).1
              have z3 := rk_lt (wy := wy) (t := b) (a := b) (b := l1) hb (by omega)
              have z4 := rk_R (wy := wy) (t := b) hb
              omega
            refine gj_al0 dX3_goBetween_44 ?_
            refine gj_il5 dX3_goBetween_45 ?_
            refine gj_il3 dX3_goBetween_47 ?_
            refine gj_il4 dX3_goBetween_48 ?_
            refine gj_iadd dX3_goBetween_50 ?_
            refine gj_al0 dX3_goBetween_51 ?_
            refine gj_get dX3_goBetween_52 fX3_18 g12 rfl rfl ?_
            refine gj_il5 dX3_goBetween_55 ?_
            refine gj_il2 dX3_goBetween_57 ?_
            refine gj_cV2r dX3_goBetween_58 mX3_30 hX6_shortest ((fr 1 (by decide)).trans q1) rfl (by omega) rfl (tX6_shortest  (by omega) ⟨((fr 1 (by decide)).trans q1), ((fr 2 (by decide)).trans q2), ((fr 3 (by decide)).trans q3), ((fr 4 (by decide)).trans q4), ((fr 5 (by decide)).trans q5), ((fr 6 (by decide)).trans q6)⟩ (by omega) (by omega)) ?_
            refine gj_isub dX3_goBetween_61 ?_
            refine gj_cV2v dX3_goBetween_62 mX3_40 hX3_need g12 rfl (by omega) rfl (tX3_need  (by omega) ⟨g12, g13, g14⟩ (by omega)) (fun w62 P62 => ?_)
            obtain rfl := P62
            refine gj_al0 dX3_goBetween_65 ?_
            refine gj_get dX3_goBetween_66 fX3_18 upw_s rfl rfl ?_
            refine gj_il5 dX3_goBetween_69 ?_
            refine gj_il2 dX3_goBetween_71 ?_
            refine gj_cV2r dX3_goBetween_72 mX3_48 hX6_nextLand (upw_o (by decide) (upw_o (by decide) (upw_o (by decide) ((fr 1 (by decide)).trans q1)))) rfl (by omega) rfl (tX6_nextLand  (by omega) ⟨(upw_o (by decide) (upw_o (by decide) (upw_o (by decide) ((fr 1 (by decide)).trans q1)))), (upw_o (by decide) (upw_o (by decide) (upw_o (by decide) ((fr 2 (by decide)).trans q2)))), (upw_o (by decide) (upw_o (by decide) (upw_o (by decide) ((fr 3 (by decide)).trans q3)))), (upw_o (by decide) (upw_o (by decide) (upw_o (by decide) ((fr 4 (by decide)).trans q4)))), (upw_o (by decide) (upw_o (by decide) (upw_o (by decide) ((fr 5 (by decide)).trans q5)))), (upw_o (by decide) (upw_o (by decide) (upw_o (by decide) ((fr 6 (by decide)).trans q6))))⟩ hE hM (by omega) (by omega)) ?_
            refine gj_is5 dX3_goBetween_75 rfl rfl ?_
            refine gj_ii6 dX3_goBetween_77 rfl rfl ?_
            refine gj_goto dX3_goBetween_80 ?_
            exact ih25 _ _ _ _ _ _ upw_s (upw_o (by decide) (upw_o (by decide) upw_s)) (upw_o (by decide) upw_s) (fun k hk => upw_o (by omega) (upw_o (by omega) (upw_o (by omega) (fr k hk)))) (mar_add hO1 (by omega) hl1.1 (by omega)) ⟨n8.1, by omega⟩ (by omega) (by omega) (fun st => by rw [allZ_add (by omega), Bool.and_assoc, ← pth_s hE hG hb hl1.1 (by omega) h35]; exact hrel st) (by omega)
  exact loop25 _ _ _ _ _ _ _ q12 q13 q14 (fun k _ => rfl) hO ⟨n9.1, n9.2.1⟩ (by omega) (by omega) (fun _ => rfl) (Nat.lt_succ_self _)
