/-! contract: March.firstStart -/
def MarC (w : AW) : Prop := ∃ (la be : Int → Int) (ne : Int), MarAt w la be ne
set_option maxRecDepth 20000 in
set_option maxHeartbeats 4000000 in
theorem tX3_firstStart {l : Launch} {x : Cx} {d : Nat} {w : AW} {f9 : List AV} {fa : Int → Int} {W : Int → Int → Bool} {tx on ot ho wy : Int → Int} {by0 nu fl : Int} {la be : Int → Int} {ne : Int} {a b s0 h0 : Int} (hd : 4 ≤ d) (q9 : w 9 = cO 5 f9) (hW : WarC w fa W) (hA : RoadsAt w tx on ot ho wy by0 nu fl) (hE : EdOK on ot ho nu) (hM : MatOK wy) (hG : GrOK on ot ho wy nu) (hMa : MarAt w la be ne) (ha : In7 a) (hb : In7 b) (hab : a ≠ b) (hlt : wy (a * 8 + b) < 1000) (hs : 1 ≤ s0 ∧ s0 ≤ 9) (hh : 0 ≤ h0 ∧ h0 ≤ 671) : Mt l x iX3_firstStart d 0 0 50 w [vR 12, vI a, vI b, vI s0, vI h0] (Wr (vI (raidF W on ot ho wy nu a b s0 h0)) (fun w2 => MarC w2 ∧ ∀ k : Nat, (k < 12 ∨ 14 < k) → w2 k = w k)) := by
  obtain ⟨q1, q2, q3, q4, q5, q6⟩ := hA
  obtain ⟨q12, q13, q14⟩ := hMa
  have m9 := hM (a * 8 + b) (by omega) (by omega)
  have sy := hG.2.2.1 a b ha hb
  refine Mt.of (L0 := [some (vR 12), some (vI a), some (vI b), some (vI s0), some (vI h0), none, none, none]) rfl rfl rfl ?_
  refine gj_al0 dX3_firstStart_0 ?_
  refine gj_iconst dX3_firstStart_1 ?_
  refine gj_pI4 dX3_firstStart_2 fX3_26 q12 rfl ?_
  refine gj_al0 dX3_firstStart_5 ?_
  refine gj_get dX3_firstStart_6 fX3_18 upw_s rfl rfl ?_
  refine gj_il1 dX3_firstStart_9 ?_
  refine gj_il2 dX3_firstStart_10 ?_
  refine gj_cV2r dX3_firstStart_11 mX3_30 hX6_shortest (upw_o (by decide) q1) rfl (by omega) rfl (tX6_shortest  (by omega) ⟨(upw_o (by decide) q1), (upw_o (by decide) q2), (upw_o (by decide) q3), (upw_o (by decide) q4), (upw_o (by decide) q5), (upw_o (by decide) q6)⟩ (by omega) (by omega)) ?_
  refine gj_is5 dX3_firstStart_14 rfl rfl ?_
  refine gj_al0 dX3_firstStart_16 ?_
  refine gj_il1 dX3_firstStart_17 ?_
  refine gj_il2 dX3_firstStart_18 ?_
  refine gj_iconst dX3_firstStart_19 ?_
  refine gj_cV3v dX3_firstStart_20 mX3_36 hX3_goBetween upw_s rfl (by omega) rfl (tX3_goBetween (W := W) (by omega) ⟨(upw_o (by decide) q1), (upw_o (by decide) q2), (upw_o (by decide) q3), (upw_o (by decide) q4), (upw_o (by decide) q5), (upw_o (by decide) q6)⟩ hE hM hG ⟨upw_s, (upw_o (by decide) q13), (upw_o (by decide) q14)⟩ ⟨by omega, fun k g0 g1 => absurd g1 (by omega)⟩ (by omega) ha hb hab hlt (by omega)) (fun w20 P20 => ?_)
  obtain ⟨la20, be20, ne20, ⟨qa20, qb20, qc20⟩, mo20, nb20, rl20, fr20⟩ := P20
  refine gj_iconst dX3_firstStart_23 ?_
  refine gj_is6 dX3_firstStart_24 rfl rfl ?_
  have loop26 : ∀ (k : Nat), ∀ (w1 : AW), ∀ (la1 be1 : Int → Int) (ne1 i : Int), (w1 12 = cO 3 [vR 1, vR 9, vR 13, vR 14, vI ne1]) → (w1 13 = cI 24 la1) → (w1 14 = cI 24 be1) → (∀ k : Nat, (k < 12 ∨ 14 < k) → w1 k = w k) → (MarOK la1 be1 ne1) → (0 ≤ i ∧ i ≤ s0) → (ne1 ≤ 6 + i) → (∀ st : Int, allZ W la1 be1 st ne1 = (pthN W wy (fun q => nxtF on ot ho wy q b nu) b (0 + wy (a * 8 + b)) st 8 (nxtF on ot ho wy a b nu) && strZ W b (wy (a * 8 + b)) st i)) → (s0 - i).toNat < k → Gj l x iX3_firstStart d 0 0 50 (Wr (vI (raidF W on ot ho wy nu a b s0 h0)) (fun w2 => MarC w2 ∧ ∀ k : Nat, (k < 12 ∨ 14 < k) → w2 k = w k)) 0 0 50 w1 26 [some (vR 12), some (vI a), some (vI b), some (vI s0), some (vI h0), some (vI (wy (a * 8 + b))), some (vI i), none] [] := by
    intro k
    induction k with
    | zero => intro _ _ _ _ _ _ _ _ _ _ _ _ _ hm; exact absurd hm (Nat.not_lt_zero _)
    | succ k ih26 =>
      intro w1 la1 be1 ne1 i g12 g13 g14 fr hO1 hi hne hrel hm26
      refine gj_il6 dX3_firstStart_26 ?_
      refine gj_il3 dX3_firstStart_28 ?_
      refine gj_icmp_ge dX3_firstStart_29 (by omega) (fun h29 => ?_) (fun h29 => ?_)
      · refine gj_al0 dX3_firstStart_48 ?_
        refine gj_il2 dX3_firstStart_49 ?_
        refine gj_il1 dX3_firstStart_50 ?_
        refine gj_il5 dX3_firstStart_51 ?_
        refine gj_il3 dX3_firstStart_53 ?_
        refine gj_iadd dX3_firstStart_54 ?_
        refine gj_cV3v dX3_firstStart_55 mX3_36 hX3_goBetween g12 rfl (by omega) rfl (tX3_goBetween (W := W) (by omega) ⟨((fr 1 (by decide)).trans q1), ((fr 2 (by decide)).trans q2), ((fr 3 (by decide)).trans q3), ((fr 4 (by decide)).trans q4), ((fr 5 (by decide)).trans q5), ((fr 6 (by decide)).trans q6)⟩ hE hM hG ⟨g12, g13, g14⟩ hO1 (by omega) hb ha (fun e => hab e.symm) (by omega) (by omega)) (fun w55 P55 => ?_)
        obtain ⟨la55, be55, ne55, ⟨qa55, qb55, qc55⟩, mo55, nb55, rl55, fr55⟩ := P55
        have rdB : ∀ st : Int, raidB W on ot ho wy nu a b s0 st = (allZ W la55 be55 st ne55 && decide (st + (wy (a * 8 + b) + s0 + wy (a * 8 + b)) < 672)) := by
          intro st
          rw [rl55 st, hrel st, show i = s0 by omega]
          rfl
        refine gj_il5 dX3_firstStart_58 ?_
        refine gj_il3 dX3_firstStart_60 ?_
        refine gj_iadd dX3_firstStart_61 ?_
        refine gj_il5 dX3_firstStart_62 ?_
        refine gj_iadd dX3_firstStart_64 ?_
        refine gj_is6 dX3_firstStart_65 rfl rfl ?_
        refine gj_il4 dX3_firstStart_67 ?_
        refine gj_is7 dX3_firstStart_69 rfl rfl ?_
        have loop71 : ∀ (k : Nat), ∀ (j : Int), (0 ≤ j ∧ j ≤ 672) → (fstZ (raidB W on ot ho wy nu a b s0) j 672 = fstZ (raidB W on ot ho wy nu a b s0) h0 672) → (672 - j).toNat < k → Gj l x iX3_firstStart d 0 0 50 (Wr (vI (raidF W on ot ho wy nu a b s0 h0)) (fun w2 => MarC w2 ∧ ∀ k : Nat, (k < 12 ∨ 14 < k) → w2 k = w k)) 0 0 50 w55 71 [some (vR 12), some (vI a), some (vI b), some (vI s0), some (vI h0), some (vI (wy (a * 8 + b))), some (vI (wy (a * 8 + b) + s0 + wy (a * 8 + b))), some (vI j)] [] := by
          intro k
          induction k with
          | zero => intro _ _ _ hm; exact absurd hm (Nat.not_lt_zero _)
          | succ k ih71 =>
            intro j  hj hf hm71
            refine gj_il7 dX3_firstStart_71 ?_
            refine gj_il6 dX3_firstStart_73 ?_
            refine gj_iadd dX3_firstStart_75 ?_
            refine gj_sipush dX3_firstStart_76 rfl ?_
            refine gj_icmp_ge dX3_firstStart_79 (by omega) (fun h79 => ?_) (fun h79 => ?_)
            · refine gj_iconst dX3_firstStart_100 ?_
              exact gj_iret dX3_firstStart_101 rfl (wr_i (by unfold raidF; rw [← hf, fstZ_nil _ j 672 rfl (fun i9 g0 g1 => by rw [rdB, decide_eq_false (by omega), Bool.and_false])]) ⟨⟨_, _, _, qa55, qb55, qc55⟩, fun k hk => (fr55 k hk).trans (fr k hk)⟩)
            · refine gj_al0 dX3_firstStart_82 ?_
              refine gj_il7 dX3_firstStart_83 ?_
              refine gj_cV1r dX3_firstStart_85 mX3_44 hX3_isAllowed qa55 rfl (by omega) rfl (tX3_isAllowed  (by omega) ((fr55 9 (by decide)).trans ((fr 9 (by decide)).trans q9)) (WarC.fr (fun k g1 g2 => fr55 k (by omega)) (WarC.fr (fun k g1 g2 => fr k (by omega)) hW)) ⟨qa55, qb55, qc55⟩ mo55 (by omega)) ?_
              refine gj_ifB_eq dX3_firstStart_88 (fun h88 => ?_) (fun h88 => ?_)
              · refine gj_ii7 dX3_firstStart_94 rfl rfl ?_
                refine gj_goto dX3_firstStart_97 ?_
                exact ih71 _ (by omega) (by rw [← hf, ← fstZ_no (by omega) (by rw [rdB]; exact fun e => h88 (by simpa using (Bool.and_eq_true _ _ ▸ e : _ ∧ _).1))]) (by omega)
              · refine gj_il7 dX3_firstStart_91 ?_
                exact gj_iret dX3_firstStart_93 rfl (wr_i (by unfold raidF; rw [← hf, fstZ_yes (by omega) (by rw [rdB, h88, decide_eq_true (by omega)]; rfl)]) ⟨⟨_, _, _, qa55, qb55, qc55⟩, fun k hk => (fr55 k hk).trans (fr k hk)⟩)
        exact loop71 _ _ (by omega) rfl (Nat.lt_succ_self _)
      · refine gj_al0 dX3_firstStart_32 ?_
        refine gj_il2 dX3_firstStart_33 ?_
        refine gj_il5 dX3_firstStart_34 ?_
        refine gj_il6 dX3_firstStart_36 ?_
        refine gj_iadd dX3_firstStart_38 ?_
        refine gj_cV2v dX3_firstStart_39 mX3_40 hX3_need g12 rfl (by omega) rfl (tX3_need  (by omega) ⟨g12, g13, g14⟩ (by omega)) (fun w39 P39 => ?_)
        obtain rfl := P39
        refine gj_ii6 dX3_firstStart_42 rfl rfl ?_
        refine gj_goto dX3_firstStart_45 ?_
        exact ih26 _ _ _ _ _ upw_s (upw_o (by decide) (upw_o (by decide) upw_s)) (upw_o (by decide) upw_s) (fun k hk => upw_o (by omega) (upw_o (by omega) (upw_o (by omega) (fr k hk)))) (mar_add hO1 (by omega) hb (by omega)) (by omega) (by omega) (fun st => by rw [allZ_add (by omega), hrel st, strZ_s _ _ _ _ hi.1, Bool.and_assoc]) (by omega)
  exact loop26 _ _ _ _ _ _ qa20 qb20 qc20 (fun k hk => (fr20 k hk).trans (upw_o (by omega) rfl)) mo20 (by omega) (by omega) (fun st => by rw [rl20 st]; show (true && _) = (_ && true); rw [Bool.true_and, Bool.and_true]) (Nat.lt_succ_self _)
