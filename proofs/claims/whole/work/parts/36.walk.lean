set_option maxRecDepth 20000 in
set_option maxHeartbeats 4000000 in
theorem tX2_walk : ∀ (kk0 : Nat) {l : Launch} {x : Cx} {d : Nat} {w : AW} {f9 : List AV} {fa : Int → Int} {W : Int → Int → Bool} {tx on ot ho wy : Int → Int} {by0 nu fl : Int} {go st bn : Int} {B : BT} {ra rb : Int → Int} {row : Int → Int} {n hs ch : Int} (hd : kk0 + 5 ≤ d) (q9 : w 9 = cO 5 f9) (hW : WarC w fa W) (hA : RoadsAt w tx on ot ho wy by0 nu fl) (hE : EdOK on ot ho nu) (hH : HomAt w go st bn B ra rb) (hn : 8 - n ≤ (kk0 : Int)) (hRow : RowOK go n row) (hra : ∀ j : Int, 0 ≤ j → j ≤ n → ra j = row j) (hbn : ∀ q : Int, In7 q → tb bn q = visZ row q (n + 1)) (hB : BOK go 16777216 B) (hrb : ∀ j : Int, 0 ≤ j → j ≤ B.1 → rb j = B.2.2.2 j) (hg : In7 go) (hst : 0 ≤ st ∧ st ≤ 671) (hhs : 0 ≤ hs ∧ hs ≤ 9 * n) (hch : 0 ≤ ch ∧ ch ≤ 16777216), Mt l x iX2_walk d 0 0 50 w [vR 16, vI n, vI hs, vI ch] (Wv (fun w2 => ∃ (bn2 : Int) (ra2 rb2 : Int → Int), HomAt w2 go st bn2 (wlk W fa on ot ho nu go st kk0 n row hs ch B) ra2 rb2 ∧ (∀ j : Int, 0 ≤ j → j ≤ n → ra2 j = row j) ∧ (∀ q : Int, In7 q → tb bn2 q = visZ row q (n + 1)) ∧ BOK go 16777216 (wlk W fa on ot ho nu go st kk0 n row hs ch B) ∧ (∀ j : Int, 0 ≤ j → j ≤ (wlk W fa on ot ho nu go st kk0 n row hs ch B).1 → rb2 j = (wlk W fa on ot ho nu go st kk0 n row hs ch B).2.2.2 j) ∧ ∀ k : Nat, (k < 16 ∨ 18 < k) → w2 k = w k)) := by
  intro kk0
  induction kk0 with
  | zero =>
    intro l x d w f9 fa W tx on ot ho wy by0 nu fl go st bn B ra rb row n hs ch hd q9 hW hA hE hH hn hRow hra hbn hB hrb hg hst hhs hch
    exact absurd hn (by have := hRow.1; omega)
  | succ kk0 ihW =>
    intro l x d w f9 fa W tx on ot ho wy by0 nu fl go st bn B ra rb row n hs ch hd q9 hW hA hE hH hn hRow hra hbn hB hrb hg hst hhs hch
    obtain ⟨q1, q2, q3, q4, q5, q6⟩ := hA
    obtain ⟨q16, q17, q18⟩ := hH
    have har0 := hra n hRow.1.1 (Int.le_refl _)
    have rn0 := hRow.2.1 n hRow.1.1 (Int.le_refl _)
    have n8 := hRow.1
    have hFa := hW.fa
    refine Mt.of (L0 := [some (vR 16), some (vI n), some (vI hs), some (vI ch), none, none, none, none]) rfl rfl rfl ?_
    refine gj_al0 dX2_walk_0 ?_
    refine gj_get dX2_walk_1 fX2_9 q16 rfl rfl ?_
    refine gj_il1 dX2_walk_4 ?_
    refine gj_iald dX2_walk_5 q17 rfl rfl (by omega) ?_
    refine gj_al0 dX2_walk_6 ?_
    refine gj_get dX2_walk_7 fX2_36 q16 rfl rfl ?_
    rw [har0]
    refine gj_icmp_ne dX2_walk_10 (by omega) (fun h10 => ?_) (fun h10 => ?_)
    · refine gj_iconst dX2_walk_21 ?_
      refine gj_is4 dX2_walk_22 rfl rfl ?_
      have loop24 : ∀ (k : Nat), ∀ (w1 : AW), ∀ (bn1 : Int) (B1 : BT) (ra1 rb1 : Int → Int) (i : Int), (w1 16 = cO 2 [vR 1, vR 9, vR 17, vR 18, vI go, vI st, vI bn1, vI B1.1, vI B1.2.1, vI B1.2.2.1]) → (w1 17 = cI 8 ra1) → (w1 18 = cI 8 rb1) → (∀ k : Nat, (k < 16 ∨ 18 < k) → w1 k = w k) → (0 ≤ i ∧ i ≤ nu) → (B1 = wlR W fa on ot ho nu go st kk0 n row hs ch B i) → (∀ j : Int, 0 ≤ j → j ≤ n → ra1 j = row j) → (∀ q : Int, In7 q → tb bn1 q = visZ row q (n + 1)) → (BOK go 16777216 B1) → (∀ j : Int, 0 ≤ j → j ≤ B1.1 → rb1 j = B1.2.2.2 j) → (nu - i).toNat < k → Gj l x iX2_walk d 0 0 50 (Wv (fun w2 => ∃ (bn2 : Int) (ra2 rb2 : Int → Int), HomAt w2 go st bn2 (wlk W fa on ot ho nu go st (kk0 + 1) n row hs ch B) ra2 rb2 ∧ (∀ j : Int, 0 ≤ j → j ≤ n → ra2 j = row j) ∧ (∀ q : Int, In7 q → tb bn2 q = visZ row q (n + 1)) ∧ BOK go 16777216 (wlk W fa on ot ho nu go st (kk0 + 1) n row hs ch B) ∧ (∀ j : Int, 0 ≤ j → j ≤ (wlk W fa on ot ho nu go st (kk0 + 1) n row hs ch B).1 → rb2 j = (wlk W fa on ot ho nu go st (kk0 + 1) n row hs ch B).2.2.2 j) ∧ ∀ k : Nat, (k < 16 ∨ 18 < k) → w2 k = w k)) 0 0 50 w1 24 [some (vR 16), some (vI n), some (vI hs), some (vI ch), some (vI i), none, none, none] [] := by
        intro k
        induction k with
        | zero => intro _ _ _ _ _ _ _ _ _ _ _ _ _ _ _ _ hm; exact absurd hm (Nat.not_lt_zero _)
        | succ k ih24 =>
          intro w1 bn1 B1 ra1 rb1 i g16 g17 g18 fr hi hx hra1 hbn1 hB1 hrb1 hm24
          have har := hra1 n hRow.1.1 (Int.le_refl _)
          have rn := hRow.2.1 n hRow.1.1 (Int.le_refl _)
          have n6 := row_end hRow hg h10
          have n9 := hE.1
          refine gj_il1 dX2_walk_24 ?_
          refine gj_bipush dX2_walk_25 rfl ?_
          refine gj_icmp_ge dX2_walk_27 (by omega) (fun h27 => ?_) (fun h27 => ?_)
          · exact absurd h27 (by omega)
          · refine gj_il4 dX2_walk_30 ?_
            refine gj_al0 dX2_walk_32 ?_
            refine gj_get dX2_walk_33 fX2_18 g16 rfl rfl ?_
            refine gj_get dX2_walk_36 fX2_53 ((fr 1 (by decide)).trans q1) rfl rfl ?_
            refine gj_icmp_ge dX2_walk_39 (by omega) (fun h39 => ?_) (fun h39 => ?_)
            · exact gj_vret dX2_walk_199 rfl (wv_v (by rw [wlk_on h10, ← (show B1 = wlR W fa on ot ho nu go st kk0 n row hs ch B nu from by rw [hx, show i = nu by omega])]; exact ⟨bn1, ra1, rb1, ⟨g16, g17, g18⟩, hra1, hbn1, hB1, hrb1, fr⟩))
            · refine gj_al0 dX2_walk_42 ?_
              refine gj_get dX2_walk_43 fX2_18 g16 rfl rfl ?_
              refine gj_il4 dX2_walk_46 ?_
              refine gj_al0 dX2_walk_48 ?_
              refine gj_get dX2_walk_49 fX2_9 g16 rfl rfl ?_
              refine gj_il1 dX2_walk_52 ?_
              refine gj_iald dX2_walk_53 g17 rfl rfl (by omega) ?_
              rw [har]
              have a9 := acrF_R (l0 := row n) hE (r := i) (by omega)
              have e9 := hE.2 i hi.1 (by omega)
              refine gj_cV2r dX2_walk_54 mX2_58 hX6_across ((fr 1 (by decide)).trans q1) rfl (by omega) rfl (tX6_across  (by omega) ⟨((fr 1 (by decide)).trans q1), ((fr 2 (by decide)).trans q2), ((fr 3 (by decide)).trans q3), ((fr 4 (by decide)).trans q4), ((fr 5 (by decide)).trans q5), ((fr 6 (by decide)).trans q6)⟩ hE (by omega) (by omega)) ?_
              refine gj_is5 dX2_walk_57 rfl rfl ?_
              refine gj_il5 dX2_walk_59 ?_
              refine gj_iconst dX2_walk_61 ?_
              refine gj_icmp_eq dX2_walk_62 (by omega) (fun h62 => ?_) (fun h62 => ?_)
              · refine gj_ii4 dX2_walk_193 rfl rfl ?_
                refine gj_goto dX2_walk_196 ?_
                refine gj_dr5 ?_
                exact ih24 _ _ _ _ _ _ g16 g17 g18 fr (by omega) (by rw [wlR_s hi.1, if_neg (fun z => z.1 h62), hx]) hra1 hbn1 hB1 hrb1 (by omega)
              · have a7 := acr_in hE (r := i) (a := row n) (by omega) h62
                have bb := bShr_bit (v := bn1) (k := (acrF on ot i (row n))) (by omega)
                have b5 := bAnd_R (bShr bn1 (acrF on ot i (row n))) 1
                refine gj_al0 dX2_walk_65 ?_
                refine gj_get dX2_walk_66 fX2_42 g16 rfl rfl ?_
                refine gj_il5 dX2_walk_69 ?_
                refine gj_ishr dX2_walk_71 ?_
                refine gj_iconst dX2_walk_72 ?_
                refine gj_iand dX2_walk_73 ?_
                refine gj_if_ne dX2_walk_74 (by omega) (fun h74 => ?_) (fun h74 => ?_)
                · have hv9 : visZ row (acrF on ot i (row n)) (n + 1) = true := by
                    rw [← hbn1 _ a7.1]
                    by_cases z : tb bn1 (acrF on ot i (row n)) = true
                    · exact z
                    · rw [if_neg z] at bb; exact absurd bb h74
                  refine gj_ii4 dX2_walk_193 rfl rfl ?_
                  refine gj_goto dX2_walk_196 ?_
                  refine gj_dr5 ?_
                  exact ih24 _ _ _ _ _ _ g16 g17 g18 fr (by omega) (by rw [wlR_s hi.1, if_neg (fun z => by rw [hv9] at z; exact absurd z.2 (by simp)), hx]) hra1 hbn1 hB1 hrb1 (by omega)
                · have hv9 : visZ row (acrF on ot i (row n)) (n + 1) = false := by
                    rw [← hbn1 _ a7.1]
                    by_cases z : tb bn1 (acrF on ot i (row n)) = true
                    · rw [if_pos z] at bb; exact absurd (bb.symm.trans h74) (by omega)
                    · exact Bool.eq_false_iff.mpr z
                  refine gj_il2 dX2_walk_77 ?_
                  refine gj_al0 dX2_walk_78 ?_
                  refine gj_get dX2_walk_79 fX2_18 g16 rfl rfl ?_
                  refine gj_get dX2_walk_82 fX2_62 ((fr 1 (by decide)).trans q1) rfl rfl ?_
                  refine gj_il4 dX2_walk_85 ?_
                  refine gj_iald dX2_walk_87 ((fr 5 (by decide)).trans q5) rfl rfl (by omega) ?_
                  refine gj_iadd dX2_walk_88 ?_
                  refine gj_is6 dX2_walk_89 rfl rfl ?_
                  refine gj_il5 dX2_walk_91 ?_
                  refine gj_al0 dX2_walk_93 ?_
                  refine gj_get dX2_walk_94 fX2_36 g16 rfl rfl ?_
                  refine gj_icmp_eq dX2_walk_97 (by omega) (fun h97 => ?_) (fun h97 => ?_)
                  · refine gj_iconst dX2_walk_123 ?_
                    refine gj_is7 dX2_walk_124 rfl rfl ?_
                    refine gj_al0 dX2_walk_126 ?_
                    refine gj_get dX2_walk_127 fX2_9 g16 rfl rfl ?_
                    refine gj_il1 dX2_walk_130 ?_
                    refine gj_iconst dX2_walk_131 ?_
                    refine gj_iadd dX2_walk_132 ?_
                    refine gj_il5 dX2_walk_133 ?_
                    refine gj_iast dX2_walk_135 g17 rfl rfl (by omega) ?_
                    refine gj_al0 dX2_walk_136 ?_
                    refine gj_dupR dX2_walk_137 ?_
                    refine gj_get dX2_walk_138 fX2_42 (upw_o (by decide) g16) rfl rfl ?_
                    refine gj_iconst dX2_walk_141 ?_
                    refine gj_il5 dX2_walk_142 ?_
                    refine gj_ishl dX2_walk_144 ?_
                    refine gj_ior dX2_walk_145 ?_
                    refine gj_pI6 dX2_walk_146 fX2_42 (upw_o (by decide) g16) rfl ?_
                    refine gj_al0 dX2_walk_149 ?_
                    refine gj_il1 dX2_walk_150 ?_
                    refine gj_iconst dX2_walk_151 ?_
                    refine gj_iadd dX2_walk_152 ?_
                    refine gj_il6 dX2_walk_153 ?_
                    refine gj_il7 dX2_walk_155 ?_
                    refine gj_if_eq dX2_walk_157 (by omega) (fun _ => ?_) (fun h => absurd h (by omega))
                    refine gj_il3 dX2_walk_174 ?_
                    refine gj_cV3v dX2_walk_175 mX2_46 hX2_walk upw_s rfl (by omega) rfl (ihW  (by omega) (upw_o (by decide) (upw_o (by decide) ((fr 9 (by decide)).trans q9))) (WarC.up (by decide) (WarC.up (by decide) (WarC.fr (fun k g1 g2 => fr k (by omega)) hW))) ⟨(upw_o (by decide) (upw_o (by decide) ((fr 1 (by decide)).trans q1))), (upw_o (by decide) (upw_o (by decide) ((fr 2 (by decide)).trans q2))), (upw_o (by decide) (upw_o (by decide) ((fr 3 (by decide)).trans q3))), (upw_o (by decide) (upw_o (by decide) ((fr 4 (by decide)).trans q4))), (upw_o (by decide) (upw_o (by decide) ((fr 5 (by decide)).trans q5))), (upw_o (by decide) (upw_o (by decide) ((fr 6 (by decide)).trans q6)))⟩ hE ⟨upw_s, (upw_o (by decide) upw_s), (upw_o (by decide) (upw_o (by decide) g18))⟩ (by omega) (row_up hRow hg h10 a7.1 hv9) (fun j g0 g1 => by by_cases e : j = n + 1; (rw [e, upf_s, upf_s]); (rw [upf_o _ _ e, upf_o _ _ e]; exact hra1 j g0 (by omega))) (fun q hq => by rw [tb_or, tb_shl1 (by omega) (by omega), hbn1 q hq, visZ_up hRow.1.1]; congr 1; exact decide_eq_decide.mpr ⟨fun e => e.symm, fun e => e.symm⟩) hB1 hrb1 hg hst (by omega) (by omega)) (fun w175 P175 => ?_)
                    obtain ⟨bn175, ra175, rb175, ⟨qa175, qb175, qc175⟩, ja175, tq175, bo175, jb175, fr175⟩ := P175
                    refine gj_al0 dX2_walk_178 ?_
                    refine gj_dupR dX2_walk_179 ?_
                    refine gj_get dX2_walk_180 fX2_42 qa175 rfl rfl ?_
                    refine gj_iconst dX2_walk_183 ?_
                    refine gj_il5 dX2_walk_184 ?_
                    refine gj_ishl dX2_walk_186 ?_
                    refine gj_iconst dX2_walk_187 ?_
                    refine gj_ixor dX2_walk_188 ?_
                    refine gj_iand dX2_walk_189 ?_
                    refine gj_pI6 dX2_walk_190 fX2_42 qa175 rfl ?_
                    refine gj_ii4 dX2_walk_193 rfl rfl ?_
                    refine gj_goto dX2_walk_196 ?_
                    refine gj_dr5 ?_
                    refine gj_dr6 ?_
                    refine gj_dr7 ?_
                    exact ih24 _ _ _ _ _ _ upw_s (upw_o (by decide) qb175) (upw_o (by decide) qc175) (fun k hk => upw_o (by omega) ((fr175 k hk).trans (upw_o (by omega) (upw_o (by omega) (fr k hk))))) (by omega) (by rw [wlR_s hi.1, if_pos ⟨h62, hv9⟩, show chnF W fa go st (hs + ho i) (acrF on ot i (row n)) ch = ch from by unfold chnF; rw [if_neg (fun z => z.1 h97)], ← hx]) (fun j g0 g1 => by rw [ja175 j g0 (by omega), upf_o _ _ (by omega)]) (fun q hq => by rw [tb_and, tb_not (by omega), tb_shl1 (by omega) (by omega), tq175 q hq, visZ_up hRow.1.1]; by_cases e : q = (acrF on ot i (row n)); (subst e; rw [hv9]; simp); (rw [decide_eq_false e, decide_eq_false (fun z => e z.symm)]; simp)) bo175 jb175 (by omega)
                  · refine gj_al0 dX2_walk_100 ?_
                    refine gj_get dX2_walk_101 fX2_22 g16 rfl rfl ?_
                    refine gj_al0 dX2_walk_104 ?_
                    refine gj_get dX2_walk_105 fX2_39 g16 rfl rfl ?_
                    refine gj_il6 dX2_walk_108 ?_
                    refine gj_iadd dX2_walk_110 ?_
                    refine gj_il5 dX2_walk_111 ?_
                    refine gj_cV2r dX2_walk_113 mX2_65 hX5_isWar ((fr 9 (by decide)).trans q9) rfl (by omega) rfl (tWar  (by omega) (WarC.fr (fun k g1 g2 => fr k (by omega)) hW) (by omega) (by omega)) ?_
                    refine gj_ifB_eq dX2_walk_116 (fun h116 => ?_) (fun h116 => ?_)
                    · refine gj_iconst dX2_walk_123 ?_
                      refine gj_is7 dX2_walk_124 rfl rfl ?_
                      refine gj_al0 dX2_walk_126 ?_
                      refine gj_get dX2_walk_127 fX2_9 g16 rfl rfl ?_
                      refine gj_il1 dX2_walk_130 ?_
                      refine gj_iconst dX2_walk_131 ?_
                      refine gj_iadd dX2_walk_132 ?_
                      refine gj_il5 dX2_walk_133 ?_
                      refine gj_iast dX2_walk_135 g17 rfl rfl (by omega) ?_
                      refine gj_al0 dX2_walk_136 ?_
                      refine gj_dupR dX2_walk_137 ?_
                      refine gj_get dX2_walk_138 fX2_42 (upw_o (by decide) g16) rfl rfl ?_
                      refine gj_iconst dX2_walk_141 ?_
                      refine gj_il5 dX2_walk_142 ?_
                      refine gj_ishl dX2_walk_144 ?_
                      refine gj_ior dX2_walk_145 ?_
                      refine gj_pI6 dX2_walk_146 fX2_42 (upw_o (by decide) g16) rfl ?_
                      refine gj_al0 dX2_walk_149 ?_
                      refine gj_il1 dX2_walk_150 ?_
                      refine gj_iconst dX2_walk_151 ?_
                      refine gj_iadd dX2_walk_152 ?_
                      refine gj_il6 dX2_walk_153 ?_
                      refine gj_il7 dX2_walk_155 ?_
                      refine gj_if_eq dX2_walk_157 (by omega) (fun _ => ?_) (fun h => absurd h (by omega))
                      refine gj_il3 dX2_walk_174 ?_
                      refine gj_cV3v dX2_walk_175 mX2_46 hX2_walk upw_s rfl (by omega) rfl (ihW  (by omega) (upw_o (by decide) (upw_o (by decide) ((fr 9 (by decide)).trans q9))) (WarC.up (by decide) (WarC.up (by decide) (WarC.fr (fun k g1 g2 => fr k (by omega)) hW))) ⟨(upw_o (by decide) (upw_o (by decide) ((fr 1 (by decide)).trans q1))), (upw_o (by decide) (upw_o (by decide) ((fr 2 (by decide)).trans q2))), (upw_o (by decide) (upw_o (by decide) ((fr 3 (by decide)).trans q3))), (upw_o (by decide) (upw_o (by decide) ((fr 4 (by decide)).trans q4))), (upw_o (by decide) (upw_o (by decide) ((fr 5 (by decide)).trans q5))), (upw_o (by decide) (upw_o (by decide) ((fr 6 (by decide)).trans q6)))⟩ hE ⟨upw_s, (upw_o (by decide) upw_s), (upw_o (by decide) (upw_o (by decide) g18))⟩ (by omega) (row_up hRow hg h10 a7.1 hv9) (fun j g0 g1 => by by_cases e : j = n + 1; (rw [e, upf_s, upf_s]); (rw [upf_o _ _ e, upf_o _ _ e]; exact hra1 j g0 (by omega))) (fun q hq => by rw [tb_or, tb_shl1 (by omega) (by omega), hbn1 q hq, visZ_up hRow.1.1]; congr 1; exact decide_eq_decide.mpr ⟨fun e => e.symm, fun e => e.symm⟩) hB1 hrb1 hg hst (by omega) (by omega)) (fun w175 P175 => ?_)
                      obtain ⟨bn175, ra175, rb175, ⟨qa175, qb175, qc175⟩, ja175, tq175, bo175, jb175, fr175⟩ := P175
                      refine gj_al0 dX2_walk_178 ?_
                      refine gj_dupR dX2_walk_179 ?_
                      refine gj_get dX2_walk_180 fX2_42 qa175 rfl rfl ?_
                      refine gj_iconst dX2_walk_183 ?_
                      refine gj_il5 dX2_walk_184 ?_
                      refine gj_ishl dX2_walk_186 ?_
                      refine gj_iconst dX2_walk_187 ?_
                      refine gj_ixor dX2_walk_188 ?_
                      refine gj_iand dX2_walk_189 ?_
                      refine gj_pI6 dX2_walk_190 fX2_42 qa175 rfl ?_
                      refine gj_ii4 dX2_walk_193 rfl rfl ?_
                      refine gj_goto dX2_walk_196 ?_
                      refine gj_dr5 ?_
                      refine gj_dr6 ?_
                      refine gj_dr7 ?_
                      exact ih24 _ _ _ _ _ _ upw_s (upw_o (by decide) qb175) (upw_o (by decide) qc175) (fun k hk => upw_o (by omega) ((fr175 k hk).trans (upw_o (by omega) (upw_o (by omega) (fr k hk))))) (by omega) (by rw [wlR_s hi.1, if_pos ⟨h62, hv9⟩, show chnF W fa go st (hs + ho i) (acrF on ot i (row n)) ch = ch from by unfold chnF; rw [if_neg (fun z => h116 z.2)], ← hx]) (fun j g0 g1 => by rw [ja175 j g0 (by omega), upf_o _ _ (by omega)]) (fun q hq => by rw [tb_and, tb_not (by omega), tb_shl1 (by omega) (by omega), tq175 q hq, visZ_up hRow.1.1]; by_cases e : q = (acrF on ot i (row n)); (subst e; rw [hv9]; simp); (rw [decide_eq_false e, decide_eq_false (fun z => e z.symm)]; simp)) bo175 jb175 (by omega)
                    · refine gj_iconst dX2_walk_119 ?_
                      refine gj_goto dX2_walk_120 ?_
                      refine gj_is7 dX2_walk_124 rfl rfl ?_
                      refine gj_al0 dX2_walk_126 ?_
                      refine gj_get dX2_walk_127 fX2_9 g16 rfl rfl ?_
                      refine gj_il1 dX2_walk_130 ?_
                      refine gj_iconst dX2_walk_131 ?_
                      refine gj_iadd dX2_walk_132 ?_
                      refine gj_il5 dX2_walk_133 ?_
                      refine gj_iast dX2_walk_135 g17 rfl rfl (by omega) ?_
                      refine gj_al0 dX2_walk_136 ?_
                      refine gj_dupR dX2_walk_137 ?_
                      refine gj_get dX2_walk_138 fX2_42 (upw_o (by decide) g16) rfl rfl ?_
                      refine gj_iconst dX2_walk_141 ?_
                      refine gj_il5 dX2_walk_142 ?_
                      refine gj_ishl dX2_walk_144 ?_
                      refine gj_ior dX2_walk_145 ?_
                      refine gj_pI6 dX2_walk_146 fX2_42 (upw_o (by decide) g16) rfl ?_
                      refine gj_al0 dX2_walk_149 ?_
                      refine gj_il1 dX2_walk_150 ?_
                      refine gj_iconst dX2_walk_151 ?_
                      refine gj_iadd dX2_walk_152 ?_
                      refine gj_il6 dX2_walk_153 ?_
                      refine gj_il7 dX2_walk_155 ?_
                      refine gj_if_eq dX2_walk_157 (by omega) (fun h => absurd h (by omega)) (fun _ => ?_)
                      refine gj_il3 dX2_walk_160 ?_
                      refine gj_bipush dX2_walk_161 rfl ?_
                      have f7 := (hFa (acrF on ot i (row n)) a7.1.1 a7.1.2).2.2
                      have c5 := chn_R (W := W) (go := go) (st := st) (hs := hs + ho i) hFa a7.1 hch
                      unfold chnF at c5
                      rw [if_pos ⟨h97, h116⟩] at c5
                      refine gj_idiv dX2_walk_163 (by omega) (by omega) ?_
                      refine gj_al0 dX2_walk_164 ?_
                      refine gj_il5 dX2_walk_165 ?_
                      refine gj_cV1r dX2_walk_167 mX2_71 hX2_freeOf upw_s rfl (by omega) rfl (tX2_freeOf  (by omega) (upw_o (by decide) (upw_o (by decide) ((fr 9 (by decide)).trans q9))) (WarC.up (by decide) (WarC.up (by decide) (WarC.fr (fun k g1 g2 => fr k (by omega)) hW))) ⟨upw_s, (upw_o (by decide) upw_s), (upw_o (by decide) (upw_o (by decide) g18))⟩ (by omega)) ?_
                      refine gj_imul dX2_walk_170 ?_
                      refine gj_goto dX2_walk_171 ?_
                      refine gj_cV3v dX2_walk_175 mX2_46 hX2_walk upw_s rfl (by omega) rfl (ihW  (by omega) (upw_o (by decide) (upw_o (by decide) ((fr 9 (by decide)).trans q9))) (WarC.up (by decide) (WarC.up (by decide) (WarC.fr (fun k g1 g2 => fr k (by omega)) hW))) ⟨(upw_o (by decide) (upw_o (by decide) ((fr 1 (by decide)).trans q1))), (upw_o (by decide) (upw_o (by decide) ((fr 2 (by decide)).trans q2))), (upw_o (by decide) (upw_o (by decide) ((fr 3 (by decide)).trans q3))), (upw_o (by decide) (upw_o (by decide) ((fr 4 (by decide)).trans q4))), (upw_o (by decide) (upw_o (by decide) ((fr 5 (by decide)).trans q5))), (upw_o (by decide) (upw_o (by decide) ((fr 6 (by decide)).trans q6)))⟩ hE ⟨upw_s, (upw_o (by decide) upw_s), (upw_o (by decide) (upw_o (by decide) g18))⟩ (by omega) (row_up hRow hg h10 a7.1 hv9) (fun j g0 g1 => by by_cases e : j = n + 1; (rw [e, upf_s, upf_s]); (rw [upf_o _ _ e, upf_o _ _ e]; exact hra1 j g0 (by omega))) (fun q hq => by rw [tb_or, tb_shl1 (by omega) (by omega), hbn1 q hq, visZ_up hRow.1.1]; congr 1; exact decide_eq_decide.mpr ⟨fun e => e.symm, fun e => e.symm⟩) hB1 hrb1 hg hst (by omega) (by omega)) (fun w175 P175 => ?_)
                      obtain ⟨bn175, ra175, rb175, ⟨qa175, qb175, qc175⟩, ja175, tq175, bo175, jb175, fr175⟩ := P175
                      refine gj_al0 dX2_walk_178 ?_
                      refine gj_dupR dX2_walk_179 ?_
                      refine gj_get dX2_walk_180 fX2_42 qa175 rfl rfl ?_
                      refine gj_iconst dX2_walk_183 ?_
                      refine gj_il5 dX2_walk_184 ?_
                      refine gj_ishl dX2_walk_186 ?_
                      refine gj_iconst dX2_walk_187 ?_
                      refine gj_ixor dX2_walk_188 ?_
                      refine gj_iand dX2_walk_189 ?_
                      refine gj_pI6 dX2_walk_190 fX2_42 qa175 rfl ?_
                      refine gj_ii4 dX2_walk_193 rfl rfl ?_
                      refine gj_goto dX2_walk_196 ?_
                      refine gj_dr5 ?_
                      refine gj_dr6 ?_
                      refine gj_dr7 ?_
                      exact ih24 _ _ _ _ _ _ upw_s (upw_o (by decide) qb175) (upw_o (by decide) qc175) (fun k hk => upw_o (by omega) ((fr175 k hk).trans (upw_o (by omega) (upw_o (by omega) (fr k hk))))) (by omega) (by rw [wlR_s hi.1, if_pos ⟨h62, hv9⟩, show chnF W fa go st (hs + ho i) (acrF on ot i (row n)) ch = ch / 16 * (16 - fa (3 * (acrF on ot i (row n)) + 2)) from by unfold chnF; rw [if_pos ⟨h97, h116⟩], ← hx]) (fun j g0 g1 => by rw [ja175 j g0 (by omega), upf_o _ _ (by omega)]) (fun q hq => by rw [tb_and, tb_not (by omega), tb_shl1 (by omega) (by omega), tq175 q hq, visZ_up hRow.1.1]; by_cases e : q = (acrF on ot i (row n)); (subst e; rw [hv9]; simp); (rw [decide_eq_false e, decide_eq_false (fun z => e z.symm)]; simp)) bo175 jb175 (by omega)
      exact loop24 _ _ _ _ _ _ _ q16 q17 q18 (fun k _ => rfl) (by omega) rfl hra hbn hB hrb (Nat.lt_succ_self _)
    · refine gj_al0 dX2_walk_13 ?_
      refine gj_il1 dX2_walk_14 ?_
      refine gj_il2 dX2_walk_15 ?_
      refine gj_il3 dX2_walk_16 ?_
      refine gj_cV3v dX2_walk_17 mX2_50 hX2_arrive q16 rfl (by omega) rfl (tX2_arrive  (by omega) ⟨q16, q17, q18⟩ hRow h10 hra hB hrb (by omega) (by omega)) (fun w17 P17 => ?_)
      obtain ⟨rb17, ⟨qa17, qb17, qc17⟩, bo17, rl17, fr17⟩ := P17
      exact gj_vret dX2_walk_20 rfl (wv_v (by rw [wlk_go h10]; exact ⟨bn, ra, _, ⟨qa17, qb17, qc17⟩, hra, hbn, bo17, rl17, fr17⟩))
