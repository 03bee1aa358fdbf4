/-! the model's findHome: a level of its search; K says what comes behind it -/
set_option maxRecDepth 20000 in
set_option maxHeartbeats 8000000 in
theorem fhLev {l : Launch} {x : Cx} {d : Nat} {w : AW} {Q : QT} {fa ru fe : Int → Int} {fi by0 a0 fc lw le mn mo : Int} {rd tx : Int → Int} {a t h : Int} (hd : 3 ≤ d) (q38 : w 38 = cI 36 rd) (q39 : w 39 = cI 24 fa) (q40 : w 40 = cI 8 ru) (q41 : w 41 = cI 8 fe) (hT : TxOK tx by0) (hR : RdT rd tx (numF tx by0)) (hO : MoOK fa ru fe fc lw) (ht : In7 t) (hh : 0 ≤ h ∧ h ≤ 671) : ∀ (kk0 : Nat) {w0 : AW} {bs0 bl0 bp0 : Int} {tr0 sp0 so0 lu0 bt0 : Int → Int} {n hs ch : Int} {row : Int → Int} {B : BT} (hn : 8 - n ≤ (kk0 : Int)) (hRow : RowOK t n row) (hng : row n ≠ t) (hhs : 0 ≤ hs ∧ hs ≤ 9 * n) (hch : 0 ≤ ch ∧ ch ≤ 268435456) (hB : BOK t 268435456 B) (hM : BM B bs0 bl0 bp0 bt0) (c32 : w0 32 = (oM fi by0 a0 (numF tx by0) fc lw le bs0 bl0 bp0 mn mo)) (c44 : w0 44 = cI 9 tr0) (c45 : w0 45 = cI 9 sp0) (c46 : w0 46 = cI 9 so0) (c47 : w0 47 = cI 9 lu0) (c48 : w0 48 = cI 9 bt0) (cr : ∀ k : Nat, (k ≠ 32 ∧ (k < 44 ∨ 48 < k)) → w0 k = w k) (hsp : ∀ j : Int, 0 ≤ j → j ≤ n → sp0 j = row j) (htr : tr0 n = 0) (hso : so0 n = hs) (hlu : lu0 n = ch) (K : ∀ (w2 : AW) (bs2 bl2 bp2 : Int) (tr2 sp2 so2 lu2 bt2 : Int → Int), (w2 32 = (oM fi by0 a0 (numF tx by0) fc lw le bs2 bl2 bp2 mn mo)) → (w2 44 = cI 9 tr2) → (w2 45 = cI 9 sp2) → (w2 46 = cI 9 so2) → (w2 47 = cI 9 lu2) → (w2 48 = cI 9 bt2) → (∀ k : Nat, (k ≠ 32 ∧ (k < 44 ∨ 48 < k)) → w2 k = w k) → (∀ j : Int, 0 ≤ j → j < n → tr2 j = tr0 j ∧ sp2 j = sp0 j ∧ so2 j = so0 j ∧ lu2 j = lu0 j) → BM (wlk (warB lw fa ru fe fc) fa (mOn rd) (mOt rd) (mHo rd) (numF tx by0) t h kk0 n row hs ch B) bs2 bl2 bp2 bt2 → BOK t 268435456 (wlk (warB lw fa ru fe fc) fa (mOn rd) (mOt rd) (mHo rd) (numF tx by0) t h kk0 n row hs ch B) → Gj l x iX9_findHome d 0 0 50 Q 0 0 50 w2 37 [some (vR 32), some (vI a), some (vI t), some (vI h), some (vI (n - 1)), none, none, none] []), Gj l x iX9_findHome d 0 0 50 Q 0 0 50 w0 37 [some (vR 32), some (vI a), some (vI t), some (vI h), some (vI n), none, none, none] [] := by
  have hE := rdt_ed hT hR
  have n9 := numF_R (tx := tx) hT.1
  intro kk0
  induction kk0 with
  | zero =>
    intro w0 bs0 bl0 bp0 tr0 sp0 so0 lu0 bt0 n hs ch row B hn hRow
    exact absurd hn (by have := hRow.1; omega)
  | succ kk ih =>
    intro w0 bs0 bl0 bp0 tr0 sp0 so0 lu0 bt0 n hs ch row B hn hRow hng hhs hch hB hM c32 c44 c45 c46 c47 c48 cr hsp htr hso hlu K
    have n8 := hRow.1
    have n6 := row_end hRow ht hng
    have inner : ∀ (m : Nat) (w1 : AW) (bs1 bl1 bp1 : Int) (tr1 sp1 so1 lu1 bt1 : Int → Int) (i : Int) (B1 : BT), (0 ≤ i ∧ i ≤ (numF tx by0)) → (w1 32 = (oM fi by0 a0 (numF tx by0) fc lw le bs1 bl1 bp1 mn mo)) → (w1 44 = cI 9 tr1) → (w1 45 = cI 9 sp1) → (w1 46 = cI 9 so1) → (w1 47 = cI 9 lu1) → (w1 48 = cI 9 bt1) → (∀ k : Nat, (k ≠ 32 ∧ (k < 44 ∨ 48 < k)) → w1 k = w k) → (∀ j : Int, 0 ≤ j → j < n → tr1 j = tr0 j ∧ sp1 j = sp0 j ∧ so1 j = so0 j ∧ lu1 j = lu0 j) → (∀ j : Int, 0 ≤ j → j ≤ n → sp1 j = row j) → (tr1 n = i) → (so1 n = hs) → (lu1 n = ch) → (B1 = wlR (warB lw fa ru fe fc) fa (mOn rd) (mOt rd) (mHo rd) (numF tx by0) t h kk n row hs ch B i) → (BM B1 bs1 bl1 bp1 bt1) → (BOK t 268435456 B1) → (((numF tx by0) - i).toNat < m) → Gj l x iX9_findHome d 0 0 50 Q 0 0 50 w1 37 [some (vR 32), some (vI a), some (vI t), some (vI h), some (vI n), none, none, none] [] := by
      intro m
      induction m with
      | zero => intro w1 bs1 bl1 bp1 tr1 sp1 so1 lu1 bt1 i B1 hi e32 e44 e45 e46 e47 e48 er eag esp etr eso elu hx eM eB hm; exact absurd hm (Nat.not_lt_zero _)
      | succ m ihm =>
        intro w1 bs1 bl1 bp1 tr1 sp1 so1 lu1 bt1 i B1 hi e32 e44 e45 e46 e47 e48 er eag esp etr eso elu hx eM eB hm
        refine gj_il4 dX9_findHome_37 ?_
        refine gj_if_lt dX9_findHome_39 (by omega) (fun h39 => ?_) (fun h39 => ?_)
        · omega
        · refine gj_al0 dX9_findHome_42 ?_
          refine gj_get dX9_findHome_43 fX9_43 e32 rfl rfl ?_
          refine gj_il4 dX9_findHome_46 ?_
          refine gj_iald dX9_findHome_48 e44 rfl rfl (by omega) ?_
          rw [etr]
          refine gj_is5 dX9_findHome_49 rfl rfl ?_
          refine gj_al0 dX9_findHome_51 ?_
          refine gj_get dX9_findHome_52 fX9_43 e32 rfl rfl ?_
          refine gj_il4 dX9_findHome_55 ?_
          refine gj_dup2 dX9_findHome_57 ?_
          refine gj_iald dX9_findHome_58 e44 rfl rfl (by omega) ?_
          rw [etr]
          refine gj_iconst dX9_findHome_59 ?_
          refine gj_iadd dX9_findHome_60 ?_
          refine gj_iast dX9_findHome_61 e44 rfl rfl (by omega) ?_
          refine gj_il5 dX9_findHome_62 ?_
          refine gj_al0 dX9_findHome_64 ?_
          refine gj_get dX9_findHome_65 fX9_106 (upw_o (by decide) e32) rfl rfl ?_
          refine gj_icmp_ge dX9_findHome_68 (by omega) (fun h68 => ?_) (fun h68 => ?_)
          · refine gj_iconst dX9_findHome_87 ?_
            refine gj_is6 dX9_findHome_88 rfl rfl ?_
            refine gj_il5 dX9_findHome_90 ?_
            refine gj_al0 dX9_findHome_92 ?_
            refine gj_get dX9_findHome_93 fX9_106 (upw_o (by decide) e32) rfl rfl ?_
            refine gj_icmp_lt dX9_findHome_96 (by omega) (fun h96 => ?_) (fun h96 => ?_)
            · omega
            · refine gj_ii4 dX9_findHome_99 rfl rfl ?_
              refine gj_goto dX9_findHome_102 ?_
              refine gj_goto dX9_findHome_267 ?_
              refine gj_dr5 ?_
              refine gj_dr6 ?_
              rw [show n + (-1) = n - 1 by omega]
              have hz : B1 = wlR (warB lw fa ru fe fc) fa (mOn rd) (mOt rd) (mHo rd) (numF tx by0) t h kk n row hs ch B (numF tx by0) := by rw [hx, show i = (numF tx by0) by omega]
              exact K _ _ _ _ _ _ _ _ _ (upw_o (by decide) e32) upw_s (upw_o (by decide) e45) (upw_o (by decide) e46) (upw_o (by decide) e47) (upw_o (by decide) e48) (fun k hk => upw_o (by omega) ((fun (k : Nat) (hk : k ≠ 32 ∧ (k < 44 ∨ 48 < k)) => er k hk) k hk)) (fun j g0 g1 => ⟨(upf_o _ _ (by omega)).trans (eag j g0 g1).1, (eag j g0 g1).2⟩) (by rw [wlk_on hng, ← hz]; exact eM) (by rw [wlk_on hng, ← hz]; exact eB)
          · have e9 := rdt_in hT hR hi.1 (by omega)
            have a9 := acrF_R (l0 := row n) hE (r := i) (by omega)
            refine gj_al0 dX9_findHome_71 ?_
            refine gj_il5 dX9_findHome_72 ?_
            refine gj_al0 dX9_findHome_74 ?_
            refine gj_get dX9_findHome_75 fX9_46 (upw_o (by decide) e32) rfl rfl ?_
            refine gj_il4 dX9_findHome_78 ?_
            refine gj_iald dX9_findHome_80 (upw_o (by decide) e45) rfl rfl (by omega) ?_
            rw [esp n hRow.1.1 (Int.le_refl _)]
            refine gj_cV2r dX9_findHome_81 mX9_246 hX9_otherEnd (upw_o (by decide) e32) rfl (by omega) rfl (tX9_otherEnd  (by omega) (upw_o (by decide) e32) (upw_o (by decide) ((er 38 (by decide)).trans q38)) hT hR (by omega) (by have := hRow.2.1 n hRow.1.1 (Int.le_refl _); omega)) ?_
            refine gj_goto dX9_findHome_84 ?_
            refine gj_is6 dX9_findHome_88 rfl rfl ?_
            refine gj_il5 dX9_findHome_90 ?_
            refine gj_al0 dX9_findHome_92 ?_
            refine gj_get dX9_findHome_93 fX9_106 (upw_o (by decide) e32) rfl rfl ?_
            refine gj_icmp_lt dX9_findHome_96 (by omega) (fun h96 => ?_) (fun h96 => ?_)
            · refine gj_il6 dX9_findHome_105 ?_
              refine gj_iconst dX9_findHome_107 ?_
              refine gj_icmp_eq dX9_findHome_108 (by omega) (fun h108 => ?_) (fun h108 => ?_)
              · refine gj_goto dX9_findHome_267 ?_
                refine gj_dr5 ?_
                refine gj_dr6 ?_
                exact ihm _ _ _ _ _ _ _ _ _ (i + 1) B1 (by omega) (upw_o (by decide) e32) upw_s (upw_o (by decide) e45) (upw_o (by decide) e46) (upw_o (by decide) e47) (upw_o (by decide) e48) (fun k hk => upw_o (by omega) ((fun (k : Nat) (hk : k ≠ 32 ∧ (k < 44 ∨ 48 < k)) => er k hk) k hk)) (fun j g0 g1 => ⟨(upf_o _ _ (by omega)).trans (eag j g0 g1).1, (eag j g0 g1).2⟩) esp (upf_s _ _ _) eso elu (by rw [wlR_s hi.1, if_neg (fun z => z.1 h108), ← hx]) eM eB (by omega)
              · have a7 := acr_in hE (r := i) (a := row n) (by omega) h108
                have f7 := (hO.1 _ a7.1.1 a7.1.2).2.2
                refine gj_al0 dX9_findHome_111 ?_
                refine gj_il4 dX9_findHome_112 ?_
                refine gj_il6 dX9_findHome_114 ?_
                refine gj_cV2r dX9_findHome_116 mX9_249 hX9_wasAt (upw_o (by decide) e32) rfl (by omega) rfl (tX9_wasAt  (by omega) (upw_o (by decide) e32) (upw_o (by decide) e45) (by omega) (by omega) (fun j g0 g1 => by rw [esp j g0 g1]; have := hRow.2.1 j g0 g1; omega)) ?_
                have hve : visZ sp1 (acrF (mOn rd) (mOt rd) i (row n)) (n + 1) = visZ row (acrF (mOn rd) (mOt rd) i (row n)) (n + 1) := visN_congr _ (fun j g0 g1 => esp j g0 (by omega))
                refine gj_ifB_ne dX9_findHome_119 (fun h119 => ?_) (fun h119 => ?_)
                · have hv9 : visZ row (acrF (mOn rd) (mOt rd) i (row n)) (n + 1) = true := by rw [← hve]; exact h119
                  refine gj_goto dX9_findHome_267 ?_
                  refine gj_dr5 ?_
                  refine gj_dr6 ?_
                  exact ihm _ _ _ _ _ _ _ _ _ (i + 1) B1 (by omega) (upw_o (by decide) e32) upw_s (upw_o (by decide) e45) (upw_o (by decide) e46) (upw_o (by decide) e47) (upw_o (by decide) e48) (fun k hk => upw_o (by omega) ((fun (k : Nat) (hk : k ≠ 32 ∧ (k < 44 ∨ 48 < k)) => er k hk) k hk)) (fun j g0 g1 => ⟨(upf_o _ _ (by omega)).trans (eag j g0 g1).1, (eag j g0 g1).2⟩) esp (upf_s _ _ _) eso elu (by rw [wlR_s hi.1, if_neg (fun z => by rw [hv9] at z; exact absurd z.2 (by decide)), ← hx]) eM eB (by omega)
                · have hv9 : visZ row (acrF (mOn rd) (mOt rd) i (row n)) (n + 1) = false := by rw [← hve]; exact Bool.eq_false_iff.mpr h119
                  refine gj_ii4 dX9_findHome_122 rfl rfl ?_
                  refine gj_al0 dX9_findHome_125 ?_
                  refine gj_get dX9_findHome_126 fX9_46 (upw_o (by decide) e32) rfl rfl ?_
                  refine gj_il4 dX9_findHome_129 ?_
                  refine gj_il6 dX9_findHome_131 ?_
                  refine gj_iast dX9_findHome_133 (upw_o (by decide) e45) rfl rfl (by omega) ?_
                  refine gj_al0 dX9_findHome_134 ?_
                  refine gj_get dX9_findHome_135 fX9_49 (upw_o (by decide) (upw_o (by decide) e32)) rfl rfl ?_
                  refine gj_il4 dX9_findHome_138 ?_
                  refine gj_al0 dX9_findHome_140 ?_
                  refine gj_get dX9_findHome_141 fX9_49 (upw_o (by decide) (upw_o (by decide) e32)) rfl rfl ?_
                  refine gj_il4 dX9_findHome_144 ?_
                  refine gj_iconst dX9_findHome_146 ?_
                  refine gj_isub dX9_findHome_147 ?_
                  refine gj_iald dX9_findHome_148 (upw_o (by decide) (upw_o (by decide) e46)) rfl rfl (by omega) ?_
                  rw [show n + 1 - 1 = n by omega, eso]
                  refine gj_al0 dX9_findHome_149 ?_
                  refine gj_get dX9_findHome_150 fX9_25 (upw_o (by decide) (upw_o (by decide) e32)) rfl rfl ?_
                  refine gj_iconst dX9_findHome_153 ?_
                  refine gj_il5 dX9_findHome_154 ?_
                  refine gj_imul dX9_findHome_156 ?_
                  refine gj_iconst dX9_findHome_157 ?_
                  refine gj_iadd dX9_findHome_158 ?_
                  refine gj_iald dX9_findHome_159 (upw_o (by decide) (upw_o (by decide) ((er 38 (by decide)).trans q38))) rfl rfl (by omega) ?_
                  refine gj_iadd dX9_findHome_160 ?_
                  refine gj_iast dX9_findHome_161 (upw_o (by decide) (upw_o (by decide) e46)) rfl rfl (by omega) ?_
                  refine gj_il6 dX9_findHome_162 ?_
                  refine gj_il2 dX9_findHome_164 ?_
                  refine gj_icmp_eq dX9_findHome_165 (by omega) (fun h165 => ?_) (fun h165 => ?_)
                  · refine gj_iconst dX9_findHome_190 ?_
                    refine gj_is7 dX9_findHome_191 rfl rfl ?_
                    refine gj_al0 dX9_findHome_193 ?_
                    refine gj_get dX9_findHome_194 fX9_52 (upw_o (by decide) (upw_o (by decide) (upw_o (by decide) e32))) rfl rfl ?_
                    refine gj_il4 dX9_findHome_197 ?_
                    refine gj_il7 dX9_findHome_199 ?_
                    refine gj_if_eq dX9_findHome_201 (by omega) (fun _ => ?_) (fun h => absurd h (by omega))
                    refine gj_al0 dX9_findHome_234 ?_
                    refine gj_get dX9_findHome_235 fX9_52 (upw_o (by decide) (upw_o (by decide) (upw_o (by decide) e32))) rfl rfl ?_
                    refine gj_il4 dX9_findHome_238 ?_
                    refine gj_iconst dX9_findHome_240 ?_
                    refine gj_isub dX9_findHome_241 ?_
                    refine gj_iald dX9_findHome_242 (upw_o (by decide) (upw_o (by decide) (upw_o (by decide) e47))) rfl rfl (by omega) ?_
                    try rw [show n + 1 - 1 = n by omega, elu]
                    refine gj_iast dX9_findHome_243 (upw_o (by decide) (upw_o (by decide) (upw_o (by decide) e47))) rfl rfl (by omega) ?_
                    refine gj_al0 dX9_findHome_244 ?_
                    refine gj_get dX9_findHome_245 fX9_43 (upw_o (by decide) (upw_o (by decide) (upw_o (by decide) (upw_o (by decide) e32)))) rfl rfl ?_
                    refine gj_il4 dX9_findHome_248 ?_
                    refine gj_iconst dX9_findHome_250 ?_
                    refine gj_iast dX9_findHome_251 (upw_o (by decide) (upw_o (by decide) (upw_o (by decide) upw_s))) rfl rfl (by omega) ?_
                    refine gj_il6 dX9_findHome_252 ?_
                    refine gj_il2 dX9_findHome_254 ?_
                    refine gj_icmp_ne dX9_findHome_255 (by omega) (fun h255 => ?_) (fun h255 => ?_)
                    · exact absurd h165 h255
                    · refine gj_al0 dX9_findHome_258 ?_
                      refine gj_il4 dX9_findHome_259 ?_
                      refine gj_cV1v dX9_findHome_261 mX9_252 hX9_comes (upw_o (by decide) (upw_o (by decide) (upw_o (by decide) (upw_o (by decide) (upw_o (by decide) e32))))) rfl (by omega) rfl (tX9_comes  (by omega) (upw_o (by decide) (upw_o (by decide) (upw_o (by decide) (upw_o (by decide) (upw_o (by decide) e32))))) (upw_o (by decide) (upw_o (by decide) (upw_o (by decide) upw_s))) (upw_o (by decide) (upw_o (by decide) upw_s)) (upw_o (by decide) upw_s) (upw_o (by decide) (upw_o (by decide) (upw_o (by decide) (upw_o (by decide) (upw_o (by decide) e48))))) (by omega) (row := upf row (n + 1) (acrF (mOn rd) (mOt rd) i (row n))) (fun j g0 g1 => by
                        by_cases e : j = n + 1
                        · rw [e, upf_s, upf_s]
                        · rw [upf_o _ _ e, upf_o _ _ e]; exact esp j g0 (by omega)) (upf_s _ _ _) (upf_s _ _ _) (row_up hRow ht hng a7.1 hv9).2.1 (by omega) (by omega) eM eB) (fun w261 P261 => ?_)
                      obtain ⟨bs261, bl261, bp261, bt261, e32_261, e48_261, bm261, fr261⟩ := P261
                      refine gj_ii4 dX9_findHome_264 rfl rfl ?_
                      refine gj_goto dX9_findHome_267 ?_
                      refine gj_dr5 ?_
                      refine gj_dr6 ?_
                      refine gj_dr7 ?_
                      rw [show n + 1 + (-1) = n by omega]
                      exact ihm _ _ _ _ _ _ _ _ _ (i + 1) (arrF (n + 1) (hs + rd (3 * i + 2)) ch (upf row (n + 1) (acrF (mOn rd) (mOt rd) i (row n))) B1) (by omega) e32_261 ((fr261 44 (by decide)).trans upw_s) ((fr261 45 (by decide)).trans (upw_o (by decide) (upw_o (by decide) (upw_o (by decide) upw_s)))) ((fr261 46 (by decide)).trans (upw_o (by decide) (upw_o (by decide) upw_s))) ((fr261 47 (by decide)).trans (upw_o (by decide) upw_s)) e48_261 (fun k hk => (fr261 k (by omega)).trans ((fun k hk => upw_o (by omega) ((fun k hk => upw_o (by omega) ((fun k hk => upw_o (by omega) ((fun k hk => upw_o (by omega) ((fun k hk => upw_o (by omega) ((fun (k : Nat) (hk : k ≠ 32 ∧ (k < 44 ∨ 48 < k)) => er k hk) k hk)) k hk)) k hk)) k hk)) k hk)) k hk)) (fun j g0 g1 => ⟨(upf_o _ _ (by omega)).trans ((upf_o _ _ (by omega)).trans (eag j g0 g1).1), (upf_o _ _ (by omega)).trans (eag j g0 g1).2.1, (upf_o _ _ (by omega)).trans (eag j g0 g1).2.2.1, (upf_o _ _ (by omega)).trans (eag j g0 g1).2.2.2⟩) (fun j g0 g1 => (upf_o _ _ (by omega)).trans (esp j g0 g1)) ((upf_o _ _ (by omega)).trans (upf_s _ _ _)) ((upf_o _ _ (by omega)).trans eso) ((upf_o _ _ (by omega)).trans elu) (by rw [wlR_s hi.1, if_pos ⟨h108, hv9⟩, ← hx, wlk_go1 (by omega) (by rw [upf_s]; exact h165), show chnF (warB lw fa ru fe fc) fa t h (hs + mHo rd i) (acrF (mOn rd) (mOt rd) i (row n)) ch = ch from by unfold chnF; rw [if_neg (fun z => z.1 h165)]]) bm261 (arr_ok (row_up hRow ht hng a7.1 hv9) (by rw [upf_s]; exact h165) eB hch (by omega)) (by omega)
                  · refine gj_al0 dX9_findHome_168 ?_
                    refine gj_il3 dX9_findHome_169 ?_
                    refine gj_al0 dX9_findHome_170 ?_
                    refine gj_get dX9_findHome_171 fX9_49 (upw_o (by decide) (upw_o (by decide) (upw_o (by decide) e32))) rfl rfl ?_
                    refine gj_il4 dX9_findHome_174 ?_
                    refine gj_iald dX9_findHome_176 upw_s rfl rfl (by omega) ?_
                    rw [upf_s]
                    refine gj_iadd dX9_findHome_177 ?_
                    refine gj_il6 dX9_findHome_178 ?_
                    refine gj_cV2r dX9_findHome_180 mX9_169 hX9_isWar (upw_o (by decide) (upw_o (by decide) (upw_o (by decide) e32))) rfl (by omega) rfl (tX9_isWar  (by omega) ⟨⟨_, _, _, _, _, _, _, _, _, _, (upw_o (by decide) (upw_o (by decide) (upw_o (by decide) e32)))⟩, (upw_o (by decide) (upw_o (by decide) (upw_o (by decide) ((er 39 (by decide)).trans q39)))), (upw_o (by decide) (upw_o (by decide) (upw_o (by decide) ((er 40 (by decide)).trans q40)))), (upw_o (by decide) (upw_o (by decide) (upw_o (by decide) ((er 41 (by decide)).trans q41))))⟩ hO (by omega) (by omega)) ?_
                    refine gj_ifB_eq dX9_findHome_183 (fun h183 => ?_) (fun h183 => ?_)
                    · refine gj_iconst dX9_findHome_190 ?_
                      refine gj_is7 dX9_findHome_191 rfl rfl ?_
                      refine gj_al0 dX9_findHome_193 ?_
                      refine gj_get dX9_findHome_194 fX9_52 (upw_o (by decide) (upw_o (by decide) (upw_o (by decide) e32))) rfl rfl ?_
                      refine gj_il4 dX9_findHome_197 ?_
                      refine gj_il7 dX9_findHome_199 ?_
                      refine gj_if_eq dX9_findHome_201 (by omega) (fun _ => ?_) (fun h => absurd h (by omega))
                      refine gj_al0 dX9_findHome_234 ?_
                      refine gj_get dX9_findHome_235 fX9_52 (upw_o (by decide) (upw_o (by decide) (upw_o (by decide) e32))) rfl rfl ?_
                      refine gj_il4 dX9_findHome_238 ?_
                      refine gj_iconst dX9_findHome_240 ?_
                      refine gj_isub dX9_findHome_241 ?_
                      refine gj_iald dX9_findHome_242 (upw_o (by decide) (upw_o (by decide) (upw_o (by decide) e47))) rfl rfl (by omega) ?_
                      try rw [show n + 1 - 1 = n by omega, elu]
                      refine gj_iast dX9_findHome_243 (upw_o (by decide) (upw_o (by decide) (upw_o (by decide) e47))) rfl rfl (by omega) ?_
                      refine gj_al0 dX9_findHome_244 ?_
                      refine gj_get dX9_findHome_245 fX9_43 (upw_o (by decide) (upw_o (by decide) (upw_o (by decide) (upw_o (by decide) e32)))) rfl rfl ?_
                      refine gj_il4 dX9_findHome_248 ?_
                      refine gj_iconst dX9_findHome_250 ?_
                      refine gj_iast dX9_findHome_251 (upw_o (by decide) (upw_o (by decide) (upw_o (by decide) upw_s))) rfl rfl (by omega) ?_
                      refine gj_il6 dX9_findHome_252 ?_
                      refine gj_il2 dX9_findHome_254 ?_
                      refine gj_icmp_ne dX9_findHome_255 (by omega) (fun h255 => ?_) (fun h255 => ?_)
                      · refine gj_goto dX9_findHome_267 ?_
                        refine gj_dr5 ?_
                        refine gj_dr6 ?_
                        refine gj_dr7 ?_
                        have hcn : chnF (warB lw fa ru fe fc) fa t h (hs + mHo rd i) (acrF (mOn rd) (mOt rd) i (row n)) ch = ch := by unfold chnF; rw [if_neg (fun z => h183 z.2)]
                        have hc2 := chn_R (W := (warB lw fa ru fe fc)) (go := t) (st := h) (hs := hs + mHo rd i) hO.1 a7.1 hch
                        refine ih (n := n + 1) (hs := hs + mHo rd i) (ch := chnF (warB lw fa ru fe fc) fa t h (hs + mHo rd i) (acrF (mOn rd) (mOt rd) i (row n)) ch) (row := upf row (n + 1) (acrF (mOn rd) (mOt rd) i (row n))) (B := B1) (by omega) (row_up hRow ht hng a7.1 hv9) (by rw [upf_s]; exact h165) (by show 0 ≤ hs + rd (3 * i + 2) ∧ hs + rd (3 * i + 2) ≤ 9 * (n + 1); omega) hc2 eB eM (upw_o (by decide) (upw_o (by decide) (upw_o (by decide) (upw_o (by decide) (upw_o (by decide) e32))))) upw_s (upw_o (by decide) (upw_o (by decide) (upw_o (by decide) upw_s))) (upw_o (by decide) (upw_o (by decide) upw_s)) (upw_o (by decide) upw_s) (upw_o (by decide) (upw_o (by decide) (upw_o (by decide) (upw_o (by decide) (upw_o (by decide) e48))))) (fun k hk => upw_o (by omega) ((fun k hk => upw_o (by omega) ((fun k hk => upw_o (by omega) ((fun k hk => upw_o (by omega) ((fun k hk => upw_o (by omega) ((fun (k : Nat) (hk : k ≠ 32 ∧ (k < 44 ∨ 48 < k)) => er k hk) k hk)) k hk)) k hk)) k hk)) k hk)) (fun j g0 g1 => ?_) (upf_s _ _ _) (upf_s _ _ _) ((upf_s _ _ _).trans hcn.symm) (fun w2 bs2 bl2 bp2 tr2 sp2 so2 lu2 bt2 k32 k44 k45 k46 k47 k48 kr kag kM kB => by
                            rw [show n + 1 - 1 = n by omega]
                            refine ihm w2 bs2 bl2 bp2 tr2 sp2 so2 lu2 bt2 (i + 1) _ (by omega) k32 k44 k45 k46 k47 k48 kr (fun j g0 g1 => ?_) (fun j g0 g1 => (kag j g0 (by omega)).2.1.trans ((upf_o _ _ (by omega)).trans (esp j g0 g1))) ((kag n (by omega) (by omega)).1.trans ((upf_o _ _ (by omega)).trans (upf_s _ _ _))) ((kag n (by omega) (by omega)).2.2.1.trans ((upf_o _ _ (by omega)).trans eso)) ((kag n (by omega) (by omega)).2.2.2.trans ((upf_o _ _ (by omega)).trans elu)) (by rw [wlR_s hi.1, if_pos ⟨h108, hv9⟩, ← hx]) kM kB (by omega)
                            have k9 := kag j g0 (by omega)
                            exact ⟨k9.1.trans ((upf_o _ _ (by omega)).trans ((upf_o _ _ (by omega)).trans (eag j g0 g1).1)), k9.2.1.trans ((upf_o _ _ (by omega)).trans (eag j g0 g1).2.1), k9.2.2.1.trans ((upf_o _ _ (by omega)).trans (eag j g0 g1).2.2.1), k9.2.2.2.trans ((upf_o _ _ (by omega)).trans (eag j g0 g1).2.2.2)⟩)
                        by_cases e : j = n + 1
                        · rw [e, upf_s, upf_s]
                        · rw [upf_o _ _ e, upf_o _ _ e]; exact esp j g0 (by omega)
                      · exact absurd h255 h165
                    · refine gj_iconst dX9_findHome_186 ?_
                      refine gj_goto dX9_findHome_187 ?_
                      refine gj_is7 dX9_findHome_191 rfl rfl ?_
                      refine gj_al0 dX9_findHome_193 ?_
                      refine gj_get dX9_findHome_194 fX9_52 (upw_o (by decide) (upw_o (by decide) (upw_o (by decide) e32))) rfl rfl ?_
                      refine gj_il4 dX9_findHome_197 ?_
                      refine gj_il7 dX9_findHome_199 ?_
                      refine gj_if_eq dX9_findHome_201 (by omega) (fun h => absurd h (by omega)) (fun _ => ?_)
                      refine gj_al0 dX9_findHome_204 ?_
                      refine gj_get dX9_findHome_205 fX9_52 (upw_o (by decide) (upw_o (by decide) (upw_o (by decide) e32))) rfl rfl ?_
                      refine gj_il4 dX9_findHome_208 ?_
                      refine gj_iconst dX9_findHome_210 ?_
                      refine gj_isub dX9_findHome_211 ?_
                      refine gj_iald dX9_findHome_212 (upw_o (by decide) (upw_o (by decide) (upw_o (by decide) e47))) rfl rfl (by omega) ?_
                      rw [show n + 1 - 1 = n by omega, elu]
                      refine gj_bipush dX9_findHome_213 rfl ?_
                      refine gj_idiv dX9_findHome_215 (by omega) (by omega) ?_
                      refine gj_bipush dX9_findHome_216 rfl ?_
                      refine gj_al0 dX9_findHome_218 ?_
                      refine gj_get dX9_findHome_219 fX9_28 (upw_o (by decide) (upw_o (by decide) (upw_o (by decide) e32))) rfl rfl ?_
                      refine gj_iconst dX9_findHome_222 ?_
                      refine gj_il6 dX9_findHome_223 ?_
                      refine gj_imul dX9_findHome_225 ?_
                      refine gj_iconst dX9_findHome_226 ?_
                      refine gj_iadd dX9_findHome_227 ?_
                      refine gj_iald dX9_findHome_228 (upw_o (by decide) (upw_o (by decide) (upw_o (by decide) ((er 39 (by decide)).trans q39)))) rfl rfl (by omega) ?_
                      refine gj_isub dX9_findHome_229 ?_
                      refine gj_imul dX9_findHome_230 ?_
                      refine gj_goto dX9_findHome_231 ?_
                      try rw [show n + 1 - 1 = n by omega, elu]
                      refine gj_iast dX9_findHome_243 (upw_o (by decide) (upw_o (by decide) (upw_o (by decide) e47))) rfl rfl (by omega) ?_
                      refine gj_al0 dX9_findHome_244 ?_
                      refine gj_get dX9_findHome_245 fX9_43 (upw_o (by decide) (upw_o (by decide) (upw_o (by decide) (upw_o (by decide) e32)))) rfl rfl ?_
                      refine gj_il4 dX9_findHome_248 ?_
                      refine gj_iconst dX9_findHome_250 ?_
                      refine gj_iast dX9_findHome_251 (upw_o (by decide) (upw_o (by decide) (upw_o (by decide) upw_s))) rfl rfl (by omega) ?_
                      refine gj_il6 dX9_findHome_252 ?_
                      refine gj_il2 dX9_findHome_254 ?_
                      refine gj_icmp_ne dX9_findHome_255 (by omega) (fun h255 => ?_) (fun h255 => ?_)
                      · refine gj_goto dX9_findHome_267 ?_
                        refine gj_dr5 ?_
                        refine gj_dr6 ?_
                        refine gj_dr7 ?_
                        have hcn : chnF (warB lw fa ru fe fc) fa t h (hs + mHo rd i) (acrF (mOn rd) (mOt rd) i (row n)) ch = ch / 16 * (16 - fa (3 * (acrF (mOn rd) (mOt rd) i (row n)) + 2)) := by unfold chnF; rw [if_pos ⟨h165, h183⟩]
                        have hc2 := chn_R (W := (warB lw fa ru fe fc)) (go := t) (st := h) (hs := hs + mHo rd i) hO.1 a7.1 hch
                        refine ih (n := n + 1) (hs := hs + mHo rd i) (ch := chnF (warB lw fa ru fe fc) fa t h (hs + mHo rd i) (acrF (mOn rd) (mOt rd) i (row n)) ch) (row := upf row (n + 1) (acrF (mOn rd) (mOt rd) i (row n))) (B := B1) (by omega) (row_up hRow ht hng a7.1 hv9) (by rw [upf_s]; exact h165) (by show 0 ≤ hs + rd (3 * i + 2) ∧ hs + rd (3 * i + 2) ≤ 9 * (n + 1); omega) hc2 eB eM (upw_o (by decide) (upw_o (by decide) (upw_o (by decide) (upw_o (by decide) (upw_o (by decide) e32))))) upw_s (upw_o (by decide) (upw_o (by decide) (upw_o (by decide) upw_s))) (upw_o (by decide) (upw_o (by decide) upw_s)) (upw_o (by decide) upw_s) (upw_o (by decide) (upw_o (by decide) (upw_o (by decide) (upw_o (by decide) (upw_o (by decide) e48))))) (fun k hk => upw_o (by omega) ((fun k hk => upw_o (by omega) ((fun k hk => upw_o (by omega) ((fun k hk => upw_o (by omega) ((fun k hk => upw_o (by omega) ((fun (k : Nat) (hk : k ≠ 32 ∧ (k < 44 ∨ 48 < k)) => er k hk) k hk)) k hk)) k hk)) k hk)) k hk)) (fun j g0 g1 => ?_) (upf_s _ _ _) (upf_s _ _ _) ((upf_s _ _ _).trans hcn.symm) (fun w2 bs2 bl2 bp2 tr2 sp2 so2 lu2 bt2 k32 k44 k45 k46 k47 k48 kr kag kM kB => by
                            rw [show n + 1 - 1 = n by omega]
                            refine ihm w2 bs2 bl2 bp2 tr2 sp2 so2 lu2 bt2 (i + 1) _ (by omega) k32 k44 k45 k46 k47 k48 kr (fun j g0 g1 => ?_) (fun j g0 g1 => (kag j g0 (by omega)).2.1.trans ((upf_o _ _ (by omega)).trans (esp j g0 g1))) ((kag n (by omega) (by omega)).1.trans ((upf_o _ _ (by omega)).trans (upf_s _ _ _))) ((kag n (by omega) (by omega)).2.2.1.trans ((upf_o _ _ (by omega)).trans eso)) ((kag n (by omega) (by omega)).2.2.2.trans ((upf_o _ _ (by omega)).trans elu)) (by rw [wlR_s hi.1, if_pos ⟨h108, hv9⟩, ← hx]) kM kB (by omega)
                            have k9 := kag j g0 (by omega)
                            exact ⟨k9.1.trans ((upf_o _ _ (by omega)).trans ((upf_o _ _ (by omega)).trans (eag j g0 g1).1)), k9.2.1.trans ((upf_o _ _ (by omega)).trans (eag j g0 g1).2.1), k9.2.2.1.trans ((upf_o _ _ (by omega)).trans (eag j g0 g1).2.2.1), k9.2.2.2.trans ((upf_o _ _ (by omega)).trans (eag j g0 g1).2.2.2)⟩)
                        by_cases e : j = n + 1
                        · rw [e, upf_s, upf_s]
                        · rw [upf_o _ _ e, upf_o _ _ e]; exact esp j g0 (by omega)
                      · exact absurd h255 h165
            · omega
    exact inner _ w0 bs0 bl0 bp0 tr0 sp0 so0 lu0 bt0 0 B (by omega) c32 c44 c45 c46 c47 c48 cr (fun j _ _ => ⟨rfl, rfl, rfl, rfl⟩) hsp htr hso hlu rfl hM hB (Nat.lt_succ_self _)
set_option maxRecDepth 20000 in
set_option maxHeartbeats 4000000 in
theorem tX9_findHome {l : Launch} {x : Cx} {d : Nat} {w : AW} {fa ru fe : Int → Int} {fi by0 a0 fc lw le bs bl bp mn mo : Int} {rd tx tr sp so lu bt : Int → Int} {a t h : Int} (hd : 3 ≤ d) (q32 : w 32 = (oM fi by0 a0 (numF tx by0) fc lw le bs bl bp mn mo)) (q38 : w 38 = cI 36 rd) (q39 : w 39 = cI 24 fa) (q40 : w 40 = cI 8 ru) (q41 : w 41 = cI 8 fe) (q44 : w 44 = cI 9 tr) (q45 : w 45 = cI 9 sp) (q46 : w 46 = cI 9 so) (q47 : w 47 = cI 9 lu) (q48 : w 48 = cI 9 bt) (hT : TxOK tx by0) (hR : RdT rd tx (numF tx by0)) (hO : MoOK fa ru fe fc lw) (ha : In7 a) (ht : In7 t) (hat : a ≠ t) (hh : 0 ≤ h ∧ h ≤ 671) : Mt l x iX9_findHome d 0 0 50 w [vR 32, vI a, vI t, vI h] (Wv (fun w2 => ∃ (bs2 bl2 bp2 : Int) (tr2 sp2 so2 lu2 bt2 : Int → Int), (w2 32 = (oM fi by0 a0 (numF tx by0) fc lw le bs2 bl2 bp2 mn mo)) ∧ (w2 44 = cI 9 tr2) ∧ (w2 45 = cI 9 sp2) ∧ (w2 46 = cI 9 so2) ∧ (w2 47 = cI 9 lu2) ∧ (w2 48 = cI 9 bt2) ∧ (∀ k : Nat, (k ≠ 32 ∧ (k < 44 ∨ 48 < k)) → w2 k = w k) ∧ BM (homF (warB lw fa ru fe fc) fa (mOn rd) (mOt rd) (mHo rd) (numF tx by0) a t h 268435456) bs2 bl2 bp2 bt2)) := by
  refine Mt.of (L0 := [some (vR 32), some (vI a), some (vI t), some (vI h), none, none, none, none]) rfl rfl rfl ?_
  refine gj_al0 dX9_findHome_0 ?_
  refine gj_iconst dX9_findHome_1 ?_
  refine gj_pI22 dX9_findHome_2 fX9_233 q32 rfl ?_
  refine gj_al0 dX9_findHome_5 ?_
  refine gj_get dX9_findHome_6 fX9_46 upw_s rfl rfl ?_
  refine gj_iconst dX9_findHome_9 ?_
  refine gj_il1 dX9_findHome_10 ?_
  refine gj_iast dX9_findHome_11 (upw_o (by decide) q45) rfl rfl (by omega) ?_
  refine gj_al0 dX9_findHome_12 ?_
  refine gj_get dX9_findHome_13 fX9_49 (upw_o (by decide) upw_s) rfl rfl ?_
  refine gj_iconst dX9_findHome_16 ?_
  refine gj_iconst dX9_findHome_17 ?_
  refine gj_iast dX9_findHome_18 (upw_o (by decide) (upw_o (by decide) q46)) rfl rfl (by omega) ?_
  refine gj_al0 dX9_findHome_19 ?_
  refine gj_get dX9_findHome_20 fX9_52 (upw_o (by decide) (upw_o (by decide) upw_s)) rfl rfl ?_
  refine gj_iconst dX9_findHome_23 ?_
  refine gj_ldc dX9_findHome_24 kX9_245 ?_
  refine gj_iast dX9_findHome_26 (upw_o (by decide) (upw_o (by decide) (upw_o (by decide) q47))) rfl rfl (by omega) ?_
  refine gj_al0 dX9_findHome_27 ?_
  refine gj_get dX9_findHome_28 fX9_43 (upw_o (by decide) (upw_o (by decide) (upw_o (by decide) upw_s))) rfl rfl ?_
  refine gj_iconst dX9_findHome_31 ?_
  refine gj_iconst dX9_findHome_32 ?_
  refine gj_iast dX9_findHome_33 (upw_o (by decide) (upw_o (by decide) (upw_o (by decide) (upw_o (by decide) q44)))) rfl rfl (by omega) ?_
  refine gj_iconst dX9_findHome_34 ?_
  refine gj_is4 dX9_findHome_35 rfl rfl ?_
  exact fhLev (by omega) q38 q39 q40 q41 hT hR hO ht hh 8 (n := 0) (hs := 0) (ch := 268435456) (row := row0 a) (B := B0) (by omega) (row0_ok ha) hat (by omega) (by omega) ⟨Or.inl rfl, ⟨Int.le_refl _, by decide⟩, by decide, by decide⟩ (Or.inl ⟨rfl, rfl⟩) (upw_o (by decide) (upw_o (by decide) (upw_o (by decide) (upw_o (by decide) upw_s)))) upw_s (upw_o (by decide) (upw_o (by decide) (upw_o (by decide) upw_s))) (upw_o (by decide) (upw_o (by decide) upw_s)) (upw_o (by decide) upw_s) (upw_o (by decide) (upw_o (by decide) (upw_o (by decide) (upw_o (by decide) (upw_o (by decide) q48))))) (fun k hk => upw_o (by omega) ((fun k hk => upw_o (by omega) ((fun k hk => upw_o (by omega) ((fun k hk => upw_o (by omega) ((fun k hk => upw_o (by omega) ((fun (k : Nat) (_ : k ≠ 32 ∧ (k < 44 ∨ 48 < k)) => rfl) k hk)) k hk)) k hk)) k hk)) k hk)) (fun j g0 g1 => by rw [show j = 0 by omega, upf_s]; rfl) (upf_s _ _ _) (upf_s _ _ _) (upf_s _ _ _) (fun w2 bs2 bl2 bp2 tr2 sp2 so2 lu2 bt2 k32 k44 k45 k46 k47 k48 kr kag kM kB => by
      refine gj_il4 dX9_findHome_37 ?_
      refine gj_if_lt dX9_findHome_39 (by omega) (fun _ => ?_) (fun h => absurd h (by omega))
      exact gj_vret dX9_findHome_270 rfl (wv_v ⟨_, _, _, _, _, _, _, _, k32, k44, k45, k46, k47, k48, kr, kM⟩))
