/-! contracts: the model reads its text -/
abbrev RdT (rd tx : Int → Int) (n : Int) : Prop := ∀ r : Int, 0 ≤ r → r < n → rd (3 * r) = tx (4 * r) - 97 ∧ rd (3 * r + 1) = tx (4 * r + 1) - 97 ∧ rd (3 * r + 2) = tx (4 * r + 2) - 48
abbrev GoT (tx : Int → Int) (p : Int) : Prop := ∀ q : Int, 0 ≤ q → q < p → goB tx q = true
def tlF (p0 k b : Int) : Int := if k = 2 then (if 49 ≤ b ∧ b ≤ 57 then b - 48 else -1) else if (97 ≤ b ∧ b ≤ 104) ∧ (k = 0 ∨ b - 97 ≠ p0) then b - 97 else -1
theorem tlF_R {p0 k b : Int} (hb : 0 ≤ b ∧ b ≤ 255) : -1 ≤ tlF p0 k b ∧ tlF p0 k b ≤ 255 := by
  unfold tlF
  (repeat' split) <;> omega
theorem tl_ok {tx : Int → Int} {p0 n k v : Int} (hk : 0 ≤ k ∧ k ≤ 2) (h0 : 1 ≤ k → p0 = tx (4 * n) - 97) (hv : v = tlF p0 k (tx (4 * n + k))) : (v = -1 ∧ goB tx (4 * n + k) = false) ∨ (v ≠ -1 ∧ goB tx (4 * n + k) = true ∧ v = tx (4 * n + k) - (if k = 2 then 48 else 97)) := by
  subst hv
  unfold tlF
  rcases (show k = 0 ∨ k = 1 ∨ k = 2 by omega) with rfl | rfl | rfl
  · rw [if_neg (show ¬ (0 : Int) = 2 by omega), if_neg (show ¬ (0 : Int) = 2 by omega)]
    by_cases c : 97 ≤ tx (4 * n + 0) ∧ tx (4 * n + 0) ≤ 104
    · rw [if_pos ⟨c, Or.inl rfl⟩]
      exact Or.inr ⟨by omega, (goB_0 (by omega)).mpr c, rfl⟩
    · rw [if_neg (fun z => c z.1)]
      refine Or.inl ⟨rfl, ?_⟩
      rw [← Bool.not_eq_true, goB_0 (by omega)]
      exact c
  · have h1 := h0 (by omega)
    rw [if_neg (show ¬ (1 : Int) = 2 by omega), if_neg (show ¬ (1 : Int) = 2 by omega)]
    have g1 := goB_1 (tx := tx) (p := 4 * n + 1) (by omega)
    rw [show 4 * n + 1 - 1 = 4 * n by omega] at g1
    by_cases c : (97 ≤ tx (4 * n + 1) ∧ tx (4 * n + 1) ≤ 104) ∧ ((1 : Int) = 0 ∨ tx (4 * n + 1) - 97 ≠ p0)
    · rw [if_pos c]
      exact Or.inr ⟨by omega, g1.mpr (by omega), rfl⟩
    · rw [if_neg c]
      refine Or.inl ⟨rfl, ?_⟩
      rw [← Bool.not_eq_true, g1]
      omega
  · rw [if_pos rfl, if_pos rfl]
    by_cases c : 49 ≤ tx (4 * n + 2) ∧ tx (4 * n + 2) ≤ 57
    · rw [if_pos c]
      exact Or.inr ⟨by omega, (goB_2 (by omega)).mpr c, rfl⟩
    · rw [if_neg c]
      refine Or.inl ⟨rfl, ?_⟩
      rw [← Bool.not_eq_true, goB_2 (by omega)]
      exact c
theorem got_s {tx : Int → Int} {p : Int} (h : GoT tx p) (hp : goB tx p = true) : GoT tx (p + 1) := by
  intro q h0 h1
  by_cases e : q = p
  · rw [e]; exact hp
  · exact h q h0 (by omega)
theorem flt_at {tx : Int → Int} {b p : Int} (h0 : 0 ≤ p) (h : GoT tx p) (hp : p < b) (hg : goB tx p = false) : fltF tx b = p := by
  have e : fstZ (fun p => !(goB tx p)) 0 b = p := fstZ_at _ 0 b p rfl h0 hp (by simp [hg]) (fun i a c => by simp [h i a c])
  unfold fltF
  rw [e, if_pos (by omega)]
theorem flt_all {tx : Int → Int} {b : Int} (h : GoT tx b) : fltF tx b = if b = 0 ∨ b % 4 = 3 then -1 else b := by
  have e : fstZ (fun p => !(goB tx p)) 0 b = -1 := fstZ_nil _ 0 b rfl (fun i a c => by simp [h i a c])
  unfold fltF
  rw [e, if_neg (by omega)]
theorem flt_stop {tx : Int → Int} {b p : Int} (h0 : 0 ≤ p) (h : GoT tx p) (hp : p ≤ b) (hn : p < b → goB tx p = false) (hb : b ≠ 0) (h3 : p % 4 ≠ 3) : fltF tx b = p := by
  by_cases c : p < b
  · exact flt_at h0 h c (hn c)
  · have e : p = b := by omega
    subst e
    rw [flt_all h, if_neg (by omega)]
theorem num_flt {tx : Int → Int} {b p : Int} (h : fltF tx b = p) (hp : 0 ≤ p) : numF tx b = 0 := by
  unfold numF
  rw [h, if_neg (by omega)]
theorem flt_done {tx : Int → Int} {b a n : Int} (hg : GoT tx a) (e : a = b) (h : (b = 0 ∧ n = 0) ∨ b + 1 = 4 * n) : fltF tx b = -1 ∧ numF tx b = n := by
  subst e
  have f : fltF tx a = -1 := by rw [flt_all hg, if_pos (by omega)]
  refine ⟨f, ?_⟩
  unfold numF
  rw [if_pos f]
  omega
set_option maxRecDepth 20000 in
set_option maxHeartbeats 4000000 in
theorem tX9_tellsOf {l : Launch} {x : Cx} {d : Nat} {w : AW} {fi by0 a0 nr fc lw le bs bl bp mn mo : Int} {rd : Int → Int} {k b : Int} (hd : 1 ≤ d) (q32 : w 32 = (oM fi by0 a0 nr fc lw le bs bl bp mn mo)) (q38 : w 38 = cI 36 rd) (hn : 0 ≤ nr ∧ nr ≤ 11) (hk : R32 k) (hb : 0 ≤ b ∧ b ≤ 255) (hr : 1 ≤ k → k ≤ 1 → R32 (rd (3 * nr))) (hk2 : 0 ≤ k ∧ k ≤ 2) : Mt l x iX9_tellsOf d 0 0 50 w [vR 32, vI k, vI b] (Rd (vI (tlF (rd (3 * nr)) k b)) w) := by
  refine Mt.of (L0 := [some (vR 32), some (vI k), some (vI b)]) rfl rfl rfl ?_
  refine gj_il1 dX9_tellsOf_0 ?_
  refine gj_iconst dX9_tellsOf_1 ?_
  refine gj_icmp_ne dX9_tellsOf_2 (by omega) (fun h2 => ?_) (fun h2 => ?_)
  · refine gj_il2 dX9_tellsOf_28 ?_
    refine gj_i2l dX9_tellsOf_29 (by omega) ?_
    refine gj_ldc2 dX9_tellsOf_30 kX9_102 ?_
    refine gj_ldc2 dX9_tellsOf_33 kX9_104 ?_
    refine gj_cS3r dX9_tellsOf_36 mX9_65 hX9_in (by omega) rfl (tX9_in  (by omega) (by omega) (by omega) (by omega)) ?_
    refine gj_ifB_eq dX9_tellsOf_39 (fun h39 => ?_) (fun h39 => ?_)
    · refine gj_iconst dX9_tellsOf_71 ?_
      exact gj_iret dX9_tellsOf_72 rfl (rd_i (by unfold tlF; rw [if_neg (by omega)]; first | (rw [if_pos (by omega)]) | (rw [if_neg (by omega)])))
    · refine gj_il1 dX9_tellsOf_42 ?_
      refine gj_if_eq dX9_tellsOf_43 (by omega) (fun h43 => ?_) (fun h43 => ?_)
      · refine gj_il2 dX9_tellsOf_64 ?_
        refine gj_bipush dX9_tellsOf_65 rfl ?_
        refine gj_isub dX9_tellsOf_67 ?_
        refine gj_goto dX9_tellsOf_68 ?_
        exact gj_iret dX9_tellsOf_72 rfl (rd_i (by unfold tlF; rw [if_neg (by omega)]; first | (rw [if_pos (by omega)]) | (rw [if_neg (by omega)])))
      · refine gj_il2 dX9_tellsOf_46 ?_
        refine gj_bipush dX9_tellsOf_47 rfl ?_
        refine gj_isub dX9_tellsOf_49 ?_
        refine gj_al0 dX9_tellsOf_50 ?_
        refine gj_get dX9_tellsOf_51 fX9_25 q32 rfl rfl ?_
        refine gj_iconst dX9_tellsOf_54 ?_
        refine gj_al0 dX9_tellsOf_55 ?_
        refine gj_get dX9_tellsOf_56 fX9_106 q32 rfl rfl ?_
        refine gj_imul dX9_tellsOf_59 ?_
        refine gj_iald dX9_tellsOf_60 q38 rfl rfl (by omega) ?_
        refine gj_icmp_eq dX9_tellsOf_61 (by have := hr (by omega) (by omega); omega) (fun h61 => ?_) (fun h61 => ?_)
        · refine gj_iconst dX9_tellsOf_71 ?_
          exact gj_iret dX9_tellsOf_72 rfl (rd_i (by unfold tlF; rw [if_neg (by omega)]; first | (rw [if_pos (by omega)]) | (rw [if_neg (by omega)])))
        · refine gj_il2 dX9_tellsOf_64 ?_
          refine gj_bipush dX9_tellsOf_65 rfl ?_
          refine gj_isub dX9_tellsOf_67 ?_
          refine gj_goto dX9_tellsOf_68 ?_
          exact gj_iret dX9_tellsOf_72 rfl (rd_i (by unfold tlF; rw [if_neg (by omega)]; first | (rw [if_pos (by omega)]) | (rw [if_neg (by omega)])))
  · refine gj_il2 dX9_tellsOf_5 ?_
    refine gj_i2l dX9_tellsOf_6 (by omega) ?_
    refine gj_ldc2 dX9_tellsOf_7 kX9_98 ?_
    refine gj_ldc2 dX9_tellsOf_10 kX9_100 ?_
    refine gj_cS3r dX9_tellsOf_13 mX9_65 hX9_in (by omega) rfl (tX9_in  (by omega) (by omega) (by omega) (by omega)) ?_
    refine gj_ifB_eq dX9_tellsOf_16 (fun h16 => ?_) (fun h16 => ?_)
    · refine gj_iconst dX9_tellsOf_26 ?_
      exact gj_iret dX9_tellsOf_27 rfl (rd_i (by unfold tlF; rw [if_pos (by omega)]; first | (rw [if_pos (by omega)]) | (rw [if_neg (by omega)])))
    · refine gj_il2 dX9_tellsOf_19 ?_
      refine gj_bipush dX9_tellsOf_20 rfl ?_
      refine gj_isub dX9_tellsOf_22 ?_
      refine gj_goto dX9_tellsOf_23 ?_
      exact gj_iret dX9_tellsOf_27 rfl (rd_i (by unfold tlF; rw [if_pos (by omega)]; first | (rw [if_pos (by omega)]) | (rw [if_neg (by omega)])))
set_option maxRecDepth 20000 in
set_option maxHeartbeats 4000000 in
theorem tX9_readsRoad {l : Launch} {x : Cx} {d : Nat} {w : AW} {fi by0 a0 nr fc lw le bs bl bp mn mo : Int} {rd tx : Int → Int} (hd : 2 ≤ d) (q32 : w 32 = (oM fi by0 a0 nr fc lw le bs bl bp mn mo)) (q37 : w 37 = cI 47 tx) (q38 : w 38 = cI 36 rd) (hT : TxOK tx by0) (hn : 0 ≤ nr ∧ 4 * nr ≤ by0) (ha0 : a0 = 4 * nr) (hG : GoT tx (4 * nr)) (hR0 : RdT rd tx nr) : Mt l x iX9_readsRoad d 0 0 50 w [vR 32] (fun v2 w2 => (v2 = some (vI 1) ∧ (∃ r1 : Int → Int, w2 32 = (oM fi by0 (4 * nr + 3) (nr + 1) fc lw le bs bl bp mn mo) ∧ w2 38 = cI 36 r1 ∧ RdT r1 tx (nr + 1)) ∧ 4 * nr + 3 ≤ by0 ∧ GoT tx (4 * nr + 3) ∧ ∀ k : Nat, (k ≠ 32 ∧ k ≠ 38) → w2 k = w k) ∨ (v2 = some (vI 0) ∧ (∃ (p : Int) (r1 : Int → Int), w2 32 = (oM fi by0 p nr fc lw le bs bl bp mn mo) ∧ w2 38 = cI 36 r1 ∧ 4 * nr ≤ p ∧ p ≤ by0 ∧ p ≤ 4 * nr + 2 ∧ GoT tx p ∧ (p < by0 → goB tx p = false)) ∧ ∀ k : Nat, (k ≠ 32 ∧ k ≠ 38) → w2 k = w k)) := by
  have t9 := hT.1
  refine Mt.of (L0 := [some (vR 32), none, none]) rfl rfl rfl ?_
  refine gj_al0 dX9_readsRoad_0 ?_
  refine gj_get dX9_readsRoad_1 fX9_106 q32 rfl rfl ?_
  refine gj_bipush dX9_readsRoad_4 rfl ?_
  refine gj_icmp_ne dX9_readsRoad_6 (by omega) (fun h6 => ?_) (fun h6 => ?_)
  · refine gj_iconst dX9_readsRoad_11 ?_
    refine gj_is1 dX9_readsRoad_12 rfl rfl ?_
    have loop13 : ∀ (k : Nat), ∀ (w1 : AW), ∀ (r1 : Int → Int) (a1 i : Int), (w1 32 = (oM fi by0 a1 nr fc lw le bs bl bp mn mo)) → (w1 38 = cI 36 r1) → (∀ k : Nat, (k ≠ 32 ∧ k ≠ 38) → w1 k = w k) → (0 ≤ i ∧ i ≤ 3) → (a1 = 4 * nr + i ∧ a1 ≤ by0) → (GoT tx a1) → (RdT r1 tx nr) → ((1 ≤ i → r1 (3 * nr) = tx (4 * nr) - 97) ∧ (2 ≤ i → r1 (3 * nr + 1) = tx (4 * nr + 1) - 97) ∧ (3 ≤ i → r1 (3 * nr + 2) = tx (4 * nr + 2) - 48)) → (3 - i).toNat < k → Gj l x iX9_readsRoad d 0 0 50 (fun v2 w2 => (v2 = some (vI 1) ∧ (∃ r1 : Int → Int, w2 32 = (oM fi by0 (4 * nr + 3) (nr + 1) fc lw le bs bl bp mn mo) ∧ w2 38 = cI 36 r1 ∧ RdT r1 tx (nr + 1)) ∧ 4 * nr + 3 ≤ by0 ∧ GoT tx (4 * nr + 3) ∧ ∀ k : Nat, (k ≠ 32 ∧ k ≠ 38) → w2 k = w k) ∨ (v2 = some (vI 0) ∧ (∃ (p : Int) (r1 : Int → Int), w2 32 = (oM fi by0 p nr fc lw le bs bl bp mn mo) ∧ w2 38 = cI 36 r1 ∧ 4 * nr ≤ p ∧ p ≤ by0 ∧ p ≤ 4 * nr + 2 ∧ GoT tx p ∧ (p < by0 → goB tx p = false)) ∧ ∀ k : Nat, (k ≠ 32 ∧ k ≠ 38) → w2 k = w k)) 0 0 50 w1 13 [some (vR 32), some (vI i), none] [] := by
      intro k
      induction k with
      | zero => intro _ _ _ _ _ _ _ _ _ _ _ _ hm; exact absurd hm (Nat.not_lt_zero _)
      | succ k ih13 =>
        intro w1 r1 a1 i c32 c38 fr1 hi hat hg hR hr hm13
        refine gj_il1 dX9_readsRoad_13 ?_
        refine gj_iconst dX9_readsRoad_14 ?_
        refine gj_icmp_ge dX9_readsRoad_15 (by omega) (fun h15 => ?_) (fun h15 => ?_)
        · refine gj_al0 dX9_readsRoad_85 ?_
          refine gj_dupR dX9_readsRoad_86 ?_
          refine gj_get dX9_readsRoad_87 fX9_106 c32 rfl rfl ?_
          refine gj_iconst dX9_readsRoad_90 ?_
          refine gj_iadd dX9_readsRoad_91 ?_
          refine gj_pI8 dX9_readsRoad_92 fX9_106 c32 rfl ?_
          refine gj_iconst dX9_readsRoad_95 ?_
          exact gj_zret (Or.inr rfl) dX9_readsRoad_96 rfl (Or.inl ⟨rfl, ⟨_, by rw [show 4 * nr + 3 = a1 by omega]; exact upw_s, (upw_o (by decide) c38), fun q g0 g1 => by
                        by_cases e : q = nr
                        · rw [e]; exact ⟨hr.1 (by omega), hr.2.1 (by omega), hr.2.2 (by omega)⟩
                        · exact hR q g0 (by omega)⟩, by omega, by rw [show 4 * nr + 3 = a1 by omega]; exact hg, (fun k hk => upw_o (by omega) (fr1 k hk))⟩)
        · refine gj_al0 dX9_readsRoad_18 ?_
          refine gj_get dX9_readsRoad_19 fX9_109 c32 rfl rfl ?_
          refine gj_al0 dX9_readsRoad_22 ?_
          refine gj_get dX9_readsRoad_23 fX9_95 c32 rfl rfl ?_
          refine gj_icmp_ge dX9_readsRoad_26 (by omega) (fun h26 => ?_) (fun h26 => ?_)
          · refine gj_iconst dX9_readsRoad_46 ?_
            refine gj_is2 dX9_readsRoad_47 rfl rfl ?_
            refine gj_il2 dX9_readsRoad_48 ?_
            refine gj_iconst dX9_readsRoad_49 ?_
            refine gj_icmp_ne dX9_readsRoad_50 (by omega) (fun h => absurd h (by omega)) (fun _ => ?_)
            refine gj_iconst dX9_readsRoad_53 ?_
            exact gj_zret (Or.inl rfl) dX9_readsRoad_54 rfl (Or.inr ⟨rfl, ⟨_, _, c32, c38, by omega, by omega, by omega, hg, fun z => absurd z (by omega)⟩, fr1⟩)
          · refine gj_al0 dX9_readsRoad_29 ?_
            refine gj_il1 dX9_readsRoad_30 ?_
            refine gj_al0 dX9_readsRoad_31 ?_
            refine gj_get dX9_readsRoad_32 fX9_22 c32 rfl rfl ?_
            refine gj_al0 dX9_readsRoad_35 ?_
            refine gj_get dX9_readsRoad_36 fX9_109 c32 rfl rfl ?_
            have x9 := hT.2 a1 (by omega) (by omega)
            have x8 := tlF_R (p0 := r1 (3 * nr)) (k := i) x9
            refine gj_iald dX9_readsRoad_39 ((fr1 37 (by decide)).trans q37) rfl rfl (by omega) ?_
            refine gj_cV2r dX9_readsRoad_40 mX9_112 hX9_tellsOf c32 rfl (by omega) rfl (tX9_tellsOf  (by omega) c32 c38 (by omega) (by omega) (by omega) (fun g1 g2 => by rw [hr.1 g1]; have := hT.2 (4 * nr) (by omega) (by omega); omega) (by omega)) ?_
            refine gj_goto dX9_readsRoad_43 ?_
            refine gj_is2 dX9_readsRoad_47 rfl rfl ?_
            refine gj_il2 dX9_readsRoad_48 ?_
            refine gj_iconst dX9_readsRoad_49 ?_
            refine gj_icmp_ne dX9_readsRoad_50 (by omega) (fun h50 => ?_) (fun h50 => ?_)
            · obtain ⟨-, hgo, hv⟩ := (tl_ok (tx := tx) (n := nr) (k := i) (p0 := r1 (3 * nr)) (by omega) hr.1 rfl).resolve_left (fun z => h50 (by rw [hat.1]; exact z.1))
              rw [← hat.1] at hv
              refine gj_al0 dX9_readsRoad_55 ?_
              refine gj_get dX9_readsRoad_56 fX9_25 c32 rfl rfl ?_
              refine gj_iconst dX9_readsRoad_59 ?_
              refine gj_al0 dX9_readsRoad_60 ?_
              refine gj_get dX9_readsRoad_61 fX9_106 c32 rfl rfl ?_
              refine gj_imul dX9_readsRoad_64 ?_
              refine gj_il1 dX9_readsRoad_65 ?_
              refine gj_iadd dX9_readsRoad_66 ?_
              refine gj_il2 dX9_readsRoad_67 ?_
              refine gj_iast dX9_readsRoad_68 c38 rfl rfl (by omega) ?_
              refine gj_al0 dX9_readsRoad_69 ?_
              refine gj_dupR dX9_readsRoad_70 ?_
              refine gj_get dX9_readsRoad_71 fX9_109 (upw_o (by decide) c32) rfl rfl ?_
              refine gj_iconst dX9_readsRoad_74 ?_
              refine gj_iadd dX9_readsRoad_75 ?_
              refine gj_pI7 dX9_readsRoad_76 fX9_109 (upw_o (by decide) c32) rfl ?_
              refine gj_ii1 dX9_readsRoad_79 rfl rfl ?_
              refine gj_goto dX9_readsRoad_82 ?_
              refine gj_dr2 ?_
              exact ih13 _ _ _ _ upw_s (upw_o (by decide) upw_s) (fun k hk => upw_o (by omega) ((fun k hk => upw_o (by omega) (fr1 k hk)) k hk)) (by omega) (by omega) (got_s hg (by rw [hat.1]; exact hgo)) (fun q g0 g1 => by rw [upf_o _ _ (by omega), upf_o _ _ (by omega), upf_o _ _ (by omega)]; exact hR q g0 g1) (by
                                  rcases (show i = 0 ∨ i = 1 ∨ i = 2 by omega) with e | e | e <;> subst e <;> refine ⟨fun g1 => ?_, fun g1 => ?_, fun g1 => ?_⟩ <;> (first | omega | (rw [upf_o _ _ (by omega)]; first | exact hr.1 (by omega) | exact hr.2.1 (by omega)) | skip)
                                  · rw [show 3 * nr + 0 = 3 * nr by omega, upf_s, hv, if_neg (by omega), hat.1, show 4 * nr + 0 = 4 * nr by omega]
                                  · rw [upf_s, hv, if_neg (by omega), hat.1]
                                  · rw [upf_s, hv, if_pos rfl, hat.1]) (by omega)
            · refine gj_iconst dX9_readsRoad_53 ?_
              exact gj_zret (Or.inl rfl) dX9_readsRoad_54 rfl (Or.inr ⟨rfl, ⟨_, _, c32, c38, by omega, by omega, by omega, hg, fun _ => by
                                rcases tl_ok (tx := tx) (n := nr) (k := i) (p0 := r1 (3 * nr)) (by omega) hr.1 rfl with z | z
                                · rw [hat.1]; exact z.2
                                · exact absurd (by rw [← hat.1]; exact h50) z.1⟩, fr1⟩)
    exact loop13 _ _ _ _ _ q32 q38 (fun (k : Nat) (_ : k ≠ 32 ∧ k ≠ 38) => rfl) (by omega) (by omega) (by rw [ha0]; exact hG) hR0 ⟨fun z => absurd z (by omega), fun z => absurd z (by omega), fun z => absurd z (by omega)⟩ (Nat.lt_succ_self _)
  · omega
set_option maxRecDepth 20000 in
set_option maxHeartbeats 4000000 in
theorem tX9_reads {l : Launch} {x : Cx} {d : Nat} {w : AW} {fi by0 a0 nr fc lw le bs bl bp mn mo : Int} {rd tx : Int → Int} (hd : 3 ≤ d) (q32 : w 32 = (oM fi by0 a0 nr fc lw le bs bl bp mn mo)) (q37 : w 37 = cI 47 tx) (q38 : w 38 = cI 36 rd) (hT : TxOK tx by0) : Mt l x iX9_reads d 0 0 50 w [vR 32] (Wr (vI (fltF tx by0)) (fun w2 => ∃ (a1 : Int) (r1 : Int → Int), w2 32 = (oM fi by0 a1 (numF tx by0) fc lw le bs bl bp mn mo) ∧ w2 38 = cI 36 r1 ∧ RdT r1 tx (numF tx by0) ∧ ∀ k : Nat, (k ≠ 32 ∧ k ≠ 38) → w2 k = w k)) := by
  have t9 := hT.1
  refine Mt.of (L0 := [some (vR 32), none, none]) rfl rfl rfl ?_
  have loop23 : ∀ (k : Nat), ∀ (w1 : AW), ∀ (r1 : Int → Int) (a1 n1 g : Int), (w1 32 = (oM fi by0 a1 n1 fc lw le bs bl bp mn mo)) → (w1 38 = cI 36 r1) → (∀ k : Nat, (k ≠ 32 ∧ k ≠ 38) → w1 k = w k) → (0 ≤ n1 ∧ n1 ≤ 12) → ((g = 1 ∧ a1 = 4 * n1 ∧ 4 * n1 ≤ by0 ∧ 0 < by0) ∨ (g = 0 ∧ a1 = by0 ∧ ((by0 = 0 ∧ n1 = 0) ∨ by0 + 1 = 4 * n1))) → (GoT tx a1) → (RdT r1 tx n1) → (60 - 4 * n1 + g).toNat < k → Gj l x iX9_reads d 0 0 50 (Wr (vI (fltF tx by0)) (fun w2 => ∃ (a1 : Int) (r1 : Int → Int), w2 32 = (oM fi by0 a1 (numF tx by0) fc lw le bs bl bp mn mo) ∧ w2 38 = cI 36 r1 ∧ RdT r1 tx (numF tx by0) ∧ ∀ k : Nat, (k ≠ 32 ∧ k ≠ 38) → w2 k = w k)) 0 0 50 w1 23 [some (vR 32), some (vI g), none] [] := by
    intro k
    induction k with
    | zero => intro _ _ _ _ _ _ _ _ _ _ _ _ hm; exact absurd hm (Nat.not_lt_zero _)
    | succ k ih23 =>
      intro w1 r1 a1 n1 g c32 c38 fr1 hi hat hg hR hm23
      refine gj_il1 dX9_reads_23 ?_
      refine gj_if_eq dX9_reads_24 (by omega) (fun h24 => ?_) (fun h24 => ?_)
      · have h4 : a1 = by0 ∧ ((by0 = 0 ∧ n1 = 0) ∨ by0 + 1 = 4 * n1) := by omega
        have h5 := flt_done hg h4.1 h4.2
        refine gj_iconst dX9_reads_106 ?_
        exact gj_iret dX9_reads_107 rfl (wr_i h5.1.symm ⟨_, _, by rw [h5.2]; exact c32, c38, by rw [h5.2]; exact hR, fr1⟩)
      · have h4 : a1 = 4 * n1 ∧ 4 * n1 ≤ by0 ∧ 0 < by0 := by omega
        refine gj_al0 dX9_reads_27 ?_
        refine gj_cV0x dX9_reads_28 mX9_115 hX9_readsRoad c32 rfl (by omega) rfl (tX9_readsRoad  (by omega) c32 ((fr1 37 (by decide)).trans q37) c38 hT (by omega) (by omega) (by rw [← h4.1]; exact hg) hR) (fun v28 w28 P28 => ?_)
        rcases P28 with ⟨rfl, ⟨r28, e32_28, e38_28, rt28⟩, le28, go28, fr28⟩ | ⟨rfl, ⟨p28, r28, e32_28, e38_28, l1_28, l2_28, l3_28, go28, no28⟩, fr28⟩
        · simp only [Option.toList, List.cons_append, List.nil_append]
          refine gj_is2 dX9_reads_31 rfl rfl ?_
          refine gj_il2 dX9_reads_32 ?_
          refine gj_if_eq dX9_reads_33 (by omega) (fun h => absurd h (by omega)) (fun _ => ?_)
          refine gj_al0 dX9_reads_36 ?_
          refine gj_get dX9_reads_37 fX9_109 e32_28 rfl rfl ?_
          refine gj_al0 dX9_reads_40 ?_
          refine gj_get dX9_reads_41 fX9_95 e32_28 rfl rfl ?_
          refine gj_icmp_ge dX9_reads_44 (by omega) (fun h44 => ?_) (fun h44 => ?_)
          · refine gj_iconst dX9_reads_51 ?_
            refine gj_is1 dX9_reads_52 rfl rfl ?_
            refine gj_il2 dX9_reads_53 ?_
            refine gj_if_eq dX9_reads_54 (by omega) (fun h => absurd h (by omega)) (fun _ => ?_)
            refine gj_il1 dX9_reads_57 ?_
            refine gj_if_eq dX9_reads_58 (by omega) (fun _ => ?_) (fun h => absurd h (by omega))
            refine gj_al0 dX9_reads_85 ?_
            refine gj_dupR dX9_reads_86 ?_
            refine gj_get dX9_reads_87 fX9_109 e32_28 rfl rfl ?_
            refine gj_il1 dX9_reads_90 ?_
            refine gj_if_eq dX9_reads_91 (by omega) (fun _ => ?_) (fun h => absurd h (by omega))
            refine gj_iconst dX9_reads_98 ?_
            refine gj_iadd dX9_reads_99 ?_
            refine gj_pI7 dX9_reads_100 fX9_109 e32_28 rfl ?_
            refine gj_goto dX9_reads_103 ?_
            refine gj_dr2 ?_
            exact ih23 _ _ _ _ _ upw_s (upw_o (by decide) e38_28) (fun k hk => upw_o (by omega) ((fun k hk => (fr28 k hk).trans (fr1 k hk)) k hk)) (by omega) (Or.inr ⟨rfl, by omega, by omega⟩) (by rw [Int.add_zero]; exact go28) rt28 (by omega)
          · refine gj_iconst dX9_reads_47 ?_
            refine gj_goto dX9_reads_48 ?_
            refine gj_is1 dX9_reads_52 rfl rfl ?_
            refine gj_il2 dX9_reads_53 ?_
            refine gj_if_eq dX9_reads_54 (by omega) (fun h => absurd h (by omega)) (fun _ => ?_)
            refine gj_il1 dX9_reads_57 ?_
            refine gj_if_eq dX9_reads_58 (by omega) (fun h => absurd h (by omega)) (fun _ => ?_)
            refine gj_al0 dX9_reads_61 ?_
            refine gj_get dX9_reads_62 fX9_22 e32_28 rfl rfl ?_
            refine gj_al0 dX9_reads_65 ?_
            refine gj_get dX9_reads_66 fX9_109 e32_28 rfl rfl ?_
            have x9 := hT.2 (4 * n1 + 3) (by omega) (by omega)
            refine gj_iald dX9_reads_69 ((fr28 37 (by decide)).trans ((fr1 37 (by decide)).trans q37)) rfl rfl (by omega) ?_
            refine gj_bipush dX9_reads_70 rfl ?_
            refine gj_icmp_eq dX9_reads_72 (by omega) (fun h72 => ?_) (fun h72 => ?_)
            · refine gj_al0 dX9_reads_85 ?_
              refine gj_dupR dX9_reads_86 ?_
              refine gj_get dX9_reads_87 fX9_109 e32_28 rfl rfl ?_
              refine gj_il1 dX9_reads_90 ?_
              refine gj_if_eq dX9_reads_91 (by omega) (fun h => absurd h (by omega)) (fun _ => ?_)
              refine gj_iconst dX9_reads_94 ?_
              refine gj_goto dX9_reads_95 ?_
              refine gj_iadd dX9_reads_99 ?_
              refine gj_pI7 dX9_reads_100 fX9_109 e32_28 rfl ?_
              refine gj_goto dX9_reads_103 ?_
              refine gj_dr2 ?_
              exact ih23 _ _ _ _ _ upw_s (upw_o (by decide) e38_28) (fun k hk => upw_o (by omega) ((fun k hk => (fr28 k hk).trans (fr1 k hk)) k hk)) (by omega) (Or.inl ⟨rfl, by omega, by omega, by omega⟩) (got_s go28 ((goB_3 (by omega)).mpr (by omega))) rt28 (by omega)
            · refine gj_al0 dX9_reads_75 ?_
              refine gj_iconst dX9_reads_76 ?_
              refine gj_pI8 dX9_reads_77 fX9_106 e32_28 rfl ?_
              refine gj_al0 dX9_reads_80 ?_
              refine gj_get dX9_reads_81 fX9_109 upw_s rfl rfl ?_
              exact gj_iret dX9_reads_84 rfl (wr_i (flt_at (p := 4 * n1 + 3) (by omega) go28 (by omega) (by rw [← Bool.not_eq_true, goB_3 (by omega)]; omega)).symm ⟨_, _, by rw [num_flt (flt_at (p := 4 * n1 + 3) (by omega) go28 (by omega) (by rw [← Bool.not_eq_true, goB_3 (by omega)]; omega)) (by omega)]; exact upw_s, (upw_o (by decide) e38_28), by rw [num_flt (flt_at (p := 4 * n1 + 3) (by omega) go28 (by omega) (by rw [← Bool.not_eq_true, goB_3 (by omega)]; omega)) (by omega)]; exact (fun q g0 g1 => absurd g1 (by omega)), (fun k hk => upw_o (by omega) ((fun k hk => (fr28 k hk).trans (fr1 k hk)) k hk))⟩)
        · simp only [Option.toList, List.cons_append, List.nil_append]
          refine gj_is2 dX9_reads_31 rfl rfl ?_
          refine gj_il2 dX9_reads_32 ?_
          refine gj_if_eq dX9_reads_33 (by omega) (fun _ => ?_) (fun h => absurd h (by omega))
          refine gj_iconst dX9_reads_51 ?_
          refine gj_is1 dX9_reads_52 rfl rfl ?_
          refine gj_il2 dX9_reads_53 ?_
          refine gj_if_eq dX9_reads_54 (by omega) (fun _ => ?_) (fun h => absurd h (by omega))
          refine gj_al0 dX9_reads_75 ?_
          refine gj_iconst dX9_reads_76 ?_
          refine gj_pI8 dX9_reads_77 fX9_106 e32_28 rfl ?_
          refine gj_al0 dX9_reads_80 ?_
          refine gj_get dX9_reads_81 fX9_109 upw_s rfl rfl ?_
          exact gj_iret dX9_reads_84 rfl (wr_i (flt_stop (by omega) go28 l2_28 no28 (by omega) (by omega)).symm ⟨_, _, by rw [num_flt (flt_stop (by omega) go28 l2_28 no28 (by omega) (by omega)) (by omega)]; exact upw_s, (upw_o (by decide) e38_28), by rw [num_flt (flt_stop (by omega) go28 l2_28 no28 (by omega) (by omega)) (by omega)]; exact (fun q g0 g1 => absurd g1 (by omega)), (fun k hk => upw_o (by omega) ((fun k hk => (fr28 k hk).trans (fr1 k hk)) k hk))⟩)
  refine gj_al0 dX9_reads_0 ?_
  refine gj_iconst dX9_reads_1 ?_
  refine gj_pI7 dX9_reads_2 fX9_109 q32 rfl ?_
  refine gj_al0 dX9_reads_5 ?_
  refine gj_iconst dX9_reads_6 ?_
  refine gj_pI8 dX9_reads_7 fX9_106 upw_s rfl ?_
  refine gj_al0 dX9_reads_10 ?_
  refine gj_get dX9_reads_11 fX9_95 upw_s rfl rfl ?_
  refine gj_if_le dX9_reads_14 (by omega) (fun h14 => ?_) (fun h14 => ?_)
  · refine gj_iconst dX9_reads_21 ?_
    refine gj_is1 dX9_reads_22 rfl rfl ?_
    exact loop23 _ _ _ _ _ _ upw_s (upw_o (by decide) (upw_o (by decide) q38)) (fun k hk => upw_o (by omega) ((fun k hk => upw_o (by omega) ((fun (k : Nat) (_ : k ≠ 32 ∧ k ≠ 38) => rfl) k hk)) k hk)) (by omega) (Or.inr ⟨rfl, by omega, by omega⟩) (fun q g0 g1 => absurd g1 (by omega)) (fun q g0 g1 => absurd g1 (by omega)) (Nat.lt_succ_self _)
  · refine gj_iconst dX9_reads_17 ?_
    refine gj_goto dX9_reads_18 ?_
    refine gj_is1 dX9_reads_22 rfl rfl ?_
    exact loop23 _ _ _ _ _ _ upw_s (upw_o (by decide) (upw_o (by decide) q38)) (fun k hk => upw_o (by omega) ((fun k hk => upw_o (by omega) ((fun (k : Nat) (_ : k ≠ 32 ∧ k ≠ 38) => rfl) k hk)) k hk)) (by omega) (Or.inl ⟨rfl, by omega, by omega, by omega⟩) (fun q g0 g1 => absurd g1 (by omega)) (fun q g0 g1 => absurd g1 (by omega)) (Nat.lt_succ_self _)
