/-! contracts: the model's sheets -/
def blkF (f : Int → Int) (o n : Int) (g : Int → Int) : Int → Int := fun q => if o ≤ q ∧ q < o + n then g (q - o) else f q
theorem blk_0 (f g : Int → Int) (o : Int) : blkF f o 0 g = f := by
  funext q
  unfold blkF
  rw [if_neg (by omega)]
theorem blk_s (f g : Int → Int) {o i v : Int} (h : 0 ≤ i) (hv : v = g i) : upf (blkF f o i g) (o + i) v = blkF f o (i + 1) g := by
  funext q
  unfold upf blkF
  by_cases h1 : q = o + i
  · rw [if_pos h1, if_pos (by omega), hv, h1, show o + i - o = i by omega]
  · rw [if_neg h1]
    by_cases h2 : o ≤ q ∧ q < o + i
    · rw [if_pos h2, if_pos (by omega)]
    · rw [if_neg h2, if_neg (by omega)]
abbrev ShM (sf sz im fm ln : Int → Int) (it : Int → Int → Int) : Prop := ∀ s : Int, 0 ≤ s → s ≤ 3 → sf s = fm s ∧ (fm s ≠ -1 → sz s = ln s ∧ ∀ j : Int, 0 ≤ j → j < ln s → im (60 * s + j) = it s j)
abbrev ShP (fm ln : Int → Int) (it : Int → Int → Int) : Prop := ∀ s : Int, 0 ≤ s → s ≤ 3 → fm s = -1 ∨ ((0 ≤ fm s ∧ fm s ≤ 2) ∧ (0 ≤ ln s ∧ ln s ≤ 60) ∧ ∀ j : Int, 0 ≤ j → j < ln s → R32 (it s j))
theorem shm_new {sf sz im fm ln : Int → Int} {it : Int → Int → Int} {s f0 n1 : Int} (h : ShM sf sz im fm ln it) (hP : ShP fm ln it) (hs : 0 ≤ s ∧ s ≤ 3) (hn : 0 ≤ n1 ∧ n1 ≤ 60) : ShM (upf sf s f0) (upf sz s n1) (blkF im (60 * s) n1 (fun _ => 0)) (upf fm s f0) (upf ln s n1) (upi it s (fun _ => 0)) := by
  intro q q0 q1
  by_cases e : q = s
  · subst e
    refine ⟨by rw [upf_s, upf_s], fun _ => ⟨by rw [upf_s, upf_s], fun j j0 j1 => ?_⟩⟩
    rw [upf_s] at j1
    unfold blkF upi
    rw [if_pos (by omega), if_pos rfl]
  · have h1 := h q q0 q1
    have uo : ∀ (f : Int → Int) (v : Int), upf f s v q = f q := fun f v => upf_o f v e
    simp only [uo]
    refine ⟨h1.1, fun c => ⟨(h1.2 c).1, fun j j0 j1 => ?_⟩⟩
    have p := ((hP q q0 q1).resolve_left c).2.1
    unfold blkF upi
    rw [if_neg (by omega), if_neg e]
    exact (h1.2 c).2 j j0 j1
theorem shm_lose {sf sz im fm ln : Int → Int} {it : Int → Int → Int} {s : Int} (h : ShM sf sz im fm ln it) : ShM (upf sf s (-1)) sz im (upf fm s (-1)) ln it := by
  intro q q0 q1
  by_cases e : q = s
  · subst e
    rw [upf_s, upf_s]
    exact ⟨rfl, fun c => absurd rfl c⟩
  · rw [upf_o _ _ e, upf_o _ _ e]
    exact h q q0 q1
theorem shm_it {sf sz im im2 fm ln t2 : Int → Int} {it : Int → Int → Int} {s : Int} (h : ShM sf sz im fm ln it) (hP : ShP fm ln it) (him : ∀ q j : Int, 0 ≤ q → q ≤ 3 → 0 ≤ j → j < 60 → q ≠ s → im2 (60 * q + j) = im (60 * q + j)) (ht : fm s ≠ -1 → ∀ j : Int, 0 ≤ j → j < ln s → im2 (60 * s + j) = t2 j) : ShM sf sz im2 fm ln (upi it s t2) := by
  intro q q0 q1
  have h1 := h q q0 q1
  refine ⟨h1.1, fun c => ⟨(h1.2 c).1, fun j j0 j1 => ?_⟩⟩
  have p := ((hP q q0 q1).resolve_left c).2.1
  unfold upi
  by_cases e : q = s
  · subst e
    rw [if_pos rfl]
    exact ht c j j0 j1
  · rw [if_neg e, him q j q0 q1 j0 (by omega) e]
    exact (h1.2 c).2 j j0 j1
theorem wrA_0 {f n f0 i : Int} (h : wrA f n f0 i = 0) : f ≠ -1 ∧ f = f0 ∧ (0 ≤ i ∧ i ≤ n - 1) := by
  unfold wrA at h
  by_cases c1 : f = -1
  · rw [if_pos c1] at h; omega
  · rw [if_neg c1] at h
    by_cases c2 : f ≠ f0
    · rw [if_pos c2] at h; omega
    · rw [if_neg c2] at h
      by_cases c3 : 0 ≤ i ∧ i ≤ n - 1
      · exact ⟨c1, Decidable.not_not.mp c2, c3⟩
      · rw [if_neg c3] at h; omega
set_option maxRecDepth 20000 in
set_option maxHeartbeats 4000000 in
theorem tX9_finds {l : Launch} {x : Cx} {d : Nat} {w : AW} {fi by0 a0 nr fc lw le bs bl bp mn mo : Int} {n1 : Int} (hd : 0 ≤ d) (q32 : w 32 = (oM fi by0 a0 nr fc lw le bs bl bp mn mo)) : Mt l x iX9_finds d 0 0 50 w [vR 32, vI n1] (Wr (vI (-10 - n1)) (fun w2 => w2 = upw w 32 (oM n1 by0 a0 nr fc lw le bs bl bp mn mo))) := by
  refine Mt.of (L0 := [some (vR 32), some (vI n1)]) rfl rfl rfl ?_
  refine gj_al0 dX9_finds_0 ?_
  refine gj_il1 dX9_finds_1 ?_
  refine gj_pI4 dX9_finds_2 fX9_69 q32 rfl ?_
  refine gj_bipush dX9_finds_5 rfl ?_
  refine gj_il1 dX9_finds_7 ?_
  refine gj_isub dX9_finds_8 ?_
  exact gj_iret dX9_finds_9 rfl (wr_i rfl rfl)
set_option maxRecDepth 20000 in
set_option maxHeartbeats 4000000 in
theorem tX9_cut {l : Launch} {x : Cx} {d : Nat} {w : AW} {f0 v : Int} (hd : 0 ≤ d) (hf0 : R32 f0) : Mt l x iX9_cut d 0 0 50 w [vI f0, vI v] (Rd (vI (cutF f0 v)) w) := by
  refine Mt.of (L0 := [some (vI f0), some (vI v)]) rfl rfl rfl ?_
  refine gj_il0 dX9_cut_0 ?_
  refine gj_if_ne dX9_cut_1 (by omega) (fun h1 => ?_) (fun h1 => ?_)
  · refine gj_il0 dX9_cut_9 ?_
    refine gj_iconst dX9_cut_10 ?_
    refine gj_icmp_ne dX9_cut_11 (by omega) (fun h11 => ?_) (fun h11 => ?_)
    · refine gj_il1 dX9_cut_19 ?_
      exact gj_iret dX9_cut_20 rfl (rd_i (by unfold cutF; first | (rw [if_pos (by omega)]) | (rw [if_neg (by omega), if_pos (by omega)]) | (rw [if_neg (by omega), if_neg (by omega)])))
    · refine gj_il1 dX9_cut_14 ?_
      refine gj_i2s dX9_cut_15 ?_
      refine gj_goto dX9_cut_16 ?_
      exact gj_iret dX9_cut_20 rfl (rd_i (by unfold cutF; first | (rw [if_pos (by omega)]) | (rw [if_neg (by omega), if_pos (by omega)]) | (rw [if_neg (by omega), if_neg (by omega)])))
  · refine gj_il1 dX9_cut_4 ?_
    refine gj_i2b dX9_cut_5 ?_
    refine gj_goto dX9_cut_6 ?_
    exact gj_iret dX9_cut_20 rfl (rd_i (by unfold cutF; first | (rw [if_pos (by omega)]) | (rw [if_neg (by omega), if_pos (by omega)]) | (rw [if_neg (by omega), if_neg (by omega)])))
set_option maxRecDepth 20000 in
set_option maxHeartbeats 4000000 in
theorem tX9_sheet {l : Launch} {x : Cx} {d : Nat} {w : AW} {tx : Int → Int} {by0 : Int} {ru fa fe : Int → Int} {fc lw br me : Int} {mh ml mw : Int → Int} {mn fi : Int} {fm ln : Int → Int} {it : Int → Int → Int} {s f0 n1 : Int} (hd : 2 ≤ d) (hC : ModelC w tx by0 ru fa fe fc lw br me mh ml mw mn fi fm ln it) (hK : ParOK tx by0 ru fa fe fc lw br me mh ml mw mn fi fm ln it) (hs : R32 s) (hf0 : R32 f0) (hn1 : R32 n1) : Mt l x iX9_sheet d 0 0 50 w [vR 32, vI s, vI f0, vI n1] (fun v2 w2 => (((0 ≤ s ∧ s ≤ 3) ∧ (0 ≤ f0 ∧ f0 ≤ 2) ∧ n1 ≤ 60) ∧ 0 ≤ n1 ∧ v2 = some (vI n1) ∧ ModelC w2 tx by0 ru fa fe fc lw br me mh ml mw mn fi (upf fm s f0) (upf ln s n1) (upi it s (fun _ => 0)) ∧ ∀ k : Nat, k < 32 → w2 k = w k) ∨ (((0 ≤ s ∧ s ≤ 3) ∧ (0 ≤ f0 ∧ f0 ≤ 2) ∧ n1 ≤ 60) ∧ ¬ 0 ≤ n1 ∧ v2 = some (vI (-15)) ∧ ModelC w2 tx by0 ru fa fe fc lw br me mh ml mw mn 5 fm ln it ∧ ∀ k : Nat, k < 32 → w2 k = w k) ∨ (¬ ((0 ≤ s ∧ s ≤ 3) ∧ (0 ≤ f0 ∧ f0 ≤ 2) ∧ n1 ≤ 60) ∧ v2 = some (vI (-2)) ∧ w2 = w)) := by
  have hC0 := hC
  obtain ⟨a0, nr, le, bs, bl, bp, mo, sf, sz, im, mv, rd, se, fr, tr, sp, so, lu, bt, sg, q32, q33, q34, q35, q36, q37, q38, q39, q40, q41, q42, hse0, hse1, q43, q44, q45, q46, q47, q48, q49, hsg, hsh⟩ := hC
  obtain ⟨hT, hO, hbm, hMm, hSh⟩ := hK
  have t9 := hT.1
  have n9 := numF_R (tx := tx) hT.1
  have f9 := hO.2.2.1.1
  have m9 := hMm.1
  refine Mt.of (L0 := [some (vR 32), some (vI s), some (vI f0), some (vI n1), none]) rfl rfl rfl ?_
  refine gj_il1 dX9_sheet_0 ?_
  refine gj_cS1r dX9_sheet_1 mX9_74 hX9_isSheet (by omega) rfl (tX9_isSheet  (by omega) (by omega)) ?_
  refine gj_ifB_eq dX9_sheet_4 (fun h4 => ?_) (fun h4 => ?_)
  · refine gj_bipush dX9_sheet_25 rfl ?_
    exact gj_iret dX9_sheet_27 rfl (Or.inr (Or.inr ⟨by omega, rfl, rfl⟩))
  · refine gj_il2 dX9_sheet_7 ?_
    refine gj_i2l dX9_sheet_8 (by omega) ?_
    refine gj_lconst0 dX9_sheet_9 ?_
    refine gj_ldc2 dX9_sheet_10 kX9_78 ?_
    refine gj_cS3r dX9_sheet_13 mX9_65 hX9_in (by omega) rfl (tX9_in  (by omega) (by omega) (by omega) (by omega)) ?_
    refine gj_ifB_eq dX9_sheet_16 (fun h16 => ?_) (fun h16 => ?_)
    · refine gj_bipush dX9_sheet_25 rfl ?_
      exact gj_iret dX9_sheet_27 rfl (Or.inr (Or.inr ⟨by omega, rfl, rfl⟩))
    · refine gj_il3 dX9_sheet_19 ?_
      refine gj_bipush dX9_sheet_20 rfl ?_
      refine gj_icmp_le dX9_sheet_22 (by omega) (fun h22 => ?_) (fun h22 => ?_)
      · refine gj_il3 dX9_sheet_28 ?_
        refine gj_if_ge dX9_sheet_29 (by omega) (fun h29 => ?_) (fun h29 => ?_)
        · refine gj_al0 dX9_sheet_38 ?_
          refine gj_get dX9_sheet_39 fX9_7 q32 rfl rfl ?_
          refine gj_il1 dX9_sheet_42 ?_
          refine gj_il2 dX9_sheet_43 ?_
          refine gj_iast dX9_sheet_44 q33 rfl rfl (by omega) ?_
          refine gj_al0 dX9_sheet_45 ?_
          refine gj_get dX9_sheet_46 fX9_13 (upw_o (by decide) q32) rfl rfl ?_
          refine gj_il1 dX9_sheet_49 ?_
          refine gj_il3 dX9_sheet_50 ?_
          refine gj_iast dX9_sheet_51 (upw_o (by decide) q34) rfl rfl (by omega) ?_
          refine gj_iconst dX9_sheet_52 ?_
          refine gj_is4 dX9_sheet_53 rfl rfl ?_
          refine gj_eq rfl rfl (show (upw (upw w 33 (cI 4 (upf sf s f0))) 34 (cI 4 (upf sz s n1))) = upw (upw (upw w 33 (cI 4 (upf sf s f0))) 34 (cI 4 (upf sz s n1))) 35 (cI 240 (blkF im (60 * s) 0 (fun _ => 0))) from (by rw [blk_0, upw_same (upw_o (by decide) (upw_o (by decide) q35))])) ?_
          have loop55 : ∀ (k : Nat), ∀ (i : Int), (0 ≤ i ∧ i ≤ n1) → (n1 - i).toNat < k → Gj l x iX9_sheet d 0 0 50 (fun v2 w2 => (((0 ≤ s ∧ s ≤ 3) ∧ (0 ≤ f0 ∧ f0 ≤ 2) ∧ n1 ≤ 60) ∧ 0 ≤ n1 ∧ v2 = some (vI n1) ∧ ModelC w2 tx by0 ru fa fe fc lw br me mh ml mw mn fi (upf fm s f0) (upf ln s n1) (upi it s (fun _ => 0)) ∧ ∀ k : Nat, k < 32 → w2 k = w k) ∨ (((0 ≤ s ∧ s ≤ 3) ∧ (0 ≤ f0 ∧ f0 ≤ 2) ∧ n1 ≤ 60) ∧ ¬ 0 ≤ n1 ∧ v2 = some (vI (-15)) ∧ ModelC w2 tx by0 ru fa fe fc lw br me mh ml mw mn 5 fm ln it ∧ ∀ k : Nat, k < 32 → w2 k = w k) ∨ (¬ ((0 ≤ s ∧ s ≤ 3) ∧ (0 ≤ f0 ∧ f0 ≤ 2) ∧ n1 ≤ 60) ∧ v2 = some (vI (-2)) ∧ w2 = w)) 0 0 50 (upw (upw (upw w 33 (cI 4 (upf sf s f0))) 34 (cI 4 (upf sz s n1))) 35 (cI 240 (blkF im (60 * s) i (fun _ => 0)))) 55 [some (vR 32), some (vI s), some (vI f0), some (vI n1), some (vI i)] [] := by
            intro k
            induction k with
            | zero => intro _ _ hm; exact absurd hm (Nat.not_lt_zero _)
            | succ k ih55 =>
              intro i  hi hm55
              refine gj_il4 dX9_sheet_55 ?_
              refine gj_il3 dX9_sheet_57 ?_
              refine gj_icmp_ge dX9_sheet_58 (by omega) (fun h58 => ?_) (fun h58 => ?_)
              · refine gj_il3 dX9_sheet_80 ?_
                exact gj_iret dX9_sheet_81 rfl (Or.inl ⟨⟨by omega, by omega, by omega⟩, by omega, rfl, ⟨⟨_, _, _, _, _, _, _, _, _, _, _, _, _, _, _, _, _, _, _, _, (upw_o (by decide) (upw_o (by decide) (upw_o (by decide) q32))), (upw_o (by decide) (upw_o (by decide) upw_s)), (upw_o (by decide) upw_s), upw_s, (upw_o (by decide) (upw_o (by decide) (upw_o (by decide) q36))), (upw_o (by decide) (upw_o (by decide) (upw_o (by decide) q37))), (upw_o (by decide) (upw_o (by decide) (upw_o (by decide) q38))), (upw_o (by decide) (upw_o (by decide) (upw_o (by decide) q39))), (upw_o (by decide) (upw_o (by decide) (upw_o (by decide) q40))), (upw_o (by decide) (upw_o (by decide) (upw_o (by decide) q41))), (upw_o (by decide) (upw_o (by decide) (upw_o (by decide) q42))), hse0, hse1, (upw_o (by decide) (upw_o (by decide) (upw_o (by decide) q43))), (upw_o (by decide) (upw_o (by decide) (upw_o (by decide) q44))), (upw_o (by decide) (upw_o (by decide) (upw_o (by decide) q45))), (upw_o (by decide) (upw_o (by decide) (upw_o (by decide) q46))), (upw_o (by decide) (upw_o (by decide) (upw_o (by decide) q47))), (upw_o (by decide) (upw_o (by decide) (upw_o (by decide) q48))), (upw_o (by decide) (upw_o (by decide) (upw_o (by decide) q49))), hsg, (by rw [show i = n1 by omega]; exact shm_new hsh hSh (by omega) (by omega))⟩, (fun (k : Nat) (hk : k < 32) => (upw_o (by omega) (upw_o (by omega) (upw_o (by omega) rfl)) : upw (upw (upw w 33 (cI 4 (upf sf s f0))) 34 (cI 4 (upf sz s n1))) 35 _ k = w k))⟩⟩)
              · refine gj_al0 dX9_sheet_61 ?_
                refine gj_get dX9_sheet_62 fX9_16 (upw_o (by decide) (upw_o (by decide) (upw_o (by decide) q32))) rfl rfl ?_
                refine gj_bipush dX9_sheet_65 rfl ?_
                refine gj_il1 dX9_sheet_67 ?_
                refine gj_imul dX9_sheet_68 ?_
                refine gj_il4 dX9_sheet_69 ?_
                refine gj_iadd dX9_sheet_71 ?_
                refine gj_iconst dX9_sheet_72 ?_
                refine gj_iast dX9_sheet_73 upw_s rfl rfl (by omega) ?_
                refine gj_ii4 dX9_sheet_74 rfl rfl ?_
                refine gj_goto dX9_sheet_77 ?_
                rw [upw_upw, blk_s _ _ hi.1 rfl]
                exact ih55 _ (by omega) (by omega)
          exact loop55 _ 0 (by omega) (Nat.lt_succ_self _)
        · refine gj_al0 dX9_sheet_32 ?_
          refine gj_iconst dX9_sheet_33 ?_
          refine gj_cV1w dX9_sheet_34 mX9_80 hX9_finds q32 rfl (by omega) rfl (tX9_finds  (by omega) q32) (fun w34 P34 => ?_)
          obtain rfl := P34
          exact gj_iret dX9_sheet_37 rfl (Or.inr (Or.inl ⟨⟨by omega, by omega, by omega⟩, by omega, rfl, ⟨⟨_, _, _, _, _, _, _, _, _, _, _, _, _, _, _, _, _, _, _, _, upw_s, (upw_o (by decide) q33), (upw_o (by decide) q34), (upw_o (by decide) q35), (upw_o (by decide) q36), (upw_o (by decide) q37), (upw_o (by decide) q38), (upw_o (by decide) q39), (upw_o (by decide) q40), (upw_o (by decide) q41), (upw_o (by decide) q42), hse0, hse1, (upw_o (by decide) q43), (upw_o (by decide) q44), (upw_o (by decide) q45), (upw_o (by decide) q46), (upw_o (by decide) q47), (upw_o (by decide) q48), (upw_o (by decide) q49), hsg, hsh⟩, (fun k hk => upw_o (by omega) ((fun (k : Nat) (_ : k < 32) => rfl) k hk))⟩⟩))
      · refine gj_bipush dX9_sheet_25 rfl ?_
        exact gj_iret dX9_sheet_27 rfl (Or.inr (Or.inr ⟨by omega, rfl, rfl⟩))
set_option maxRecDepth 20000 in
set_option maxHeartbeats 4000000 in
theorem tX9_lose {l : Launch} {x : Cx} {d : Nat} {w : AW} {tx : Int → Int} {by0 : Int} {ru fa fe : Int → Int} {fc lw br me : Int} {mh ml mw : Int → Int} {mn fi : Int} {fm ln : Int → Int} {it : Int → Int → Int} {s : Int} (hd : 2 ≤ d) (hC : ModelC w tx by0 ru fa fe fc lw br me mh ml mw mn fi fm ln it) (hK : ParOK tx by0 ru fa fe fc lw br me mh ml mw mn fi fm ln it) (hs : R32 s) : Mt l x iX9_lose d 0 0 50 w [vR 32, vI s] (fun v2 w2 => ((0 ≤ s ∧ s ≤ 3) ∧ fm s ≠ -1 ∧ v2 = some (vI (ln s)) ∧ ModelC w2 tx by0 ru fa fe fc lw br me mh ml mw mn fi (upf fm s (-1)) ln it ∧ ∀ k : Nat, k < 32 → w2 k = w k) ∨ ((0 ≤ s ∧ s ≤ 3) ∧ fm s = -1 ∧ v2 = some (vI (-11)) ∧ ModelC w2 tx by0 ru fa fe fc lw br me mh ml mw mn 1 fm ln it ∧ ∀ k : Nat, k < 32 → w2 k = w k) ∨ (¬ (0 ≤ s ∧ s ≤ 3) ∧ v2 = some (vI (-2)) ∧ w2 = w)) := by
  have hC0 := hC
  obtain ⟨a0, nr, le, bs, bl, bp, mo, sf, sz, im, mv, rd, se, fr, tr, sp, so, lu, bt, sg, q32, q33, q34, q35, q36, q37, q38, q39, q40, q41, q42, hse0, hse1, q43, q44, q45, q46, q47, q48, q49, hsg, hsh⟩ := hC
  obtain ⟨hT, hO, hbm, hMm, hSh⟩ := hK
  have t9 := hT.1
  have n9 := numF_R (tx := tx) hT.1
  have f9 := hO.2.2.1.1
  have m9 := hMm.1
  refine Mt.of (L0 := [some (vR 32), some (vI s)]) rfl rfl rfl ?_
  refine gj_il1 dX9_lose_0 ?_
  refine gj_cS1r dX9_lose_1 mX9_74 hX9_isSheet (by omega) rfl (tX9_isSheet  (by omega) (by omega)) ?_
  refine gj_ifB_ne dX9_lose_4 (fun h4 => ?_) (fun h4 => ?_)
  · have s9 := hsh s (by omega) (by omega)
    have p9 := hSh s (by omega) (by omega)
    have s8 := s9.1
    have p8 : -1 ≤ fm s ∧ fm s ≤ 2 := by rcases p9 with z | z <;> omega
    have z9 : fm s ≠ -1 → sz s = ln s ∧ (0 ≤ ln s ∧ ln s ≤ 60) := fun c => ⟨(s9.2 c).1, (p9.resolve_left c).2.1⟩
    refine gj_al0 dX9_lose_10 ?_
    refine gj_get dX9_lose_11 fX9_7 q32 rfl rfl ?_
    refine gj_il1 dX9_lose_14 ?_
    refine gj_iald dX9_lose_15 q33 rfl rfl (by omega) ?_
    refine gj_if_ge dX9_lose_16 (by omega) (fun h16 => ?_) (fun h16 => ?_)
    · refine gj_al0 dX9_lose_25 ?_
      refine gj_get dX9_lose_26 fX9_7 q32 rfl rfl ?_
      refine gj_il1 dX9_lose_29 ?_
      refine gj_iconst dX9_lose_30 ?_
      refine gj_iast dX9_lose_31 q33 rfl rfl (by omega) ?_
      refine gj_al0 dX9_lose_32 ?_
      refine gj_get dX9_lose_33 fX9_13 (upw_o (by decide) q32) rfl rfl ?_
      refine gj_il1 dX9_lose_36 ?_
      refine gj_iald dX9_lose_37 (upw_o (by decide) q34) rfl rfl (by omega) ?_
      exact gj_iret dX9_lose_38 rfl (Or.inl ⟨by omega, by omega, by rw [(z9 (by omega)).1], ⟨⟨_, _, _, _, _, _, _, _, _, _, _, _, _, _, _, _, _, _, _, _, (upw_o (by decide) q32), upw_s, (upw_o (by decide) q34), (upw_o (by decide) q35), (upw_o (by decide) q36), (upw_o (by decide) q37), (upw_o (by decide) q38), (upw_o (by decide) q39), (upw_o (by decide) q40), (upw_o (by decide) q41), (upw_o (by decide) q42), hse0, hse1, (upw_o (by decide) q43), (upw_o (by decide) q44), (upw_o (by decide) q45), (upw_o (by decide) q46), (upw_o (by decide) q47), (upw_o (by decide) q48), (upw_o (by decide) q49), hsg, (shm_lose hsh)⟩, (fun k hk => upw_o (by omega) ((fun (k : Nat) (_ : k < 32) => rfl) k hk))⟩⟩)
    · refine gj_al0 dX9_lose_19 ?_
      refine gj_iconst dX9_lose_20 ?_
      refine gj_cV1w dX9_lose_21 mX9_80 hX9_finds q32 rfl (by omega) rfl (tX9_finds  (by omega) q32) (fun w21 P21 => ?_)
      obtain rfl := P21
      exact gj_iret dX9_lose_24 rfl (Or.inr (Or.inl ⟨by omega, by omega, rfl, ⟨⟨_, _, _, _, _, _, _, _, _, _, _, _, _, _, _, _, _, _, _, _, upw_s, (upw_o (by decide) q33), (upw_o (by decide) q34), (upw_o (by decide) q35), (upw_o (by decide) q36), (upw_o (by decide) q37), (upw_o (by decide) q38), (upw_o (by decide) q39), (upw_o (by decide) q40), (upw_o (by decide) q41), (upw_o (by decide) q42), hse0, hse1, (upw_o (by decide) q43), (upw_o (by decide) q44), (upw_o (by decide) q45), (upw_o (by decide) q46), (upw_o (by decide) q47), (upw_o (by decide) q48), (upw_o (by decide) q49), hsg, hsh⟩, (fun k hk => upw_o (by omega) ((fun (k : Nat) (_ : k < 32) => rfl) k hk))⟩⟩))
  · refine gj_bipush dX9_lose_7 rfl ?_
    exact gj_iret dX9_lose_9 rfl (Or.inr (Or.inr ⟨by omega, rfl, rfl⟩))
set_option maxRecDepth 20000 in
set_option maxHeartbeats 4000000 in
theorem tX9_lacks {l : Launch} {x : Cx} {d : Nat} {w : AW} {fi by0 a0 nr fc lw le bs bl bp mn mo : Int} {sf sz : Int → Int} {f n s f0 j : Int} (hd : 1 ≤ d) (q32 : w 32 = (oM fi by0 a0 nr fc lw le bs bl bp mn mo)) (q33 : w 33 = cI 4 sf) (q34 : w 34 = cI 4 sz) (hs : 0 ≤ s ∧ s ≤ 3) (hsf : sf s = f) (hf : -1 ≤ f ∧ f ≤ 2) (hz : f ≠ -1 → sz s = n ∧ (0 ≤ n ∧ n ≤ 60)) (hf0 : R32 f0) (hj : R32 j) : Mt l x iX9_lacks d 0 0 50 w [vR 32, vI s, vI f0, vI j] (fun v2 w2 => (wrA f n f0 j = 0 ∧ v2 = some (vI 0) ∧ w2 = w) ∨ (wrA f n f0 j ≠ 0 ∧ v2 = some (vI (-10 - wrA f n f0 j)) ∧ w2 = upw w 32 (oM (wrA f n f0 j) by0 a0 nr fc lw le bs bl bp mn mo))) := by
  refine Mt.of (L0 := [some (vR 32), some (vI s), some (vI f0), some (vI j)]) rfl rfl rfl ?_
  refine gj_al0 dX9_lacks_0 ?_
  refine gj_get dX9_lacks_1 fX9_7 q32 rfl rfl ?_
  refine gj_il1 dX9_lacks_4 ?_
  refine gj_iald dX9_lacks_5 q33 rfl rfl (by omega) ?_
  refine gj_if_ge dX9_lacks_6 (by omega) (fun h6 => ?_) (fun h6 => ?_)
  · have z9 := hz (by omega)
    refine gj_al0 dX9_lacks_15 ?_
    refine gj_get dX9_lacks_16 fX9_7 q32 rfl rfl ?_
    refine gj_il1 dX9_lacks_19 ?_
    refine gj_iald dX9_lacks_20 q33 rfl rfl (by omega) ?_
    refine gj_il2 dX9_lacks_21 ?_
    refine gj_icmp_eq dX9_lacks_22 (by omega) (fun h22 => ?_) (fun h22 => ?_)
    · refine gj_il3 dX9_lacks_31 ?_
      refine gj_i2l dX9_lacks_32 (by omega) ?_
      refine gj_lconst0 dX9_lacks_33 ?_
      refine gj_al0 dX9_lacks_34 ?_
      refine gj_get dX9_lacks_35 fX9_13 q32 rfl rfl ?_
      refine gj_il1 dX9_lacks_38 ?_
      refine gj_iald dX9_lacks_39 q34 rfl rfl (by omega) ?_
      rw [z9.1]
      refine gj_iconst dX9_lacks_40 ?_
      refine gj_isub dX9_lacks_41 ?_
      refine gj_i2l dX9_lacks_42 (by omega) ?_
      refine gj_cS3r dX9_lacks_43 mX9_65 hX9_in (by omega) rfl (tX9_in  (by omega) (by omega) (by omega) (by omega)) ?_
      refine gj_ifB_eq dX9_lacks_46 (fun h46 => ?_) (fun h46 => ?_)
      · refine gj_al0 dX9_lacks_53 ?_
        refine gj_iconst dX9_lacks_54 ?_
        refine gj_cV1w dX9_lacks_55 mX9_80 hX9_finds q32 rfl (by omega) rfl (tX9_finds  (by omega) q32) (fun w55 P55 => ?_)
        obtain rfl := P55
        exact gj_iret dX9_lacks_58 rfl (Or.inr (by rw [show wrA f n f0 j = 2 from by unfold wrA; rw [if_neg (by omega), if_neg (by omega), if_neg h46]]; exact ⟨by omega, rfl, rfl⟩))
      · refine gj_iconst dX9_lacks_49 ?_
        refine gj_goto dX9_lacks_50 ?_
        exact gj_iret dX9_lacks_58 rfl (Or.inl ⟨by unfold wrA; rw [if_neg (by omega), if_neg (by omega), if_pos h46], rfl, rfl⟩)
    · refine gj_al0 dX9_lacks_25 ?_
      refine gj_iconst dX9_lacks_26 ?_
      refine gj_cV1w dX9_lacks_27 mX9_80 hX9_finds q32 rfl (by omega) rfl (tX9_finds  (by omega) q32) (fun w27 P27 => ?_)
      obtain rfl := P27
      exact gj_iret dX9_lacks_30 rfl (Or.inr (by rw [show wrA f n f0 j = 3 from by unfold wrA; rw [if_neg (by omega), if_pos (by omega)]]; exact ⟨by omega, rfl, rfl⟩))
  · refine gj_al0 dX9_lacks_9 ?_
    refine gj_iconst dX9_lacks_10 ?_
    refine gj_cV1w dX9_lacks_11 mX9_80 hX9_finds q32 rfl (by omega) rfl (tX9_finds  (by omega) q32) (fun w11 P11 => ?_)
    obtain rfl := P11
    exact gj_iret dX9_lacks_14 rfl (Or.inr (by rw [show wrA f n f0 j = 1 from by unfold wrA; rw [if_pos (by omega)]]; exact ⟨by omega, rfl, rfl⟩))
set_option maxRecDepth 20000 in
set_option maxHeartbeats 4000000 in
theorem tX9_lay {l : Launch} {x : Cx} {d : Nat} {w : AW} {tx : Int → Int} {by0 : Int} {ru fa fe : Int → Int} {fc lw br me : Int} {mh ml mw : Int → Int} {mn fi : Int} {fm ln : Int → Int} {it : Int → Int → Int} {s f0 j v : Int} (hd : 2 ≤ d) (hC : ModelC w tx by0 ru fa fe fc lw br me mh ml mw mn fi fm ln it) (hK : ParOK tx by0 ru fa fe fc lw br me mh ml mw mn fi fm ln it) (hs : R32 s) (hf0 : R32 f0) (hj : R32 j) (hv : R32 v) : Mt l x iX9_lay d 0 0 50 w [vR 32, vI s, vI f0, vI j, vI v] (fun v2 w2 => (((0 ≤ s ∧ s ≤ 3) ∧ (0 ≤ f0 ∧ f0 ≤ 2)) ∧ wrA (fm s) (ln s) f0 j = 0 ∧ v2 = some (vI 1) ∧ ModelC w2 tx by0 ru fa fe fc lw br me mh ml mw mn fi fm ln (upi it s (upf (it s) j (cutF f0 v))) ∧ ∀ k : Nat, k < 32 → w2 k = w k) ∨ (((0 ≤ s ∧ s ≤ 3) ∧ (0 ≤ f0 ∧ f0 ≤ 2)) ∧ wrA (fm s) (ln s) f0 j ≠ 0 ∧ v2 = some (vI (-10 - wrA (fm s) (ln s) f0 j)) ∧ ModelC w2 tx by0 ru fa fe fc lw br me mh ml mw mn (wrA (fm s) (ln s) f0 j) fm ln it ∧ ∀ k : Nat, k < 32 → w2 k = w k) ∨ (¬ ((0 ≤ s ∧ s ≤ 3) ∧ (0 ≤ f0 ∧ f0 ≤ 2)) ∧ v2 = some (vI (-2)) ∧ w2 = w)) := by
  have hC0 := hC
  obtain ⟨a0, nr, le, bs, bl, bp, mo, sf, sz, im, mv, rd, se, fr, tr, sp, so, lu, bt, sg, q32, q33, q34, q35, q36, q37, q38, q39, q40, q41, q42, hse0, hse1, q43, q44, q45, q46, q47, q48, q49, hsg, hsh⟩ := hC
  obtain ⟨hT, hO, hbm, hMm, hSh⟩ := hK
  have t9 := hT.1
  have n9 := numF_R (tx := tx) hT.1
  have f9 := hO.2.2.1.1
  have m9 := hMm.1
  refine Mt.of (L0 := [some (vR 32), some (vI s), some (vI f0), some (vI j), some (vI v), none]) rfl rfl rfl ?_
  refine gj_il1 dX9_lay_0 ?_
  refine gj_cS1r dX9_lay_1 mX9_74 hX9_isSheet (by omega) rfl (tX9_isSheet  (by omega) (by omega)) ?_
  refine gj_ifB_eq dX9_lay_4 (fun h4 => ?_) (fun h4 => ?_)
  · refine gj_bipush dX9_lay_19 rfl ?_
    exact gj_iret dX9_lay_21 rfl (Or.inr (Or.inr ⟨by omega, rfl, rfl⟩))
  · refine gj_il2 dX9_lay_7 ?_
    refine gj_i2l dX9_lay_8 (by omega) ?_
    refine gj_lconst0 dX9_lay_9 ?_
    refine gj_ldc2 dX9_lay_10 kX9_78 ?_
    refine gj_cS3r dX9_lay_13 mX9_65 hX9_in (by omega) rfl (tX9_in  (by omega) (by omega) (by omega) (by omega)) ?_
    refine gj_ifB_ne dX9_lay_16 (fun h16 => ?_) (fun h16 => ?_)
    · have s9 := hsh s (by omega) (by omega)
      have p9 := hSh s (by omega) (by omega)
      have s8 := s9.1
      have p8 : -1 ≤ fm s ∧ fm s ≤ 2 := by rcases p9 with z | z <;> omega
      have z9 : fm s ≠ -1 → sz s = ln s ∧ (0 ≤ ln s ∧ ln s ≤ 60) := fun c => ⟨(s9.2 c).1, (p9.resolve_left c).2.1⟩
      have w9 := wrA_R (fm s) (ln s) f0 j
      refine gj_al0 dX9_lay_22 ?_
      refine gj_il1 dX9_lay_23 ?_
      refine gj_il2 dX9_lay_24 ?_
      refine gj_il3 dX9_lay_25 ?_
      refine gj_cV3x dX9_lay_26 mX9_84 hX9_lacks q32 rfl (by omega) rfl (tX9_lacks  (by omega) q32 q33 q34 (by omega) s9.1 (by omega) z9 (by omega) (by omega)) (fun v26 w26 P26 => ?_)
      rcases P26 with ⟨hc26, rfl, rfl⟩ | ⟨hc26, rfl, rfl⟩
      · simp only [Option.toList, List.cons_append, List.nil_append]
        refine gj_is5 dX9_lay_29 rfl rfl ?_
        refine gj_il5 dX9_lay_31 ?_
        refine gj_if_eq dX9_lay_33 (by omega) (fun _ => ?_) (fun h => absurd h (by omega))
        have wz := wrA_0 hc26
        have pz := z9 wz.1
        refine gj_al0 dX9_lay_39 ?_
        refine gj_get dX9_lay_40 fX9_16 q32 rfl rfl ?_
        refine gj_bipush dX9_lay_43 rfl ?_
        refine gj_il1 dX9_lay_45 ?_
        refine gj_imul dX9_lay_46 ?_
        refine gj_il3 dX9_lay_47 ?_
        refine gj_iadd dX9_lay_48 ?_
        refine gj_il2 dX9_lay_49 ?_
        refine gj_il4 dX9_lay_50 ?_
        refine gj_cS2r dX9_lay_52 mX9_88 hX9_cut (by omega) rfl (tX9_cut  (by omega) (by omega)) ?_
        refine gj_iast dX9_lay_55 q35 rfl rfl (by omega) ?_
        refine gj_iconst dX9_lay_56 ?_
        exact gj_iret dX9_lay_57 rfl (Or.inl ⟨⟨by omega, by omega⟩, hc26, rfl, ⟨⟨_, _, _, _, _, _, _, _, _, _, _, _, _, _, _, _, _, _, _, _, (upw_o (by decide) q32), (upw_o (by decide) q33), (upw_o (by decide) q34), upw_s, (upw_o (by decide) q36), (upw_o (by decide) q37), (upw_o (by decide) q38), (upw_o (by decide) q39), (upw_o (by decide) q40), (upw_o (by decide) q41), (upw_o (by decide) q42), hse0, hse1, (upw_o (by decide) q43), (upw_o (by decide) q44), (upw_o (by decide) q45), (upw_o (by decide) q46), (upw_o (by decide) q47), (upw_o (by decide) q48), (upw_o (by decide) q49), hsg, (shm_it hsh hSh (fun q i g0 g1 g2 g3 e => upf_o _ _ (by omega)) (fun c q g0 g1 => by
                    by_cases z : q = j
                    · rw [z, upf_s, upf_s]
                    · rw [upf_o _ _ (by omega), upf_o _ _ z]; exact (s9.2 c).2 q g0 g1))⟩, (fun k hk => upw_o (by omega) ((fun (k : Nat) (_ : k < 32) => rfl) k hk))⟩⟩)
      · simp only [Option.toList, List.cons_append, List.nil_append]
        refine gj_is5 dX9_lay_29 rfl rfl ?_
        refine gj_il5 dX9_lay_31 ?_
        refine gj_if_eq dX9_lay_33 (by omega) (fun h33 => ?_) (fun h33 => ?_)
        · omega
        · refine gj_il5 dX9_lay_36 ?_
          exact gj_iret dX9_lay_38 rfl (Or.inr (Or.inl ⟨⟨by omega, by omega⟩, hc26, rfl, ⟨⟨_, _, _, _, _, _, _, _, _, _, _, _, _, _, _, _, _, _, _, _, upw_s, (upw_o (by decide) q33), (upw_o (by decide) q34), (upw_o (by decide) q35), (upw_o (by decide) q36), (upw_o (by decide) q37), (upw_o (by decide) q38), (upw_o (by decide) q39), (upw_o (by decide) q40), (upw_o (by decide) q41), (upw_o (by decide) q42), hse0, hse1, (upw_o (by decide) q43), (upw_o (by decide) q44), (upw_o (by decide) q45), (upw_o (by decide) q46), (upw_o (by decide) q47), (upw_o (by decide) q48), (upw_o (by decide) q49), hsg, hsh⟩, (fun k hk => upw_o (by omega) ((fun (k : Nat) (_ : k < 32) => rfl) k hk))⟩⟩))
    · refine gj_bipush dX9_lay_19 rfl ?_
      exact gj_iret dX9_lay_21 rfl (Or.inr (Or.inr ⟨by omega, rfl, rfl⟩))
set_option maxRecDepth 20000 in
set_option maxHeartbeats 4000000 in
theorem tX9_get {l : Launch} {x : Cx} {d : Nat} {w : AW} {tx : Int → Int} {by0 : Int} {ru fa fe : Int → Int} {fc lw br me : Int} {mh ml mw : Int → Int} {mn fi : Int} {fm ln : Int → Int} {it : Int → Int → Int} {s f0 j : Int} (hd : 2 ≤ d) (hC : ModelC w tx by0 ru fa fe fc lw br me mh ml mw mn fi fm ln it) (hK : ParOK tx by0 ru fa fe fc lw br me mh ml mw mn fi fm ln it) (hs : R32 s) (hf0 : R32 f0) (hj : R32 j) : Mt l x iX9_get d 0 0 50 w [vR 32, vI s, vI f0, vI j] (fun v2 w2 => (((0 ≤ s ∧ s ≤ 3) ∧ (0 ≤ f0 ∧ f0 ≤ 2)) ∧ wrA (fm s) (ln s) f0 j = 0 ∧ v2 = some (vI (it s j)) ∧ w2 = w) ∨ (((0 ≤ s ∧ s ≤ 3) ∧ (0 ≤ f0 ∧ f0 ≤ 2)) ∧ wrA (fm s) (ln s) f0 j ≠ 0 ∧ v2 = some (vI (-2147483648)) ∧ ModelC w2 tx by0 ru fa fe fc lw br me mh ml mw mn (wrA (fm s) (ln s) f0 j) fm ln it ∧ ∀ k : Nat, k < 32 → w2 k = w k) ∨ (¬ ((0 ≤ s ∧ s ≤ 3) ∧ (0 ≤ f0 ∧ f0 ≤ 2)) ∧ v2 = some (vI (-2147483648)) ∧ w2 = w)) := by
  have hC0 := hC
  obtain ⟨a0, nr, le, bs, bl, bp, mo, sf, sz, im, mv, rd, se, fr, tr, sp, so, lu, bt, sg, q32, q33, q34, q35, q36, q37, q38, q39, q40, q41, q42, hse0, hse1, q43, q44, q45, q46, q47, q48, q49, hsg, hsh⟩ := hC
  obtain ⟨hT, hO, hbm, hMm, hSh⟩ := hK
  have t9 := hT.1
  have n9 := numF_R (tx := tx) hT.1
  have f9 := hO.2.2.1.1
  have m9 := hMm.1
  refine Mt.of (L0 := [some (vR 32), some (vI s), some (vI f0), some (vI j)]) rfl rfl rfl ?_
  refine gj_il1 dX9_get_0 ?_
  refine gj_cS1r dX9_get_1 mX9_74 hX9_isSheet (by omega) rfl (tX9_isSheet  (by omega) (by omega)) ?_
  refine gj_ifB_eq dX9_get_4 (fun h4 => ?_) (fun h4 => ?_)
  · refine gj_ldc dX9_get_29 kX9_92 ?_
    exact gj_iret dX9_get_31 rfl (Or.inr (Or.inr ⟨by omega, rfl, rfl⟩))
  · refine gj_il2 dX9_get_7 ?_
    refine gj_i2l dX9_get_8 (by omega) ?_
    refine gj_lconst0 dX9_get_9 ?_
    refine gj_ldc2 dX9_get_10 kX9_78 ?_
    refine gj_cS3r dX9_get_13 mX9_65 hX9_in (by omega) rfl (tX9_in  (by omega) (by omega) (by omega) (by omega)) ?_
    refine gj_ifB_eq dX9_get_16 (fun h16 => ?_) (fun h16 => ?_)
    · refine gj_ldc dX9_get_29 kX9_92 ?_
      exact gj_iret dX9_get_31 rfl (Or.inr (Or.inr ⟨by omega, rfl, rfl⟩))
    · have s9 := hsh s (by omega) (by omega)
      have p9 := hSh s (by omega) (by omega)
      have s8 := s9.1
      have p8 : -1 ≤ fm s ∧ fm s ≤ 2 := by rcases p9 with z | z <;> omega
      have z9 : fm s ≠ -1 → sz s = ln s ∧ (0 ≤ ln s ∧ ln s ≤ 60) := fun c => ⟨(s9.2 c).1, (p9.resolve_left c).2.1⟩
      have w9 := wrA_R (fm s) (ln s) f0 j
      refine gj_al0 dX9_get_19 ?_
      refine gj_il1 dX9_get_20 ?_
      refine gj_il2 dX9_get_21 ?_
      refine gj_il3 dX9_get_22 ?_
      refine gj_cV3x dX9_get_23 mX9_84 hX9_lacks q32 rfl (by omega) rfl (tX9_lacks  (by omega) q32 q33 q34 (by omega) s9.1 (by omega) z9 (by omega) (by omega)) (fun v23 w23 P23 => ?_)
      rcases P23 with ⟨hc23, rfl, rfl⟩ | ⟨hc23, rfl, rfl⟩
      · simp only [Option.toList, List.cons_append, List.nil_append]
        refine gj_if_eq dX9_get_26 (by omega) (fun _ => ?_) (fun h => absurd h (by omega))
        have wz := wrA_0 hc23
        have pz := z9 wz.1
        refine gj_al0 dX9_get_32 ?_
        refine gj_get dX9_get_33 fX9_16 q32 rfl rfl ?_
        refine gj_bipush dX9_get_36 rfl ?_
        refine gj_il1 dX9_get_38 ?_
        refine gj_imul dX9_get_39 ?_
        refine gj_il3 dX9_get_40 ?_
        refine gj_iadd dX9_get_41 ?_
        refine gj_iald dX9_get_42 q35 rfl rfl (by omega) ?_
        exact gj_iret dX9_get_43 rfl (Or.inl ⟨⟨by omega, by omega⟩, hc23, by rw [(s9.2 wz.1).2 j (by omega) (by omega)], rfl⟩)
      · simp only [Option.toList, List.cons_append, List.nil_append]
        refine gj_if_eq dX9_get_26 (by omega) (fun h26 => ?_) (fun h26 => ?_)
        · omega
        · refine gj_ldc dX9_get_29 kX9_92 ?_
          exact gj_iret dX9_get_31 rfl (Or.inr (Or.inl ⟨⟨by omega, by omega⟩, hc23, rfl, ⟨⟨_, _, _, _, _, _, _, _, _, _, _, _, _, _, _, _, _, _, _, _, upw_s, (upw_o (by decide) q33), (upw_o (by decide) q34), (upw_o (by decide) q35), (upw_o (by decide) q36), (upw_o (by decide) q37), (upw_o (by decide) q38), (upw_o (by decide) q39), (upw_o (by decide) q40), (upw_o (by decide) q41), (upw_o (by decide) q42), hse0, hse1, (upw_o (by decide) q43), (upw_o (by decide) q44), (upw_o (by decide) q45), (upw_o (by decide) q46), (upw_o (by decide) q47), (upw_o (by decide) q48), (upw_o (by decide) q49), hsg, hsh⟩, (fun k hk => upw_o (by omega) ((fun (k : Nat) (_ : k < 32) => rfl) k hk))⟩⟩))
