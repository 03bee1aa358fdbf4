/-! contracts: the model's sheets: read, write, copy -/
theorem rdB_f {g : Int → Int} {k : Int} (h : 0 ≤ g k ∧ g k ≤ 23) : ¬ rdB g k = true := by
  unfold rdB
  rw [decide_eq_true h]
  decide
theorem rdB_t {g : Int → Int} {k : Int} (h : ¬ (0 ≤ g k ∧ g k ≤ 23)) : rdB g k = true := by
  unfold rdB
  rw [decide_eq_false h]
  rfl
set_option maxRecDepth 20000 in
set_option maxHeartbeats 4000000 in
theorem tBellM {l : Launch} {x : Cx} {d : Nat} {w : AW} {fi by0 a0 nr fc lw le bs bl bp mn mo : Int} {ru : Int → Int} {p k0 v : Int} (hd : 2 ≤ d) (q32 : w 32 = (oM fi by0 a0 nr fc lw le bs bl bp mn mo)) (q40 : w 40 = cI 8 ru) (hp : R32 p) (hk0 : R32 k0) (hv : R32 v) : Mt l x iX9_bell d 0 0 50 w [vR 32, vI p, vI k0, vI v] (fun v2 w2 => (((0 ≤ p ∧ p ≤ 3) ∧ (0 ≤ k0 ∧ k0 ≤ 1) ∧ (0 ≤ v ∧ v ≤ 23)) ∧ v2 = some (vI (ru (2 * p + k0))) ∧ w2 = upw w 40 (cI 8 (upf ru (2 * p + k0) v))) ∨ (¬ ((0 ≤ p ∧ p ≤ 3) ∧ (0 ≤ k0 ∧ k0 ≤ 1) ∧ (0 ≤ v ∧ v ≤ 23)) ∧ v2 = some (vI (-2)) ∧ w2 = w)) := by
  refine Mt.of (L0 := [some (vR 32), some (vI p), some (vI k0), some (vI v), none]) rfl rfl rfl ?_
  refine gj_il1 dX9_bell_0 ?_
  refine gj_cS1r dX9_bell_1 mX9_132 hX9_isParish (by omega) rfl (tX9_isParish  (by omega) (by omega)) ?_
  refine gj_ifB_eq dX9_bell_4 (fun h4 => ?_) (fun h4 => ?_)
  · refine gj_bipush dX9_bell_26 rfl ?_
    exact gj_iret dX9_bell_28 rfl (Or.inr ⟨by omega, rfl, rfl⟩)
  · refine gj_il2 dX9_bell_7 ?_
    refine gj_cS1r dX9_bell_8 mX9_135 hX9_isTwo (by omega) rfl (tX9_isTwo  (by omega) (by omega)) ?_
    refine gj_ifB_eq dX9_bell_11 (fun h11 => ?_) (fun h11 => ?_)
    · refine gj_bipush dX9_bell_26 rfl ?_
      exact gj_iret dX9_bell_28 rfl (Or.inr ⟨by omega, rfl, rfl⟩)
    · refine gj_il3 dX9_bell_14 ?_
      refine gj_i2l dX9_bell_15 (by omega) ?_
      refine gj_lconst0 dX9_bell_16 ?_
      refine gj_ldc2 dX9_bell_17 kX9_138 ?_
      refine gj_cS3r dX9_bell_20 mX9_65 hX9_in (by omega) rfl (tX9_in  (by omega) (by omega) (by omega) (by omega)) ?_
      refine gj_ifB_ne dX9_bell_23 (fun h23 => ?_) (fun h23 => ?_)
      · refine gj_al0 dX9_bell_29 ?_
        refine gj_get dX9_bell_30 fX9_31 q32 rfl rfl ?_
        refine gj_iconst dX9_bell_33 ?_
        refine gj_il1 dX9_bell_34 ?_
        refine gj_imul dX9_bell_35 ?_
        refine gj_il2 dX9_bell_36 ?_
        refine gj_iadd dX9_bell_37 ?_
        refine gj_iald dX9_bell_38 q40 rfl rfl (by omega) ?_
        refine gj_is4 dX9_bell_39 rfl rfl ?_
        refine gj_al0 dX9_bell_41 ?_
        refine gj_get dX9_bell_42 fX9_31 q32 rfl rfl ?_
        refine gj_iconst dX9_bell_45 ?_
        refine gj_il1 dX9_bell_46 ?_
        refine gj_imul dX9_bell_47 ?_
        refine gj_il2 dX9_bell_48 ?_
        refine gj_iadd dX9_bell_49 ?_
        refine gj_il3 dX9_bell_50 ?_
        refine gj_iast dX9_bell_51 q40 rfl rfl (by omega) ?_
        refine gj_il4 dX9_bell_52 ?_
        exact gj_iret dX9_bell_54 rfl (Or.inl ⟨by omega, rfl, rfl⟩)
      · refine gj_bipush dX9_bell_26 rfl ?_
        exact gj_iret dX9_bell_28 rfl (Or.inr ⟨by omega, rfl, rfl⟩)
set_option maxRecDepth 20000 in
set_option maxHeartbeats 4000000 in
theorem tX9_read {l : Launch} {x : Cx} {d : Nat} {w : AW} {tx : Int → Int} {by0 : Int} {ru fa fe : Int → Int} {fc lw br me : Int} {mh ml mw : Int → Int} {mn fi : Int} {fm ln : Int → Int} {it : Int → Int → Int} {s : Int} (hd : 3 ≤ d) (hC : ModelC w tx by0 ru fa fe fc lw br me mh ml mw mn fi fm ln it) (hK : ParOK tx by0 ru fa fe fc lw br me mh ml mw mn fi fm ln it) (hs : R32 s) : Mt l x iX9_read d 0 0 50 w [vR 32, vI s] (fun v2 w2 => ((0 ≤ s ∧ s ≤ 3) ∧ fm s ≠ -1 ∧ v2 = some (vI (rdK (it s) (min (ln s) 8))) ∧ ModelC w2 tx by0 (ovF ru (it s) (rdK (it s) (min (ln s) 8))) fa fe fc lw br me mh ml mw mn fi fm ln it ∧ ∀ k : Nat, k < 32 → w2 k = w k) ∨ ((0 ≤ s ∧ s ≤ 3) ∧ fm s = -1 ∧ v2 = some (vI (-11)) ∧ ModelC w2 tx by0 ru fa fe fc lw br me mh ml mw mn 1 fm ln it ∧ ∀ k : Nat, k < 32 → w2 k = w k) ∨ (¬ (0 ≤ s ∧ s ≤ 3) ∧ v2 = some (vI (-2)) ∧ w2 = w)) := by
  have hC0 := hC
  obtain ⟨a0, nr, le, bs, bl, bp, mo, sf, sz, im, mv, rd, se, fr, tr, sp, so, lu, bt, sg, q32, q33, q34, q35, q36, q37, q38, q39, q40, q41, q42, hse0, hse1, q43, q44, q45, q46, q47, q48, q49, hsg, hsh⟩ := hC
  obtain ⟨hT, hO, hbm, hMm, hSh⟩ := hK
  have t9 := hT.1
  have n9 := numF_R (tx := tx) hT.1
  have f9 := hO.2.2.1.1
  have m9 := hMm.1
  refine Mt.of (L0 := [some (vR 32), some (vI s), none]) rfl rfl rfl ?_
  refine gj_il1 dX9_read_0 ?_
  refine gj_cS1r dX9_read_1 mX9_74 hX9_isSheet (by omega) rfl (tX9_isSheet  (by omega) (by omega)) ?_
  refine gj_ifB_ne dX9_read_4 (fun h4 => ?_) (fun h4 => ?_)
  · have s9 := hsh s (by omega) (by omega)
    have p9 := hSh s (by omega) (by omega)
    have s8 := s9.1
    have p8 : -1 ≤ fm s ∧ fm s ≤ 2 := by rcases p9 with z | z <;> omega
    have z9 : fm s ≠ -1 → sz s = ln s ∧ (0 ≤ ln s ∧ ln s ≤ 60) := fun c => ⟨(s9.2 c).1, (p9.resolve_left c).2.1⟩
    refine gj_al0 dX9_read_10 ?_
    refine gj_get dX9_read_11 fX9_7 q32 rfl rfl ?_
    refine gj_il1 dX9_read_14 ?_
    refine gj_iald dX9_read_15 q33 rfl rfl (by omega) ?_
    refine gj_if_ge dX9_read_16 (by omega) (fun h16 => ?_) (fun h16 => ?_)
    · have hx : fm s ≠ -1 := by omega
      have zz := z9 hx
      refine gj_iconst dX9_read_25 ?_
      refine gj_is2 dX9_read_26 rfl rfl ?_
      refine gj_eq rfl rfl (show w = upw w 40 (cI 8 (ovF ru (fun q => im (60 * s + q)) 0)) from (by rw [ovF_0, upw_same q40])) ?_
      have loop27 : ∀ (k : Nat), ∀ (c : Int), (0 ≤ c ∧ c ≤ min (ln s) 8) → (fstZ (rdB (fun q => im (60 * s + q))) c (min (ln s) 8) = fstZ (rdB (fun q => im (60 * s + q))) 0 (min (ln s) 8)) → (∀ j : Int, 0 ≤ j → j < c → 0 ≤ (fun q => im (60 * s + q)) j ∧ (fun q => im (60 * s + q)) j ≤ 23) → (min (ln s) 8 - c).toNat < k → Gj l x iX9_read d 0 0 50 (fun v2 w2 => ((0 ≤ s ∧ s ≤ 3) ∧ fm s ≠ -1 ∧ v2 = some (vI (rdK (it s) (min (ln s) 8))) ∧ ModelC w2 tx by0 (ovF ru (it s) (rdK (it s) (min (ln s) 8))) fa fe fc lw br me mh ml mw mn fi fm ln it ∧ ∀ k : Nat, k < 32 → w2 k = w k) ∨ ((0 ≤ s ∧ s ≤ 3) ∧ fm s = -1 ∧ v2 = some (vI (-11)) ∧ ModelC w2 tx by0 ru fa fe fc lw br me mh ml mw mn 1 fm ln it ∧ ∀ k : Nat, k < 32 → w2 k = w k) ∨ (¬ (0 ≤ s ∧ s ≤ 3) ∧ v2 = some (vI (-2)) ∧ w2 = w)) 0 0 50 (upw w 40 (cI 8 (ovF ru (fun q => im (60 * s + q)) c))) 27 [some (vR 32), some (vI s), some (vI c)] [] := by
        intro k
        induction k with
        | zero => intro _ _ _ _ hm; exact absurd hm (Nat.not_lt_zero _)
        | succ k ih27 =>
          intro c  hi ha hg hm27
          refine gj_il2 dX9_read_27 ?_
          refine gj_al0 dX9_read_28 ?_
          refine gj_get dX9_read_29 fX9_13 (upw_o (by decide) q32) rfl rfl ?_
          refine gj_il1 dX9_read_32 ?_
          refine gj_iald dX9_read_33 (upw_o (by decide) q34) rfl rfl (by omega) ?_
          rw [zz.1]
          refine gj_bipush dX9_read_34 rfl ?_
          refine gj_cS2r dX9_read_36 mX9_140 hX9_lesser (by omega) rfl (tX9_lesser  (by omega) (by omega) (by omega)) ?_
          refine gj_icmp_ge dX9_read_39 (by omega) (fun h39 => ?_) (fun h39 => ?_)
          · refine gj_il2 dX9_read_72 ?_
            exact gj_iret dX9_read_73 rfl (Or.inl ⟨by omega, hx, by rw [(show rdK (it s) (min (ln s) 8) = c from by rw [← rdB_congr (g := (fun q => im (60 * s + q))) (fun j g8 g9 => (s9.2 hx).2 j g8 (by omega))]; unfold rdK; rw [← ha, fstZ_end (by omega), if_pos rfl, show min (ln s) 8 = c by omega])], by rw [(show rdK (it s) (min (ln s) 8) = c from by rw [← rdB_congr (g := (fun q => im (60 * s + q))) (fun j g8 g9 => (s9.2 hx).2 j g8 (by omega))]; unfold rdK; rw [← ha, fstZ_end (by omega), if_pos rfl, show min (ln s) 8 = c by omega]), ovF_congr (g := it s) (g2 := (fun q => im (60 * s + q))) (fun j g8 g9 => ((s9.2 hx).2 j g8 (by omega)).symm)]; exact ⟨⟨_, _, _, _, _, _, _, _, _, _, _, _, _, _, _, _, _, _, _, _, (upw_o (by decide) q32), (upw_o (by decide) q33), (upw_o (by decide) q34), (upw_o (by decide) q35), (upw_o (by decide) q36), (upw_o (by decide) q37), (upw_o (by decide) q38), (upw_o (by decide) q39), upw_s, (upw_o (by decide) q41), (upw_o (by decide) q42), hse0, hse1, (upw_o (by decide) q43), (upw_o (by decide) q44), (upw_o (by decide) q45), (upw_o (by decide) q46), (upw_o (by decide) q47), (upw_o (by decide) q48), (upw_o (by decide) q49), hsg, hsh⟩, (fun (k : Nat) (hk : k < 32) => (upw_o (by omega) rfl : upw w 40 _ k = w k))⟩⟩)
          · refine gj_al0 dX9_read_42 ?_
            refine gj_il2 dX9_read_43 ?_
            refine gj_iconst dX9_read_44 ?_
            refine gj_idiv dX9_read_45 (by omega) (by omega) ?_
            refine gj_il2 dX9_read_46 ?_
            refine gj_iconst dX9_read_47 ?_
            refine gj_irem dX9_read_48 (by omega) (by omega) ?_
            refine gj_al0 dX9_read_49 ?_
            refine gj_get dX9_read_50 fX9_16 (upw_o (by decide) q32) rfl rfl ?_
            refine gj_bipush dX9_read_53 rfl ?_
            refine gj_il1 dX9_read_55 ?_
            refine gj_imul dX9_read_56 ?_
            refine gj_il2 dX9_read_57 ?_
            refine gj_iadd dX9_read_58 ?_
            refine gj_iald dX9_read_59 (upw_o (by decide) q35) rfl rfl (by omega) ?_
            have v9 : R32 (im (60 * s + c)) := by rw [(s9.2 hx).2 c hi.1 (by omega)]; exact (p9.resolve_left hx).2.2 c hi.1 (by omega)
            have r9 := ru_ov hO.2.1 hg (2 * (c / 2) + c % 2) (by omega) (by omega)
            refine gj_cV3x dX9_read_60 mX9_143 hX9_bell (upw_o (by decide) q32) rfl (by omega) rfl (tBellM  (by omega) (upw_o (by decide) q32) upw_s (by omega) (by omega) (by omega)) (fun v60 w60 P60 => ?_)
            rcases P60 with ⟨hc60, rfl, rfl⟩ | ⟨hc60, rfl, rfl⟩
            · simp only [Option.toList, List.cons_append, List.nil_append]
              refine gj_if_lt dX9_read_63 (by omega) (fun h63 => ?_) (fun h63 => ?_)
              · omega
              · refine gj_ii2 dX9_read_66 rfl rfl ?_
                refine gj_goto dX9_read_69 ?_
                rw [upw_upw, show 2 * (c / 2) + c % 2 = c by omega, ovF_s _ _ hi.1 rfl]
                exact ih27 _ (by omega) (by rw [← ha, ← fstZ_no (by omega) (rdB_f (g := (fun q => im (60 * s + q))) (k := c) hc60.2.2)]) (fun j g8 g9 => by by_cases e : j = c; (rw [e]; exact hc60.2.2); (exact hg j g8 (by omega))) (by omega)
            · simp only [Option.toList, List.cons_append, List.nil_append]
              refine gj_if_lt dX9_read_63 (by omega) (fun _ => ?_) (fun h => absurd h (by omega))
              refine gj_il2 dX9_read_72 ?_
              exact gj_iret dX9_read_73 rfl (Or.inl ⟨by omega, hx, by rw [(show rdK (it s) (min (ln s) 8) = c from by rw [← rdB_congr (g := (fun q => im (60 * s + q))) (fun j g8 g9 => (s9.2 hx).2 j g8 (by omega))]; unfold rdK; rw [← ha, fstZ_yes (by omega) (rdB_t (g := (fun q => im (60 * s + q))) (k := c) (fun z => hc60 ⟨by omega, by omega, z⟩)), if_neg (by omega)])], by rw [(show rdK (it s) (min (ln s) 8) = c from by rw [← rdB_congr (g := (fun q => im (60 * s + q))) (fun j g8 g9 => (s9.2 hx).2 j g8 (by omega))]; unfold rdK; rw [← ha, fstZ_yes (by omega) (rdB_t (g := (fun q => im (60 * s + q))) (k := c) (fun z => hc60 ⟨by omega, by omega, z⟩)), if_neg (by omega)]), ovF_congr (g := it s) (g2 := (fun q => im (60 * s + q))) (fun j g8 g9 => ((s9.2 hx).2 j g8 (by omega)).symm)]; exact ⟨⟨_, _, _, _, _, _, _, _, _, _, _, _, _, _, _, _, _, _, _, _, (upw_o (by decide) q32), (upw_o (by decide) q33), (upw_o (by decide) q34), (upw_o (by decide) q35), (upw_o (by decide) q36), (upw_o (by decide) q37), (upw_o (by decide) q38), (upw_o (by decide) q39), upw_s, (upw_o (by decide) q41), (upw_o (by decide) q42), hse0, hse1, (upw_o (by decide) q43), (upw_o (by decide) q44), (upw_o (by decide) q45), (upw_o (by decide) q46), (upw_o (by decide) q47), (upw_o (by decide) q48), (upw_o (by decide) q49), hsg, hsh⟩, (fun (k : Nat) (hk : k < 32) => (upw_o (by omega) rfl : upw w 40 _ k = w k))⟩⟩)
      exact loop27 _ 0 (by omega) rfl (fun j g8 g9 => absurd g9 (by omega)) (Nat.lt_succ_self _)
    · refine gj_al0 dX9_read_19 ?_
      refine gj_iconst dX9_read_20 ?_
      refine gj_cV1w dX9_read_21 mX9_80 hX9_finds q32 rfl (by omega) rfl (tX9_finds  (by omega) q32) (fun w21 P21 => ?_)
      obtain rfl := P21
      exact gj_iret dX9_read_24 rfl (Or.inr (Or.inl ⟨by omega, by omega, rfl, ⟨⟨_, _, _, _, _, _, _, _, _, _, _, _, _, _, _, _, _, _, _, _, upw_s, (upw_o (by decide) q33), (upw_o (by decide) q34), (upw_o (by decide) q35), (upw_o (by decide) q36), (upw_o (by decide) q37), (upw_o (by decide) q38), (upw_o (by decide) q39), (upw_o (by decide) q40), (upw_o (by decide) q41), (upw_o (by decide) q42), hse0, hse1, (upw_o (by decide) q43), (upw_o (by decide) q44), (upw_o (by decide) q45), (upw_o (by decide) q46), (upw_o (by decide) q47), (upw_o (by decide) q48), (upw_o (by decide) q49), hsg, hsh⟩, (fun k hk => upw_o (by omega) ((fun (k : Nat) (_ : k < 32) => rfl) k hk))⟩⟩))
  · refine gj_bipush dX9_read_7 rfl ?_
    exact gj_iret dX9_read_9 rfl (Or.inr (Or.inr ⟨by omega, rfl, rfl⟩))
set_option maxRecDepth 20000 in
set_option maxHeartbeats 4000000 in
theorem tX9_write {l : Launch} {x : Cx} {d : Nat} {w : AW} {tx : Int → Int} {by0 : Int} {ru fa fe : Int → Int} {fc lw br me : Int} {mh ml mw : Int → Int} {mn fi : Int} {fm ln : Int → Int} {it : Int → Int → Int} {l0 h s : Int} (hd : 3 ≤ d) (hC : ModelC w tx by0 ru fa fe fc lw br me mh ml mw mn fi fm ln it) (hK : ParOK tx by0 ru fa fe fc lw br me mh ml mw mn fi fm ln it) (hl0 : R32 l0) (hh : R32 h) (hs : R32 s) : Mt l x iX9_write d 0 0 50 w [vR 32, vI l0, vI h, vI s] (fun v2 w2 => (((0 ≤ l0 ∧ l0 ≤ 7) ∧ (0 ≤ h ∧ h ≤ 671) ∧ (0 ≤ s ∧ s ≤ 3)) ∧ fm s ≠ -1 ∧ v2 = some (vI (min (ln s) (672 - h))) ∧ ModelC w2 tx by0 ru fa fe fc lw br me mh ml mw mn fi fm ln (upi it s (ovF (it s) (fun k => b2i ((warB lw fa ru fe fc) (h + k) l0 = true)) (min (ln s) (672 - h)))) ∧ ∀ k : Nat, k < 32 → w2 k = w k) ∨ (((0 ≤ l0 ∧ l0 ≤ 7) ∧ (0 ≤ h ∧ h ≤ 671) ∧ (0 ≤ s ∧ s ≤ 3)) ∧ fm s = -1 ∧ v2 = some (vI (-11)) ∧ ModelC w2 tx by0 ru fa fe fc lw br me mh ml mw mn 1 fm ln it ∧ ∀ k : Nat, k < 32 → w2 k = w k) ∨ (¬ ((0 ≤ l0 ∧ l0 ≤ 7) ∧ (0 ≤ h ∧ h ≤ 671) ∧ (0 ≤ s ∧ s ≤ 3)) ∧ v2 = some (vI (-2)) ∧ w2 = w)) := by
  have hC0 := hC
  obtain ⟨a0, nr, le, bs, bl, bp, mo, sf, sz, im, mv, rd, se, fr, tr, sp, so, lu, bt, sg, q32, q33, q34, q35, q36, q37, q38, q39, q40, q41, q42, hse0, hse1, q43, q44, q45, q46, q47, q48, q49, hsg, hsh⟩ := hC
  obtain ⟨hT, hO, hbm, hMm, hSh⟩ := hK
  have t9 := hT.1
  have n9 := numF_R (tx := tx) hT.1
  have f9 := hO.2.2.1.1
  have m9 := hMm.1
  refine Mt.of (L0 := [some (vR 32), some (vI l0), some (vI h), some (vI s), none, none]) rfl rfl rfl ?_
  refine gj_il1 dX9_write_0 ?_
  refine gj_cS1r dX9_write_1 mX9_127 hX9_isLand (by omega) rfl (tX9_isLand  (by omega) (by omega)) ?_
  refine gj_ifB_eq dX9_write_4 (fun h4 => ?_) (fun h4 => ?_)
  · refine gj_bipush dX9_write_21 rfl ?_
    exact gj_iret dX9_write_23 rfl (Or.inr (Or.inr ⟨by omega, rfl, rfl⟩))
  · refine gj_il2 dX9_write_7 ?_
    refine gj_cS1r dX9_write_8 mX9_166 hX9_isHour (by omega) rfl (tX9_isHour  (by omega) (by omega)) ?_
    refine gj_ifB_eq dX9_write_11 (fun h11 => ?_) (fun h11 => ?_)
    · refine gj_bipush dX9_write_21 rfl ?_
      exact gj_iret dX9_write_23 rfl (Or.inr (Or.inr ⟨by omega, rfl, rfl⟩))
    · refine gj_il3 dX9_write_14 ?_
      refine gj_cS1r dX9_write_15 mX9_74 hX9_isSheet (by omega) rfl (tX9_isSheet  (by omega) (by omega)) ?_
      refine gj_ifB_ne dX9_write_18 (fun h18 => ?_) (fun h18 => ?_)
      · have s9 := hsh s (by omega) (by omega)
        have p9 := hSh s (by omega) (by omega)
        have s8 := s9.1
        have p8 : -1 ≤ fm s ∧ fm s ≤ 2 := by rcases p9 with z | z <;> omega
        have z9 : fm s ≠ -1 → sz s = ln s ∧ (0 ≤ ln s ∧ ln s ≤ 60) := fun c => ⟨(s9.2 c).1, (p9.resolve_left c).2.1⟩
        refine gj_al0 dX9_write_24 ?_
        refine gj_get dX9_write_25 fX9_7 q32 rfl rfl ?_
        refine gj_il3 dX9_write_28 ?_
        refine gj_iald dX9_write_29 q33 rfl rfl (by omega) ?_
        refine gj_if_ge dX9_write_30 (by omega) (fun h30 => ?_) (fun h30 => ?_)
        · have hx : fm s ≠ -1 := by omega
          have zz := z9 hx
          refine gj_al0 dX9_write_39 ?_
          refine gj_get dX9_write_40 fX9_13 q32 rfl rfl ?_
          refine gj_il3 dX9_write_43 ?_
          refine gj_iald dX9_write_44 q34 rfl rfl (by omega) ?_
          rw [zz.1]
          refine gj_sipush dX9_write_45 rfl ?_
          refine gj_il2 dX9_write_48 ?_
          refine gj_isub dX9_write_49 ?_
          refine gj_cS2r dX9_write_50 mX9_140 hX9_lesser (by omega) rfl (tX9_lesser  (by omega) (by omega) (by omega)) ?_
          refine gj_is4 dX9_write_53 rfl rfl ?_
          refine gj_iconst dX9_write_55 ?_
          refine gj_is5 dX9_write_56 rfl rfl ?_
          refine gj_eq rfl rfl (show w = upw w 35 (cI 240 (blkF im (60 * s) 0 (fun k => b2i ((warB lw fa ru fe fc) (h + k) l0 = true)))) from (by rw [blk_0, upw_same q35])) ?_
          have loop58 : ∀ (k : Nat), ∀ (c : Int), (0 ≤ c ∧ c ≤ min (ln s) (672 - h)) → (min (ln s) (672 - h) - c).toNat < k → Gj l x iX9_write d 0 0 50 (fun v2 w2 => (((0 ≤ l0 ∧ l0 ≤ 7) ∧ (0 ≤ h ∧ h ≤ 671) ∧ (0 ≤ s ∧ s ≤ 3)) ∧ fm s ≠ -1 ∧ v2 = some (vI (min (ln s) (672 - h))) ∧ ModelC w2 tx by0 ru fa fe fc lw br me mh ml mw mn fi fm ln (upi it s (ovF (it s) (fun k => b2i ((warB lw fa ru fe fc) (h + k) l0 = true)) (min (ln s) (672 - h)))) ∧ ∀ k : Nat, k < 32 → w2 k = w k) ∨ (((0 ≤ l0 ∧ l0 ≤ 7) ∧ (0 ≤ h ∧ h ≤ 671) ∧ (0 ≤ s ∧ s ≤ 3)) ∧ fm s = -1 ∧ v2 = some (vI (-11)) ∧ ModelC w2 tx by0 ru fa fe fc lw br me mh ml mw mn 1 fm ln it ∧ ∀ k : Nat, k < 32 → w2 k = w k) ∨ (¬ ((0 ≤ l0 ∧ l0 ≤ 7) ∧ (0 ≤ h ∧ h ≤ 671) ∧ (0 ≤ s ∧ s ≤ 3)) ∧ v2 = some (vI (-2)) ∧ w2 = w)) 0 0 50 (upw w 35 (cI 240 (blkF im (60 * s) c (fun k => b2i ((warB lw fa ru fe fc) (h + k) l0 = true))))) 58 [some (vR 32), some (vI l0), some (vI h), some (vI s), some (vI (min (ln s) (672 - h))), some (vI c)] [] := by
            intro k
            induction k with
            | zero => intro _ _ hm; exact absurd hm (Nat.not_lt_zero _)
            | succ k ih58 =>
              intro c  hi hm58
              refine gj_il5 dX9_write_58 ?_
              refine gj_il4 dX9_write_60 ?_
              refine gj_icmp_ge dX9_write_62 (by omega) (fun h62 => ?_) (fun h62 => ?_)
              · refine gj_il4 dX9_write_100 ?_
                exact gj_iret dX9_write_102 rfl (Or.inl ⟨⟨by omega, by omega, by omega⟩, hx, rfl, ⟨⟨_, _, _, _, _, _, _, _, _, _, _, _, _, _, _, _, _, _, _, _, (upw_o (by decide) q32), (upw_o (by decide) q33), (upw_o (by decide) q34), upw_s, (upw_o (by decide) q36), (upw_o (by decide) q37), (upw_o (by decide) q38), (upw_o (by decide) q39), (upw_o (by decide) q40), (upw_o (by decide) q41), (upw_o (by decide) q42), hse0, hse1, (upw_o (by decide) q43), (upw_o (by decide) q44), (upw_o (by decide) q45), (upw_o (by decide) q46), (upw_o (by decide) q47), (upw_o (by decide) q48), (upw_o (by decide) q49), hsg, (shm_it hsh hSh (fun q i g0 g1 g2 g3 e => by unfold blkF; rw [if_neg (by omega)]) (fun _ j g0 g1 => by
                            rw [show min (ln s) (672 - h) = c by omega]
                            unfold blkF ovF
                            by_cases z : 0 ≤ j ∧ j < c
                            · rw [if_pos (by omega), if_pos z, show 60 * s + j - 60 * s = j by omega]
                            · rw [if_neg (by omega), if_neg z]; exact (s9.2 hx).2 j g0 g1))⟩, (fun (k : Nat) (hk : k < 32) => (upw_o (by omega) rfl : upw w 35 _ k = w k))⟩⟩)
              · refine gj_al0 dX9_write_65 ?_
                refine gj_get dX9_write_66 fX9_16 (upw_o (by decide) q32) rfl rfl ?_
                refine gj_bipush dX9_write_69 rfl ?_
                refine gj_il3 dX9_write_71 ?_
                refine gj_imul dX9_write_72 ?_
                refine gj_il5 dX9_write_73 ?_
                refine gj_iadd dX9_write_75 ?_
                refine gj_al0 dX9_write_76 ?_
                refine gj_il2 dX9_write_77 ?_
                refine gj_il5 dX9_write_78 ?_
                refine gj_iadd dX9_write_80 ?_
                refine gj_il1 dX9_write_81 ?_
                refine gj_cV2r dX9_write_82 mX9_169 hX9_isWar (upw_o (by decide) q32) rfl (by omega) rfl (tX9_isWar  (by omega) ⟨⟨_, _, _, _, _, _, _, _, _, _, (upw_o (by decide) q32)⟩, (upw_o (by decide) q39), (upw_o (by decide) q40), (upw_o (by decide) q41)⟩ hO (by omega) (by omega)) ?_
                refine gj_ifB_eq dX9_write_85 (fun h85 => ?_) (fun h85 => ?_)
                · refine gj_iconst dX9_write_92 ?_
                  refine gj_iast dX9_write_93 upw_s rfl rfl (by omega) ?_
                  refine gj_ii5 dX9_write_94 rfl rfl ?_
                  refine gj_goto dX9_write_97 ?_
                  rw [upw_upw, blk_s _ _ hi.1 (by rw [b2i_f h85])]
                  exact ih58 _ (by omega) (by omega)
                · refine gj_iconst dX9_write_88 ?_
                  refine gj_goto dX9_write_89 ?_
                  refine gj_iast dX9_write_93 upw_s rfl rfl (by omega) ?_
                  refine gj_ii5 dX9_write_94 rfl rfl ?_
                  refine gj_goto dX9_write_97 ?_
                  rw [upw_upw, blk_s _ _ hi.1 (by rw [b2i_t h85])]
                  exact ih58 _ (by omega) (by omega)
          exact loop58 _ 0 (by omega) (Nat.lt_succ_self _)
        · refine gj_al0 dX9_write_33 ?_
          refine gj_iconst dX9_write_34 ?_
          refine gj_cV1w dX9_write_35 mX9_80 hX9_finds q32 rfl (by omega) rfl (tX9_finds  (by omega) q32) (fun w35 P35 => ?_)
          obtain rfl := P35
          exact gj_iret dX9_write_38 rfl (Or.inr (Or.inl ⟨⟨by omega, by omega, by omega⟩, by omega, rfl, ⟨⟨_, _, _, _, _, _, _, _, _, _, _, _, _, _, _, _, _, _, _, _, upw_s, (upw_o (by decide) q33), (upw_o (by decide) q34), (upw_o (by decide) q35), (upw_o (by decide) q36), (upw_o (by decide) q37), (upw_o (by decide) q38), (upw_o (by decide) q39), (upw_o (by decide) q40), (upw_o (by decide) q41), (upw_o (by decide) q42), hse0, hse1, (upw_o (by decide) q43), (upw_o (by decide) q44), (upw_o (by decide) q45), (upw_o (by decide) q46), (upw_o (by decide) q47), (upw_o (by decide) q48), (upw_o (by decide) q49), hsg, hsh⟩, (fun k hk => upw_o (by omega) ((fun (k : Nat) (_ : k < 32) => rfl) k hk))⟩⟩))
      · refine gj_bipush dX9_write_21 rfl ?_
        exact gj_iret dX9_write_23 rfl (Or.inr (Or.inr ⟨by omega, rfl, rfl⟩))
set_option maxRecDepth 20000 in
set_option maxHeartbeats 4000000 in
theorem tX9_copy {l : Launch} {x : Cx} {d : Nat} {w : AW} {tx : Int → Int} {by0 : Int} {ru fa fe : Int → Int} {fc lw br me : Int} {mh ml mw : Int → Int} {mn fi : Int} {fm ln : Int → Int} {it : Int → Int → Int} {s i t j cn : Int} (hd : 2 ≤ d) (hC : ModelC w tx by0 ru fa fe fc lw br me mh ml mw mn fi fm ln it) (hK : ParOK tx by0 ru fa fe fc lw br me mh ml mw mn fi fm ln it) (hs : R32 s) (hi : R32 i) (ht : R32 t) (hj : R32 j) (hcn : R32 cn) : Mt l x iX9_copy d 0 0 50 w [vR 32, vI s, vI i, vI t, vI j, vI cn] (fun v2 w2 => (((0 ≤ s ∧ s ≤ 3) ∧ (0 ≤ t ∧ t ≤ 3)) ∧ ¬ (fm s = -1 ∨ fm t = -1) ∧ fm s = fm t ∧ (0 ≤ i ∧ 0 ≤ cn ∧ i ≤ ln s ∧ cn ≤ ln s - i ∧ 0 ≤ j ∧ j ≤ ln t ∧ cn ≤ ln t - j) ∧ v2 = some (vI 1) ∧ ModelC w2 tx by0 ru fa fe fc lw br me mh ml mw mn fi fm ln (upi it t (cpf (it s) (it t) i j cn)) ∧ ∀ k : Nat, k < 32 → w2 k = w k) ∨ (((0 ≤ s ∧ s ≤ 3) ∧ (0 ≤ t ∧ t ≤ 3)) ∧ ¬ (fm s = -1 ∨ fm t = -1) ∧ fm s = fm t ∧ ¬ (0 ≤ i ∧ 0 ≤ cn ∧ i ≤ ln s ∧ cn ≤ ln s - i ∧ 0 ≤ j ∧ j ≤ ln t ∧ cn ≤ ln t - j) ∧ v2 = some (vI (-12)) ∧ ModelC w2 tx by0 ru fa fe fc lw br me mh ml mw mn 2 fm ln it ∧ ∀ k : Nat, k < 32 → w2 k = w k) ∨ (((0 ≤ s ∧ s ≤ 3) ∧ (0 ≤ t ∧ t ≤ 3)) ∧ ¬ (fm s = -1 ∨ fm t = -1) ∧ fm s ≠ fm t ∧ v2 = some (vI (-14)) ∧ ModelC w2 tx by0 ru fa fe fc lw br me mh ml mw mn 4 fm ln it ∧ ∀ k : Nat, k < 32 → w2 k = w k) ∨ (((0 ≤ s ∧ s ≤ 3) ∧ (0 ≤ t ∧ t ≤ 3)) ∧ (fm s = -1 ∨ fm t = -1) ∧ v2 = some (vI (-11)) ∧ ModelC w2 tx by0 ru fa fe fc lw br me mh ml mw mn 1 fm ln it ∧ ∀ k : Nat, k < 32 → w2 k = w k) ∨ (¬ ((0 ≤ s ∧ s ≤ 3) ∧ (0 ≤ t ∧ t ≤ 3)) ∧ v2 = some (vI (-2)) ∧ w2 = w)) := by
  have hC0 := hC
  obtain ⟨a0, nr, le, bs, bl, bp, mo, sf, sz, im, mv, rd, se, fr, tr, sp, so, lu, bt, sg, q32, q33, q34, q35, q36, q37, q38, q39, q40, q41, q42, hse0, hse1, q43, q44, q45, q46, q47, q48, q49, hsg, hsh⟩ := hC
  obtain ⟨hT, hO, hbm, hMm, hSh⟩ := hK
  have t9 := hT.1
  have n9 := numF_R (tx := tx) hT.1
  have f9 := hO.2.2.1.1
  have m9 := hMm.1
  refine Mt.of (L0 := [some (vR 32), some (vI s), some (vI i), some (vI t), some (vI j), some (vI cn), none]) rfl rfl rfl ?_
  refine gj_il1 dX9_copy_0 ?_
  refine gj_cS1r dX9_copy_1 mX9_74 hX9_isSheet (by omega) rfl (tX9_isSheet  (by omega) (by omega)) ?_
  refine gj_ifB_eq dX9_copy_4 (fun h4 => ?_) (fun h4 => ?_)
  · refine gj_bipush dX9_copy_14 rfl ?_
    exact gj_iret dX9_copy_16 rfl (Or.inr (Or.inr (Or.inr (Or.inr ⟨by omega, rfl, rfl⟩))))
  · refine gj_il3 dX9_copy_7 ?_
    refine gj_cS1r dX9_copy_8 mX9_74 hX9_isSheet (by omega) rfl (tX9_isSheet  (by omega) (by omega)) ?_
    refine gj_ifB_ne dX9_copy_11 (fun h11 => ?_) (fun h11 => ?_)
    · have s9 := hsh s (by omega) (by omega)
      have p9 := hSh s (by omega) (by omega)
      have s8 := s9.1
      have p8 : -1 ≤ fm s ∧ fm s ≤ 2 := by rcases p9 with z | z <;> omega
      have z9 : fm s ≠ -1 → sz s = ln s ∧ (0 ≤ ln s ∧ ln s ≤ 60) := fun c => ⟨(s9.2 c).1, (p9.resolve_left c).2.1⟩
      have t8 := hsh t (by omega) (by omega)
      have t7 := hSh t (by omega) (by omega)
      have t6 := t8.1
      have t5 : -1 ≤ fm t ∧ fm t ≤ 2 := by rcases t7 with z | z <;> omega
      have y9 : fm t ≠ -1 → sz t = ln t ∧ (0 ≤ ln t ∧ ln t ≤ 60) := fun c => ⟨(t8.2 c).1, (t7.resolve_left c).2.1⟩
      refine gj_al0 dX9_copy_17 ?_
      refine gj_get dX9_copy_18 fX9_7 q32 rfl rfl ?_
      refine gj_il1 dX9_copy_21 ?_
      refine gj_iald dX9_copy_22 q33 rfl rfl (by omega) ?_
      refine gj_if_lt dX9_copy_23 (by omega) (fun h23 => ?_) (fun h23 => ?_)
      · refine gj_al0 dX9_copy_35 ?_
        refine gj_iconst dX9_copy_36 ?_
        refine gj_cV1w dX9_copy_37 mX9_80 hX9_finds q32 rfl (by omega) rfl (tX9_finds  (by omega) q32) (fun w37 P37 => ?_)
        obtain rfl := P37
        exact gj_iret dX9_copy_40 rfl (Or.inr (Or.inr (Or.inr (Or.inl ⟨⟨by omega, by omega⟩, by omega, rfl, ⟨⟨_, _, _, _, _, _, _, _, _, _, _, _, _, _, _, _, _, _, _, _, upw_s, (upw_o (by decide) q33), (upw_o (by decide) q34), (upw_o (by decide) q35), (upw_o (by decide) q36), (upw_o (by decide) q37), (upw_o (by decide) q38), (upw_o (by decide) q39), (upw_o (by decide) q40), (upw_o (by decide) q41), (upw_o (by decide) q42), hse0, hse1, (upw_o (by decide) q43), (upw_o (by decide) q44), (upw_o (by decide) q45), (upw_o (by decide) q46), (upw_o (by decide) q47), (upw_o (by decide) q48), (upw_o (by decide) q49), hsg, hsh⟩, (fun k hk => upw_o (by omega) ((fun (k : Nat) (_ : k < 32) => rfl) k hk))⟩⟩))))
      · refine gj_al0 dX9_copy_26 ?_
        refine gj_get dX9_copy_27 fX9_7 q32 rfl rfl ?_
        refine gj_il3 dX9_copy_30 ?_
        refine gj_iald dX9_copy_31 q33 rfl rfl (by omega) ?_
        refine gj_if_ge dX9_copy_32 (by omega) (fun h32 => ?_) (fun h32 => ?_)
        · refine gj_al0 dX9_copy_41 ?_
          refine gj_get dX9_copy_42 fX9_7 q32 rfl rfl ?_
          refine gj_il1 dX9_copy_45 ?_
          refine gj_iald dX9_copy_46 q33 rfl rfl (by omega) ?_
          refine gj_al0 dX9_copy_47 ?_
          refine gj_get dX9_copy_48 fX9_7 q32 rfl rfl ?_
          refine gj_il3 dX9_copy_51 ?_
          refine gj_iald dX9_copy_52 q33 rfl rfl (by omega) ?_
          refine gj_icmp_eq dX9_copy_53 (by omega) (fun h53 => ?_) (fun h53 => ?_)
          · have hx : fm s ≠ -1 := by omega
            have hy : fm t ≠ -1 := by omega
            have zs := z9 hx
            have zt := y9 hy
            refine gj_il2 dX9_copy_62 ?_
            refine gj_if_lt dX9_copy_63 (by omega) (fun h63 => ?_) (fun h63 => ?_)
            · refine gj_al0 dX9_copy_111 ?_
              refine gj_iconst dX9_copy_112 ?_
              refine gj_cV1w dX9_copy_113 mX9_80 hX9_finds q32 rfl (by omega) rfl (tX9_finds  (by omega) q32) (fun w113 P113 => ?_)
              obtain rfl := P113
              exact gj_iret dX9_copy_116 rfl (Or.inr (Or.inl ⟨⟨by omega, by omega⟩, by omega, by omega, by omega, rfl, ⟨⟨_, _, _, _, _, _, _, _, _, _, _, _, _, _, _, _, _, _, _, _, upw_s, (upw_o (by decide) q33), (upw_o (by decide) q34), (upw_o (by decide) q35), (upw_o (by decide) q36), (upw_o (by decide) q37), (upw_o (by decide) q38), (upw_o (by decide) q39), (upw_o (by decide) q40), (upw_o (by decide) q41), (upw_o (by decide) q42), hse0, hse1, (upw_o (by decide) q43), (upw_o (by decide) q44), (upw_o (by decide) q45), (upw_o (by decide) q46), (upw_o (by decide) q47), (upw_o (by decide) q48), (upw_o (by decide) q49), hsg, hsh⟩, (fun k hk => upw_o (by omega) ((fun (k : Nat) (_ : k < 32) => rfl) k hk))⟩⟩))
            · refine gj_il4 dX9_copy_66 ?_
              refine gj_if_lt dX9_copy_68 (by omega) (fun h68 => ?_) (fun h68 => ?_)
              · refine gj_al0 dX9_copy_111 ?_
                refine gj_iconst dX9_copy_112 ?_
                refine gj_cV1w dX9_copy_113 mX9_80 hX9_finds q32 rfl (by omega) rfl (tX9_finds  (by omega) q32) (fun w113 P113 => ?_)
                obtain rfl := P113
                exact gj_iret dX9_copy_116 rfl (Or.inr (Or.inl ⟨⟨by omega, by omega⟩, by omega, by omega, by omega, rfl, ⟨⟨_, _, _, _, _, _, _, _, _, _, _, _, _, _, _, _, _, _, _, _, upw_s, (upw_o (by decide) q33), (upw_o (by decide) q34), (upw_o (by decide) q35), (upw_o (by decide) q36), (upw_o (by decide) q37), (upw_o (by decide) q38), (upw_o (by decide) q39), (upw_o (by decide) q40), (upw_o (by decide) q41), (upw_o (by decide) q42), hse0, hse1, (upw_o (by decide) q43), (upw_o (by decide) q44), (upw_o (by decide) q45), (upw_o (by decide) q46), (upw_o (by decide) q47), (upw_o (by decide) q48), (upw_o (by decide) q49), hsg, hsh⟩, (fun k hk => upw_o (by omega) ((fun (k : Nat) (_ : k < 32) => rfl) k hk))⟩⟩))
              · refine gj_il5 dX9_copy_71 ?_
                refine gj_if_lt dX9_copy_73 (by omega) (fun h73 => ?_) (fun h73 => ?_)
                · refine gj_al0 dX9_copy_111 ?_
                  refine gj_iconst dX9_copy_112 ?_
                  refine gj_cV1w dX9_copy_113 mX9_80 hX9_finds q32 rfl (by omega) rfl (tX9_finds  (by omega) q32) (fun w113 P113 => ?_)
                  obtain rfl := P113
                  exact gj_iret dX9_copy_116 rfl (Or.inr (Or.inl ⟨⟨by omega, by omega⟩, by omega, by omega, by omega, rfl, ⟨⟨_, _, _, _, _, _, _, _, _, _, _, _, _, _, _, _, _, _, _, _, upw_s, (upw_o (by decide) q33), (upw_o (by decide) q34), (upw_o (by decide) q35), (upw_o (by decide) q36), (upw_o (by decide) q37), (upw_o (by decide) q38), (upw_o (by decide) q39), (upw_o (by decide) q40), (upw_o (by decide) q41), (upw_o (by decide) q42), hse0, hse1, (upw_o (by decide) q43), (upw_o (by decide) q44), (upw_o (by decide) q45), (upw_o (by decide) q46), (upw_o (by decide) q47), (upw_o (by decide) q48), (upw_o (by decide) q49), hsg, hsh⟩, (fun k hk => upw_o (by omega) ((fun (k : Nat) (_ : k < 32) => rfl) k hk))⟩⟩))
                · refine gj_il2 dX9_copy_76 ?_
                  refine gj_i2l dX9_copy_77 (by omega) ?_
                  refine gj_il5 dX9_copy_78 ?_
                  refine gj_i2l dX9_copy_80 (by omega) ?_
                  refine gj_ladd dX9_copy_81 ?_
                  refine gj_al0 dX9_copy_82 ?_
                  refine gj_get dX9_copy_83 fX9_13 q32 rfl rfl ?_
                  refine gj_il1 dX9_copy_86 ?_
                  refine gj_iald dX9_copy_87 q34 rfl rfl (by omega) ?_
                  rw [zs.1]
                  refine gj_i2l dX9_copy_88 (by omega) ?_
                  refine gj_lc_gt dX9_copy_89 dX9_copy_90 (by omega) (by omega) (fun h89 => ?_) (fun h89 => ?_)
                  · refine gj_al0 dX9_copy_111 ?_
                    refine gj_iconst dX9_copy_112 ?_
                    refine gj_cV1w dX9_copy_113 mX9_80 hX9_finds q32 rfl (by omega) rfl (tX9_finds  (by omega) q32) (fun w113 P113 => ?_)
                    obtain rfl := P113
                    exact gj_iret dX9_copy_116 rfl (Or.inr (Or.inl ⟨⟨by omega, by omega⟩, by omega, by omega, by omega, rfl, ⟨⟨_, _, _, _, _, _, _, _, _, _, _, _, _, _, _, _, _, _, _, _, upw_s, (upw_o (by decide) q33), (upw_o (by decide) q34), (upw_o (by decide) q35), (upw_o (by decide) q36), (upw_o (by decide) q37), (upw_o (by decide) q38), (upw_o (by decide) q39), (upw_o (by decide) q40), (upw_o (by decide) q41), (upw_o (by decide) q42), hse0, hse1, (upw_o (by decide) q43), (upw_o (by decide) q44), (upw_o (by decide) q45), (upw_o (by decide) q46), (upw_o (by decide) q47), (upw_o (by decide) q48), (upw_o (by decide) q49), hsg, hsh⟩, (fun k hk => upw_o (by omega) ((fun (k : Nat) (_ : k < 32) => rfl) k hk))⟩⟩))
                  · refine gj_il4 dX9_copy_93 ?_
                    refine gj_i2l dX9_copy_95 (by omega) ?_
                    refine gj_il5 dX9_copy_96 ?_
                    refine gj_i2l dX9_copy_98 (by omega) ?_
                    refine gj_ladd dX9_copy_99 ?_
                    refine gj_al0 dX9_copy_100 ?_
                    refine gj_get dX9_copy_101 fX9_13 q32 rfl rfl ?_
                    refine gj_il3 dX9_copy_104 ?_
                    refine gj_iald dX9_copy_105 q34 rfl rfl (by omega) ?_
                    rw [zt.1]
                    refine gj_i2l dX9_copy_106 (by omega) ?_
                    refine gj_lc_le dX9_copy_107 dX9_copy_108 (by omega) (by omega) (fun h107 => ?_) (fun h107 => ?_)
                    · refine gj_iconst dX9_copy_117 ?_
                      refine gj_is6 dX9_copy_118 rfl rfl ?_
                      refine gj_eq rfl rfl (show w = upw w 36 (cI 60 (ovF mv (fun a => im (60 * s + i + a)) 0)) from (by rw [ovF_0, upw_same q36])) ?_
                      have loop120 : ∀ (k : Nat), ∀ (c : Int), (0 ≤ c ∧ c ≤ cn) → (cn - c).toNat < k → Gj l x iX9_copy d 0 0 50 (fun v2 w2 => (((0 ≤ s ∧ s ≤ 3) ∧ (0 ≤ t ∧ t ≤ 3)) ∧ ¬ (fm s = -1 ∨ fm t = -1) ∧ fm s = fm t ∧ (0 ≤ i ∧ 0 ≤ cn ∧ i ≤ ln s ∧ cn ≤ ln s - i ∧ 0 ≤ j ∧ j ≤ ln t ∧ cn ≤ ln t - j) ∧ v2 = some (vI 1) ∧ ModelC w2 tx by0 ru fa fe fc lw br me mh ml mw mn fi fm ln (upi it t (cpf (it s) (it t) i j cn)) ∧ ∀ k : Nat, k < 32 → w2 k = w k) ∨ (((0 ≤ s ∧ s ≤ 3) ∧ (0 ≤ t ∧ t ≤ 3)) ∧ ¬ (fm s = -1 ∨ fm t = -1) ∧ fm s = fm t ∧ ¬ (0 ≤ i ∧ 0 ≤ cn ∧ i ≤ ln s ∧ cn ≤ ln s - i ∧ 0 ≤ j ∧ j ≤ ln t ∧ cn ≤ ln t - j) ∧ v2 = some (vI (-12)) ∧ ModelC w2 tx by0 ru fa fe fc lw br me mh ml mw mn 2 fm ln it ∧ ∀ k : Nat, k < 32 → w2 k = w k) ∨ (((0 ≤ s ∧ s ≤ 3) ∧ (0 ≤ t ∧ t ≤ 3)) ∧ ¬ (fm s = -1 ∨ fm t = -1) ∧ fm s ≠ fm t ∧ v2 = some (vI (-14)) ∧ ModelC w2 tx by0 ru fa fe fc lw br me mh ml mw mn 4 fm ln it ∧ ∀ k : Nat, k < 32 → w2 k = w k) ∨ (((0 ≤ s ∧ s ≤ 3) ∧ (0 ≤ t ∧ t ≤ 3)) ∧ (fm s = -1 ∨ fm t = -1) ∧ v2 = some (vI (-11)) ∧ ModelC w2 tx by0 ru fa fe fc lw br me mh ml mw mn 1 fm ln it ∧ ∀ k : Nat, k < 32 → w2 k = w k) ∨ (¬ ((0 ≤ s ∧ s ≤ 3) ∧ (0 ≤ t ∧ t ≤ 3)) ∧ v2 = some (vI (-2)) ∧ w2 = w)) 0 0 50 (upw w 36 (cI 60 (ovF mv (fun a => im (60 * s + i + a)) c))) 120 [some (vR 32), some (vI s), some (vI i), some (vI t), some (vI j), some (vI cn), some (vI c)] [] := by
                        intro k
                        induction k with
                        | zero => intro _ _ hm; exact absurd hm (Nat.not_lt_zero _)
                        | succ k ih120 =>
                          intro c  hc hm120
                          refine gj_il6 dX9_copy_120 ?_
                          refine gj_il5 dX9_copy_122 ?_
                          refine gj_icmp_ge dX9_copy_124 (by omega) (fun h124 => ?_) (fun h124 => ?_)
                          · refine gj_iconst dX9_copy_154 ?_
                            refine gj_is6 dX9_copy_155 rfl rfl ?_
                            refine gj_eq rfl rfl (show upw w 36 (cI 60 (ovF mv (fun a => im (60 * s + i + a)) c)) = upw (upw w 36 (cI 60 (ovF mv (fun a => im (60 * s + i + a)) cn))) 35 (cI 240 (blkF im (60 * t + j) 0 (ovF mv (fun a => im (60 * s + i + a)) cn))) from (by rw [blk_0, show c = cn by omega, upw_same (upw_o (by decide) q35)])) ?_
                            have loop157 : ∀ (k : Nat), ∀ (e : Int), (0 ≤ e ∧ e ≤ cn) → (cn - e).toNat < k → Gj l x iX9_copy d 0 0 50 (fun v2 w2 => (((0 ≤ s ∧ s ≤ 3) ∧ (0 ≤ t ∧ t ≤ 3)) ∧ ¬ (fm s = -1 ∨ fm t = -1) ∧ fm s = fm t ∧ (0 ≤ i ∧ 0 ≤ cn ∧ i ≤ ln s ∧ cn ≤ ln s - i ∧ 0 ≤ j ∧ j ≤ ln t ∧ cn ≤ ln t - j) ∧ v2 = some (vI 1) ∧ ModelC w2 tx by0 ru fa fe fc lw br me mh ml mw mn fi fm ln (upi it t (cpf (it s) (it t) i j cn)) ∧ ∀ k : Nat, k < 32 → w2 k = w k) ∨ (((0 ≤ s ∧ s ≤ 3) ∧ (0 ≤ t ∧ t ≤ 3)) ∧ ¬ (fm s = -1 ∨ fm t = -1) ∧ fm s = fm t ∧ ¬ (0 ≤ i ∧ 0 ≤ cn ∧ i ≤ ln s ∧ cn ≤ ln s - i ∧ 0 ≤ j ∧ j ≤ ln t ∧ cn ≤ ln t - j) ∧ v2 = some (vI (-12)) ∧ ModelC w2 tx by0 ru fa fe fc lw br me mh ml mw mn 2 fm ln it ∧ ∀ k : Nat, k < 32 → w2 k = w k) ∨ (((0 ≤ s ∧ s ≤ 3) ∧ (0 ≤ t ∧ t ≤ 3)) ∧ ¬ (fm s = -1 ∨ fm t = -1) ∧ fm s ≠ fm t ∧ v2 = some (vI (-14)) ∧ ModelC w2 tx by0 ru fa fe fc lw br me mh ml mw mn 4 fm ln it ∧ ∀ k : Nat, k < 32 → w2 k = w k) ∨ (((0 ≤ s ∧ s ≤ 3) ∧ (0 ≤ t ∧ t ≤ 3)) ∧ (fm s = -1 ∨ fm t = -1) ∧ v2 = some (vI (-11)) ∧ ModelC w2 tx by0 ru fa fe fc lw br me mh ml mw mn 1 fm ln it ∧ ∀ k : Nat, k < 32 → w2 k = w k) ∨ (¬ ((0 ≤ s ∧ s ≤ 3) ∧ (0 ≤ t ∧ t ≤ 3)) ∧ v2 = some (vI (-2)) ∧ w2 = w)) 0 0 50 (upw (upw w 36 (cI 60 (ovF mv (fun a => im (60 * s + i + a)) cn))) 35 (cI 240 (blkF im (60 * t + j) e (ovF mv (fun a => im (60 * s + i + a)) cn)))) 157 [some (vR 32), some (vI s), some (vI i), some (vI t), some (vI j), some (vI cn), some (vI e)] [] := by
                              intro k
                              induction k with
                              | zero => intro _ _ hm; exact absurd hm (Nat.not_lt_zero _)
                              | succ k ih157 =>
                                intro e  he hm157
                                refine gj_il6 dX9_copy_157 ?_
                                refine gj_il5 dX9_copy_159 ?_
                                refine gj_icmp_ge dX9_copy_161 (by omega) (fun h161 => ?_) (fun h161 => ?_)
                                · refine gj_iconst dX9_copy_192 ?_
                                  exact gj_iret dX9_copy_193 rfl (Or.inl ⟨⟨by omega, by omega⟩, by omega, by omega, by omega, rfl, ⟨⟨_, _, _, _, _, _, _, _, _, _, _, _, _, _, _, _, _, _, _, _, (upw_o (by decide) (upw_o (by decide) q32)), (upw_o (by decide) (upw_o (by decide) q33)), (upw_o (by decide) (upw_o (by decide) q34)), upw_s, (upw_o (by decide) upw_s), (upw_o (by decide) (upw_o (by decide) q37)), (upw_o (by decide) (upw_o (by decide) q38)), (upw_o (by decide) (upw_o (by decide) q39)), (upw_o (by decide) (upw_o (by decide) q40)), (upw_o (by decide) (upw_o (by decide) q41)), (upw_o (by decide) (upw_o (by decide) q42)), hse0, hse1, (upw_o (by decide) (upw_o (by decide) q43)), (upw_o (by decide) (upw_o (by decide) q44)), (upw_o (by decide) (upw_o (by decide) q45)), (upw_o (by decide) (upw_o (by decide) q46)), (upw_o (by decide) (upw_o (by decide) q47)), (upw_o (by decide) (upw_o (by decide) q48)), (upw_o (by decide) (upw_o (by decide) q49)), hsg, (shm_it hsh hSh (fun q i g0 g1 g2 g3 z => by unfold blkF; rw [if_neg (by omega)]) (fun _ q g0 g1 => by
                                              rw [show e = cn by omega]
                                              unfold blkF cpf
                                              by_cases z : j ≤ q ∧ q < j + cn
                                              · rw [if_pos (by omega), if_pos z]
                                                unfold ovF
                                                rw [if_pos (by omega)]
                                                show im (60 * s + i + (60 * t + q - (60 * t + j))) = _
                                                rw [show 60 * s + i + (60 * t + q - (60 * t + j)) = 60 * s + (i + (q - j)) by omega]
                                                exact (s9.2 hx).2 _ (by omega) (by omega)
                                              · rw [if_neg (by omega), if_neg z]; exact (t8.2 hy).2 q g0 g1))⟩, (fun (k : Nat) (hk : k < 32) => (upw_o (by omega) (upw_o (by omega) rfl) : upw (upw w 36 (cI 60 (ovF mv (fun a => im (60 * s + i + a)) cn))) 35 _ k = w k))⟩⟩)
                                · refine gj_al0 dX9_copy_164 ?_
                                  refine gj_get dX9_copy_165 fX9_16 (upw_o (by decide) (upw_o (by decide) q32)) rfl rfl ?_
                                  refine gj_bipush dX9_copy_168 rfl ?_
                                  refine gj_il3 dX9_copy_170 ?_
                                  refine gj_imul dX9_copy_171 ?_
                                  refine gj_il4 dX9_copy_172 ?_
                                  refine gj_iadd dX9_copy_174 ?_
                                  refine gj_il6 dX9_copy_175 ?_
                                  refine gj_iadd dX9_copy_177 ?_
                                  refine gj_al0 dX9_copy_178 ?_
                                  refine gj_get dX9_copy_179 fX9_19 (upw_o (by decide) (upw_o (by decide) q32)) rfl rfl ?_
                                  refine gj_il6 dX9_copy_182 ?_
                                  refine gj_iald dX9_copy_184 (upw_o (by decide) upw_s) rfl rfl (by omega) ?_
                                  refine gj_iast dX9_copy_185 upw_s rfl rfl (by omega) ?_
                                  refine gj_ii6 dX9_copy_186 rfl rfl ?_
                                  refine gj_goto dX9_copy_189 ?_
                                  rw [upw_upw, blk_s _ _ he.1 rfl]
                                  exact ih157 _ (by omega) (by omega)
                            exact loop157 _ 0 (by omega) (Nat.lt_succ_self _)
                          · refine gj_al0 dX9_copy_127 ?_
                            refine gj_get dX9_copy_128 fX9_19 (upw_o (by decide) q32) rfl rfl ?_
                            refine gj_il6 dX9_copy_131 ?_
                            refine gj_al0 dX9_copy_133 ?_
                            refine gj_get dX9_copy_134 fX9_16 (upw_o (by decide) q32) rfl rfl ?_
                            refine gj_bipush dX9_copy_137 rfl ?_
                            refine gj_il1 dX9_copy_139 ?_
                            refine gj_imul dX9_copy_140 ?_
                            refine gj_il2 dX9_copy_141 ?_
                            refine gj_iadd dX9_copy_142 ?_
                            refine gj_il6 dX9_copy_143 ?_
                            refine gj_iadd dX9_copy_145 ?_
                            refine gj_iald dX9_copy_146 (upw_o (by decide) q35) rfl rfl (by omega) ?_
                            refine gj_iast dX9_copy_147 upw_s rfl rfl (by omega) ?_
                            refine gj_ii6 dX9_copy_148 rfl rfl ?_
                            refine gj_goto dX9_copy_151 ?_
                            rw [upw_upw, ovF_s _ _ hc.1 rfl]
                            exact ih120 _ (by omega) (by omega)
                      exact loop120 _ 0 (by omega) (Nat.lt_succ_self _)
                    · refine gj_al0 dX9_copy_111 ?_
                      refine gj_iconst dX9_copy_112 ?_
                      refine gj_cV1w dX9_copy_113 mX9_80 hX9_finds q32 rfl (by omega) rfl (tX9_finds  (by omega) q32) (fun w113 P113 => ?_)
                      obtain rfl := P113
                      exact gj_iret dX9_copy_116 rfl (Or.inr (Or.inl ⟨⟨by omega, by omega⟩, by omega, by omega, by omega, rfl, ⟨⟨_, _, _, _, _, _, _, _, _, _, _, _, _, _, _, _, _, _, _, _, upw_s, (upw_o (by decide) q33), (upw_o (by decide) q34), (upw_o (by decide) q35), (upw_o (by decide) q36), (upw_o (by decide) q37), (upw_o (by decide) q38), (upw_o (by decide) q39), (upw_o (by decide) q40), (upw_o (by decide) q41), (upw_o (by decide) q42), hse0, hse1, (upw_o (by decide) q43), (upw_o (by decide) q44), (upw_o (by decide) q45), (upw_o (by decide) q46), (upw_o (by decide) q47), (upw_o (by decide) q48), (upw_o (by decide) q49), hsg, hsh⟩, (fun k hk => upw_o (by omega) ((fun (k : Nat) (_ : k < 32) => rfl) k hk))⟩⟩))
          · refine gj_al0 dX9_copy_56 ?_
            refine gj_iconst dX9_copy_57 ?_
            refine gj_cV1w dX9_copy_58 mX9_80 hX9_finds q32 rfl (by omega) rfl (tX9_finds  (by omega) q32) (fun w58 P58 => ?_)
            obtain rfl := P58
            exact gj_iret dX9_copy_61 rfl (Or.inr (Or.inr (Or.inl ⟨⟨by omega, by omega⟩, by omega, by omega, rfl, ⟨⟨_, _, _, _, _, _, _, _, _, _, _, _, _, _, _, _, _, _, _, _, upw_s, (upw_o (by decide) q33), (upw_o (by decide) q34), (upw_o (by decide) q35), (upw_o (by decide) q36), (upw_o (by decide) q37), (upw_o (by decide) q38), (upw_o (by decide) q39), (upw_o (by decide) q40), (upw_o (by decide) q41), (upw_o (by decide) q42), hse0, hse1, (upw_o (by decide) q43), (upw_o (by decide) q44), (upw_o (by decide) q45), (upw_o (by decide) q46), (upw_o (by decide) q47), (upw_o (by decide) q48), (upw_o (by decide) q49), hsg, hsh⟩, (fun k hk => upw_o (by omega) ((fun (k : Nat) (_ : k < 32) => rfl) k hk))⟩⟩)))
        · refine gj_al0 dX9_copy_35 ?_
          refine gj_iconst dX9_copy_36 ?_
          refine gj_cV1w dX9_copy_37 mX9_80 hX9_finds q32 rfl (by omega) rfl (tX9_finds  (by omega) q32) (fun w37 P37 => ?_)
          obtain rfl := P37
          exact gj_iret dX9_copy_40 rfl (Or.inr (Or.inr (Or.inr (Or.inl ⟨⟨by omega, by omega⟩, by omega, rfl, ⟨⟨_, _, _, _, _, _, _, _, _, _, _, _, _, _, _, _, _, _, _, _, upw_s, (upw_o (by decide) q33), (upw_o (by decide) q34), (upw_o (by decide) q35), (upw_o (by decide) q36), (upw_o (by decide) q37), (upw_o (by decide) q38), (upw_o (by decide) q39), (upw_o (by decide) q40), (upw_o (by decide) q41), (upw_o (by decide) q42), hse0, hse1, (upw_o (by decide) q43), (upw_o (by decide) q44), (upw_o (by decide) q45), (upw_o (by decide) q46), (upw_o (by decide) q47), (upw_o (by decide) q48), (upw_o (by decide) q49), hsg, hsh⟩, (fun k hk => upw_o (by omega) ((fun (k : Nat) (_ : k < 32) => rfl) k hk))⟩⟩))))
    · refine gj_bipush dX9_copy_14 rfl ?_
      exact gj_iret dX9_copy_16 rfl (Or.inr (Or.inr (Or.inr (Or.inr ⟨by omega, rfl, rfl⟩))))
