/-! the model's ways: far -/
abbrev mOn (rd : Int → Int) : Int → Int := fun r => rd (3 * r)
abbrev mOt (rd : Int → Int) : Int → Int := fun r => rd (3 * r + 1)
abbrev mHo (rd : Int → Int) : Int → Int := fun r => rd (3 * r + 2)
theorem gr_agr {on ot ho on2 ot2 ho2 wy : Int → Int} {nu : Int} (hA : Agr on ot ho on2 ot2 ho2 nu) (h : GrOK on2 ot2 ho2 wy nu) : GrOK on ot ho wy nu := by
  obtain ⟨h1, h2, h3, h4, h5⟩ := h
  refine ⟨h1, h2, h3, fun a b r ha hb r0 r1 hc => ?_, fun a b ha hb hab hlt => ?_⟩
  · rw [acr_eq hA ⟨r0, r1⟩] at hc ⊢
    rw [(hA r r0 r1).2.2]
    exact h4 a b r ha hb r0 r1 hc
  · obtain ⟨r, r0, r1, r2, r3⟩ := h5 a b ha hb hab hlt
    refine ⟨r, r0, r1, ?_, ?_⟩
    · rw [acr_eq hA ⟨r0, r1⟩]; exact r2
    · rw [acr_eq hA ⟨r0, r1⟩, (hA r r0 r1).2.2]; exact r3
theorem rdt_agr {rd tx : Int → Int} {n : Int} (h : RdT rd tx n) : Agr (mOn rd) (mOt rd) (mHo rd) (cOn tx) (cOt tx) (cHo tx) n := h
theorem rdt_ed {rd tx : Int → Int} {by0 : Int} (hT : TxOK tx by0) (h : RdT rd tx (numF tx by0)) : EdOK (mOn rd) (mOt rd) (mHo rd) (numF tx by0) := ed_of hT rfl (fun r r0 r1 => h r r0 r1)
theorem rdt_gr {rd tx : Int → Int} {by0 : Int} (hT : TxOK tx by0) (h : RdT rd tx (numF tx by0)) : GrOK (mOn rd) (mOt rd) (mHo rd) (cWy tx by0) (numF tx by0) := gr_agr (rdt_agr h) (can_ok hT).gr
theorem rdt_in {rd tx : Int → Int} {by0 r : Int} (hT : TxOK tx by0) (h : RdT rd tx (numF tx by0)) (h0 : 0 ≤ r) (h1 : r < numF tx by0) : (0 ≤ rd (3 * r) ∧ rd (3 * r) ≤ 7) ∧ (0 ≤ rd (3 * r + 1) ∧ rd (3 * r + 1) ≤ 7) ∧ rd (3 * r) ≠ rd (3 * r + 1) ∧ (1 ≤ rd (3 * r + 2) ∧ rd (3 * r + 2) ≤ 9) := (rdt_ed hT h).2 r h0 h1
/-- a way's hours are few -/
theorem way_63 {on ot ho wy : Int → Int} {nu b : Int} (hE : EdOK on ot ho nu) (hG : GrOK on ot ho wy nu) (hb : In7 b) : ∀ (n : Nat) (a : Int), In7 a → (rkF wy b a).toNat ≤ n → wy (a * 8 + b) < 1000 → wy (a * 8 + b) ≤ 9 * (n : Int)
  | n, a, ha, hn, hlt => by
    by_cases c : a = b
    · rw [c, hG.1 b hb]; omega
    · obtain ⟨m1, m2, ⟨r, r0, r1, r2, r3⟩, -⟩ := nxt_ok hE hG ha hb c hlt
      have k1 := rk_lt (t := b) m1 m2
      have k2 := rk_R (wy := wy) (t := b) m1
      have e := hE.2 r r0 r1
      match n, hn with
      | 0, hn => omega
      | n + 1, hn =>
        have := way_63 hE hG hb n _ m1 (by omega) (by omega)
        omega
theorem way_le {on ot ho wy : Int → Int} {nu a b : Int} (hE : EdOK on ot ho nu) (hG : GrOK on ot ho wy nu) (ha : In7 a) (hb : In7 b) (hlt : wy (a * 8 + b) < 1000) : wy (a * 8 + b) ≤ 63 := by
  have := rk_R (wy := wy) (t := b) ha
  have := way_63 hE hG hb 7 a ha (by omega) hlt
  omega
theorem way_0 {on ot ho wy : Int → Int} {nu a b : Int} (hG : GrOK on ot ho wy nu) (ha : In7 a) (hb : In7 b) : 0 ≤ wy (a * 8 + b) ∧ wy (a * 8 + b) ≤ 1000 := by
  by_cases c : a = b
  · rw [c, hG.1 b hb]; omega
  · have := hG.2.1 a b ha hb c; omega
/-- never too near, far where there is no way -/
def LoC (wy : Int → Int) (t : Int) (f : Int → Int) : Prop := ∀ a : Int, In7 a → (0 ≤ f a ∧ f a ≤ 9999) ∧ (wy (a * 8 + t) < 1000 → wy (a * 8 + t) ≤ f a) ∧ (¬ wy (a * 8 + t) < 1000 → f a = 9999)
def FarC (wy : Int → Int) (t : Int) (f : Int → Int) : Prop := ∀ a : Int, In7 a → (wy (a * 8 + t) < 1000 → f a = wy (a * 8 + t)) ∧ (¬ wy (a * 8 + t) < 1000 → f a = 9999)
def UpC (wy : Int → Int) (t : Int) (f : Int → Int) (k : Int) : Prop := ∀ a : Int, In7 a → wy (a * 8 + t) < 1000 → rkF wy t a ≤ k → f a ≤ wy (a * 8 + t)
def EdC (on ot ho wy : Int → Int) (t : Int) (f : Int → Int) (k i : Int) : Prop := ∀ a r : Int, In7 a → 0 ≤ r → r < i → acrF on ot r a ≠ -1 → wy (acrF on ot r a * 8 + t) < 1000 → rkF wy t (acrF on ot r a) ≤ k → f a ≤ ho r + wy (acrF on ot r a * 8 + t)
theorem far0_lo {on ot ho wy f : Int → Int} {nu t : Int} (hE : EdOK on ot ho nu) (hG : GrOK on ot ho wy nu) (ht : In7 t) (hf : ∀ a : Int, In7 a → f a = if a = t then 0 else 9999) : LoC wy t f ∧ UpC wy t f 0 := by
  refine ⟨fun a ha => ?_, fun a ha hlt hr => ?_⟩
  · rw [hf a ha]
    by_cases c : a = t
    · rw [if_pos c, c, hG.1 t ht]; omega
    · rw [if_neg c]
      exact ⟨by omega, fun z => by have := way_le hE hG ha ht z; omega, fun _ => rfl⟩
  · have c : a = t := by
      by_cases c : a = t
      · exact c
      · have h1 := hG.2.1 a t ha ht c
        have h2 := rk_lt (wy := wy) (t := t) (a := t) (b := a) ht (by rw [hG.1 t ht]; omega)
        have h3 := rk_R (wy := wy) (t := t) ht
        omega
    rw [hf a ha, if_pos c, c, hG.1 t ht]
    omega
/-- one end of a road by the other -/
def rlF (f : Int → Int) (a b h : Int) : Int → Int := upf f a (min (f b + h) (f a))
theorem rl_le (f : Int → Int) (a b h c : Int) : rlF f a b h c ≤ f c := by
  unfold rlF upf
  split
  · rename_i e
    rw [e]; omega
  · omega
theorem rl_at (f : Int → Int) (a b h : Int) : rlF f a b h a ≤ f b + h := by
  unfold rlF
  rw [upf_s]
  omega
theorem rl_lo {wy f : Int → Int} {t a b h : Int} (hl : LoC wy t f) (ha : In7 a) (hb : In7 b) (hh : 1 ≤ h ∧ h ≤ 9) (h1 : wy (a * 8 + t) ≤ h + wy (b * 8 + t)) (h2 : wy (b * 8 + t) ≤ h + wy (a * 8 + t)) (h3 : wy (a * 8 + t) < 1000 → wy (a * 8 + t) ≤ 63) (h4 : wy (b * 8 + t) < 1000 → wy (b * 8 + t) ≤ 63) : LoC wy t (rlF f a b h) := by
  intro c hc
  have la := hl a ha
  have lb := hl b hb
  have lc := hl c hc
  unfold rlF upf
  by_cases e : c = a
  · rw [if_pos e, e]
    omega
  · rw [if_neg e]
    exact lc
theorem rl2 {on ot ho wy f : Int → Int} {nu t k r : Int} (hE : EdOK on ot ho nu) (hG : GrOK on ot ho wy nu) (ht : In7 t) (r0 : 0 ≤ r) (r1 : r < nu) (hl : LoC wy t f) (hu : UpC wy t f k) (he : EdC on ot ho wy t f k r) : LoC wy t (rlF (rlF f (on r) (ot r) (ho r)) (ot r) (on r) (ho r)) ∧ UpC wy t (rlF (rlF f (on r) (ot r) (ho r)) (ot r) (on r) (ho r)) k ∧ EdC on ot ho wy t (rlF (rlF f (on r) (ot r) (ho r)) (ot r) (on r) (ho r)) k (r + 1) := by
  have e := hE.2 r r0 r1
  have a1 : acrF on ot r (on r) = ot r := by unfold acrF; rw [if_pos rfl]
  have a2 : acrF on ot r (ot r) = on r := by unfold acrF; rw [if_neg e.2.2.1, if_pos rfl]
  have g1 := hG.2.2.2.1 (on r) t r e.1 ht r0 r1 (by rw [a1]; omega)
  have g2 := hG.2.2.2.1 (ot r) t r e.2.1 ht r0 r1 (by rw [a2]; omega)
  rw [a1] at g1
  rw [a2] at g2
  have w1 := fun z => way_le hE hG e.1 ht z
  have w2 := fun z => way_le hE hG e.2.1 ht z
  have mono : ∀ c, rlF (rlF f (on r) (ot r) (ho r)) (ot r) (on r) (ho r) c ≤ f c := fun c => Int.le_trans (rl_le _ _ _ _ _) (rl_le _ _ _ _ _)
  refine ⟨rl_lo (rl_lo hl e.1 e.2.1 e.2.2.2 g1 g2 w1 w2) e.2.1 e.1 e.2.2.2 g2 g1 w2 w1, fun a ha hlt hr => Int.le_trans (mono a) (hu a ha hlt hr), fun a q ha q0 q1 hc hlt hr => ?_⟩
  by_cases c : q = r
  · subst c
    have hu2 := hu (acrF on ot q a) (acr_in hE ⟨q0, r1⟩ hc).1 hlt hr
    by_cases c1 : on q = a
    · have z : acrF on ot q a = ot q := by rw [← c1]; exact a1
      rw [z] at hu2 ⊢
      have z1 := rl_le (rlF f (on q) (ot q) (ho q)) (ot q) (on q) (ho q) a
      have z2 := rl_at f (on q) (ot q) (ho q)
      rw [c1] at z1 z2 ⊢
      omega
    · have c2 : ot q = a := by
        unfold acrF at hc
        rw [if_neg c1] at hc
        by_cases c2 : ot q = a
        · exact c2
        · rw [if_neg c2] at hc; exact absurd rfl hc
      have z : acrF on ot q a = on q := by rw [← c2]; exact a2
      rw [z] at hu2 ⊢
      have z1 := rl_at (rlF f (on q) (ot q) (ho q)) (ot q) (on q) (ho q)
      have z2 := rl_le f (on q) (ot q) (ho q) (on q)
      rw [c2] at z1 z2 ⊢
      omega
  · exact Int.le_trans (mono a) (he a q ha q0 (by omega) hc hlt hr)
theorem rk_0 {on ot ho wy : Int → Int} {nu t : Int} (hG : GrOK on ot ho wy nu) (ht : In7 t) : rkF wy t t ≤ 0 := by
  have := sumZ_bd (f := fun m => b2i (wy (m * 8 + t) < wy (t * 8 + t))) (a := 0) (b := 0) (n := 8) (by omega) (fun i i0 i1 => by
    have := way_0 (a := i) (b := t) hG (by omega) ht
    rw [hG.1 t ht, b2i_f (by omega)]; omega)
  unfold rkF; omega
theorem far_round {on ot ho wy f : Int → Int} {nu t k : Int} (hE : EdOK on ot ho nu) (hG : GrOK on ot ho wy nu) (ht : In7 t) (hk : 0 ≤ k) (hu : UpC wy t f k) (he : EdC on ot ho wy t f k nu) : UpC wy t f (k + 1) := by
  intro a ha hlt hr
  by_cases c : a = t
  · subst c
    exact hu a ha hlt (by have := rk_0 (on := on) (ot := ot) (ho := ho) (nu := nu) hG ha; omega)
  · obtain ⟨m1, m2, ⟨r, r0, r1, r2, r3⟩, -⟩ := nxt_ok hE hG ha ht c hlt
    have k1 := rk_lt (t := t) m1 m2
    have := he a r ha r0 r1 (by rw [r2]; omega) (by rw [r2]; omega) (by rw [r2]; omega)
    rw [r2] at this
    omega
theorem far_end {wy f : Int → Int} {t : Int} (hl : LoC wy t f) (hu : UpC wy t f 8) : FarC wy t f := by
  intro a ha
  have h1 := hl a ha
  have h2 := rk_R (wy := wy) (t := t) ha
  exact ⟨fun z => by have := hu a ha z (by omega); omega, h1.2.2⟩
theorem edc_0 (on ot ho wy : Int → Int) (t : Int) (f : Int → Int) (k : Int) : EdC on ot ho wy t f k 0 := fun _ _ _ h0 h1 => absurd h1 (by omega)
theorem ini_s {f : Int → Int} {t i v : Int} (h : ∀ a : Int, 0 ≤ a → a < i → f a = if a = t then 0 else 9999) (hv : v = if i = t then 0 else 9999) : ∀ a : Int, 0 ≤ a → a < i + 1 → upf f i v a = if a = t then 0 else 9999 := by
  intro a h0 h1
  unfold upf
  by_cases e : a = i
  · rw [if_pos e, hv, e]
  · rw [if_neg e]
    exact h a h0 (by omega)
set_option maxRecDepth 20000 in
set_option maxHeartbeats 4000000 in
theorem tX9_findFar {l : Launch} {x : Cx} {d : Nat} {w : AW} {fi by0 a0 fc lw le bs bl bp mn mo : Int} {rd tx fr : Int → Int} {t : Int} (hd : 1 ≤ d) (q32 : w 32 = (oM fi by0 a0 (numF tx by0) fc lw le bs bl bp mn mo)) (q38 : w 38 = cI 36 rd) (q43 : w 43 = cI 8 fr) (hT : TxOK tx by0) (hR : RdT rd tx (numF tx by0)) (ht : In7 t) : Mt l x iX9_findFar d 0 0 50 w [vR 32, vI t] (Wv (fun w2 => ∃ f : Int → Int, w2 = upw w 43 (cI 8 f) ∧ FarC (cWy tx by0) t f)) := by
  have hE := rdt_ed hT hR
  have hG := rdt_gr hT hR
  have n9 := numF_R (tx := tx) hT.1
  refine Mt.of (L0 := [some (vR 32), some (vI t), none, none, none, none]) rfl rfl rfl ?_
  refine gj_iconst dX9_findFar_0 ?_
  refine gj_is2 dX9_findFar_1 rfl rfl ?_
  refine gj_eq rfl rfl (show w = upw w 43 (cI 8 fr) from (upw_same q43).symm) ?_
  have loop2 : ∀ (k : Nat), ∀ (f : Int → Int) (i : Int), (0 ≤ i ∧ i ≤ 8) → (∀ a : Int, 0 ≤ a → a < i → f a = if a = t then 0 else 9999) → (8 - i).toNat < k → Gj l x iX9_findFar d 0 0 50 (Wv (fun w2 => ∃ f : Int → Int, w2 = upw w 43 (cI 8 f) ∧ FarC (cWy tx by0) t f)) 0 0 50 (upw w 43 (cI 8 f)) 2 [some (vR 32), some (vI t), some (vI i), none, none, none] [] := by
    intro k
    induction k with
    | zero => intro _ _ _ _ hm; exact absurd hm (Nat.not_lt_zero _)
    | succ k ih2 =>
      intro f i  hi hf hm2
      refine gj_il2 dX9_findFar_2 ?_
      refine gj_bipush dX9_findFar_3 rfl ?_
      refine gj_icmp_ge dX9_findFar_5 (by omega) (fun h5 => ?_) (fun h5 => ?_)
      · refine gj_iconst dX9_findFar_32 ?_
        refine gj_is2 dX9_findFar_33 rfl rfl ?_
        have loop34 : ∀ (k : Nat), ∀ (f : Int → Int) (c : Int), (0 ≤ c ∧ c ≤ 8) → (LoC (cWy tx by0) t f ∧ UpC (cWy tx by0) t f c) → (8 - c).toNat < k → Gj l x iX9_findFar d 0 0 50 (Wv (fun w2 => ∃ f : Int → Int, w2 = upw w 43 (cI 8 f) ∧ FarC (cWy tx by0) t f)) 0 0 50 (upw w 43 (cI 8 f)) 34 [some (vR 32), some (vI t), some (vI c), none, none, none] [] := by
          intro k
          induction k with
          | zero => intro _ _ _ _ hm; exact absurd hm (Nat.not_lt_zero _)
          | succ k ih34 =>
            intro f c  hc hf hm34
            refine gj_il2 dX9_findFar_34 ?_
            refine gj_bipush dX9_findFar_35 rfl ?_
            refine gj_icmp_ge dX9_findFar_37 (by omega) (fun h37 => ?_) (fun h37 => ?_)
            · exact gj_vret dX9_findFar_154 rfl (wv_v ⟨_, rfl, far_end hf.1 (by rw [show (8 : Int) = c by omega]; exact hf.2)⟩)
            · refine gj_iconst dX9_findFar_40 ?_
              refine gj_is3 dX9_findFar_41 rfl rfl ?_
              have loop42 : ∀ (k : Nat), ∀ (g : Int → Int) (r : Int), (0 ≤ r ∧ r ≤ numF tx by0) → (LoC (cWy tx by0) t g ∧ UpC (cWy tx by0) t g c ∧ EdC (mOn rd) (mOt rd) (mHo rd) (cWy tx by0) t g c r) → (numF tx by0 - r).toNat < k → Gj l x iX9_findFar d 0 0 50 (Wv (fun w2 => ∃ f : Int → Int, w2 = upw w 43 (cI 8 f) ∧ FarC (cWy tx by0) t f)) 0 0 50 (upw w 43 (cI 8 g)) 42 [some (vR 32), some (vI t), some (vI c), some (vI r), none, none] [] := by
                intro k
                induction k with
                | zero => intro _ _ _ _ hm; exact absurd hm (Nat.not_lt_zero _)
                | succ k ih42 =>
                  intro g r  hr hg hm42
                  refine gj_il3 dX9_findFar_42 ?_
                  refine gj_al0 dX9_findFar_43 ?_
                  refine gj_get dX9_findFar_44 fX9_106 (upw_o (by decide) q32) rfl rfl ?_
                  refine gj_icmp_ge dX9_findFar_47 (by omega) (fun h47 => ?_) (fun h47 => ?_)
                  · refine gj_ii2 dX9_findFar_148 rfl rfl ?_
                    refine gj_goto dX9_findFar_151 ?_
                    refine gj_dr3 ?_
                    exact ih34 _ _ (by omega) ⟨hg.1, far_round hE hG ht hc.1 hg.2.1 (by rw [show numF tx by0 = r by omega]; exact hg.2.2)⟩ (by omega)
                  · have e9 := rdt_in hT hR hr.1 (by omega)
                    have l1 := (hg.1 (rd (3 * r)) e9.1).1
                    have l2 := (hg.1 (rd (3 * r + 1)) e9.2.1).1
                    refine gj_al0 dX9_findFar_50 ?_
                    refine gj_get dX9_findFar_51 fX9_25 (upw_o (by decide) q32) rfl rfl ?_
                    refine gj_iconst dX9_findFar_54 ?_
                    refine gj_il3 dX9_findFar_55 ?_
                    refine gj_imul dX9_findFar_56 ?_
                    refine gj_iald dX9_findFar_57 (upw_o (by decide) q38) rfl rfl (by omega) ?_
                    refine gj_is4 dX9_findFar_58 rfl rfl ?_
                    refine gj_al0 dX9_findFar_60 ?_
                    refine gj_get dX9_findFar_61 fX9_25 (upw_o (by decide) q32) rfl rfl ?_
                    refine gj_iconst dX9_findFar_64 ?_
                    refine gj_il3 dX9_findFar_65 ?_
                    refine gj_imul dX9_findFar_66 ?_
                    refine gj_iconst dX9_findFar_67 ?_
                    refine gj_iadd dX9_findFar_68 ?_
                    refine gj_iald dX9_findFar_69 (upw_o (by decide) q38) rfl rfl (by omega) ?_
                    refine gj_is5 dX9_findFar_70 rfl rfl ?_
                    refine gj_al0 dX9_findFar_72 ?_
                    refine gj_get dX9_findFar_73 fX9_40 (upw_o (by decide) q32) rfl rfl ?_
                    refine gj_il4 dX9_findFar_76 ?_
                    refine gj_al0 dX9_findFar_78 ?_
                    refine gj_get dX9_findFar_79 fX9_40 (upw_o (by decide) q32) rfl rfl ?_
                    refine gj_il5 dX9_findFar_82 ?_
                    refine gj_iald dX9_findFar_84 upw_s rfl rfl (by omega) ?_
                    refine gj_al0 dX9_findFar_85 ?_
                    refine gj_get dX9_findFar_86 fX9_25 (upw_o (by decide) q32) rfl rfl ?_
                    refine gj_iconst dX9_findFar_89 ?_
                    refine gj_il3 dX9_findFar_90 ?_
                    refine gj_imul dX9_findFar_91 ?_
                    refine gj_iconst dX9_findFar_92 ?_
                    refine gj_iadd dX9_findFar_93 ?_
                    refine gj_iald dX9_findFar_94 (upw_o (by decide) q38) rfl rfl (by omega) ?_
                    refine gj_iadd dX9_findFar_95 ?_
                    refine gj_al0 dX9_findFar_96 ?_
                    refine gj_get dX9_findFar_97 fX9_40 (upw_o (by decide) q32) rfl rfl ?_
                    refine gj_il4 dX9_findFar_100 ?_
                    refine gj_iald dX9_findFar_102 upw_s rfl rfl (by omega) ?_
                    refine gj_cS2r dX9_findFar_103 mX9_140 hX9_lesser (by omega) rfl (tX9_lesser  (by omega) (by omega) (by omega)) ?_
                    refine gj_iast dX9_findFar_106 upw_s rfl rfl (by omega) ?_
                    refine gj_al0 dX9_findFar_107 ?_
                    refine gj_get dX9_findFar_108 fX9_40 (upw_o (by decide) (upw_o (by decide) q32)) rfl rfl ?_
                    refine gj_il5 dX9_findFar_111 ?_
                    refine gj_al0 dX9_findFar_113 ?_
                    refine gj_get dX9_findFar_114 fX9_40 (upw_o (by decide) (upw_o (by decide) q32)) rfl rfl ?_
                    refine gj_il4 dX9_findFar_117 ?_
                    refine gj_iald dX9_findFar_119 upw_s rfl rfl (by omega) ?_
                    refine gj_al0 dX9_findFar_120 ?_
                    refine gj_get dX9_findFar_121 fX9_25 (upw_o (by decide) (upw_o (by decide) q32)) rfl rfl ?_
                    refine gj_iconst dX9_findFar_124 ?_
                    refine gj_il3 dX9_findFar_125 ?_
                    refine gj_imul dX9_findFar_126 ?_
                    refine gj_iconst dX9_findFar_127 ?_
                    refine gj_iadd dX9_findFar_128 ?_
                    refine gj_iald dX9_findFar_129 (upw_o (by decide) (upw_o (by decide) q38)) rfl rfl (by omega) ?_
                    refine gj_iadd dX9_findFar_130 ?_
                    refine gj_al0 dX9_findFar_131 ?_
                    refine gj_get dX9_findFar_132 fX9_40 (upw_o (by decide) (upw_o (by decide) q32)) rfl rfl ?_
                    refine gj_il5 dX9_findFar_135 ?_
                    refine gj_iald dX9_findFar_137 upw_s rfl rfl (by omega) ?_
                    have l3 := rl_le g (rd (3 * r)) (rd (3 * r + 1)) (rd (3 * r + 2)) (rd (3 * r + 1))
                    have l4 := rl_le g (rd (3 * r)) (rd (3 * r + 1)) (rd (3 * r + 2)) (rd (3 * r))
                    refine gj_cS2r dX9_findFar_138 mX9_140 hX9_lesser (by omega) rfl (tX9_lesser  (by omega) (by rw [upf_s]; omega) (by rw [upf_o _ _ (by omega)]; omega)) ?_
                    refine gj_iast dX9_findFar_141 upw_s rfl rfl (by omega) ?_
                    refine gj_ii3 dX9_findFar_142 rfl rfl ?_
                    refine gj_goto dX9_findFar_145 ?_
                    refine gj_dr4 ?_
                    refine gj_dr5 ?_
                    rw [upw_upw, upw_upw]
                    exact ih42 _ _ (by omega) (rl2 hE hG ht hr.1 (by omega) hg.1 hg.2.1 hg.2.2) (by omega)
              exact loop42 _ f 0 (by omega) ⟨hf.1, hf.2, edc_0 _ _ _ _ _ _ _⟩ (Nat.lt_succ_self _)
        exact loop34 _ _ _ (by omega) (far0_lo hE hG ht (fun a ha => hf a ha.1 (by omega))) (Nat.lt_succ_self _)
      · refine gj_al0 dX9_findFar_8 ?_
        refine gj_get dX9_findFar_9 fX9_40 (upw_o (by decide) q32) rfl rfl ?_
        refine gj_il2 dX9_findFar_12 ?_
        refine gj_il2 dX9_findFar_13 ?_
        refine gj_il1 dX9_findFar_14 ?_
        refine gj_icmp_ne dX9_findFar_15 (by omega) (fun h15 => ?_) (fun h15 => ?_)
        · refine gj_sipush dX9_findFar_22 rfl ?_
          refine gj_iast dX9_findFar_25 upw_s rfl rfl (by omega) ?_
          refine gj_ii2 dX9_findFar_26 rfl rfl ?_
          refine gj_goto dX9_findFar_29 ?_
          rw [upw_upw]
          exact ih2 _ _ (by omega) (ini_s hf (by rw [if_neg h15])) (by omega)
        · refine gj_iconst dX9_findFar_18 ?_
          refine gj_goto dX9_findFar_19 ?_
          refine gj_iast dX9_findFar_25 upw_s rfl rfl (by omega) ?_
          refine gj_ii2 dX9_findFar_26 rfl rfl ?_
          refine gj_goto dX9_findFar_29 ?_
          rw [upw_upw]
          exact ih2 _ _ (by omega) (ini_s hf (by rw [if_pos (by omega)])) (by omega)
  exact loop2 _ fr 0 (by omega) (fun a h0 h1 => absurd h1 (by omega)) (Nat.lt_succ_self _)
