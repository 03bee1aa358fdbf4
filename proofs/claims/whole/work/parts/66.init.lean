/-! rows for new cells, with their numbers written out; constructors -/
section GK
variable {l : Launch} {x : Cx} {y : MI} {d mc ms nf : Nat} {Q : QT} {kc ks n : Nat} {w : AW} {pc nx tg : Nat} {S : List AV}
theorem gj_newO {j ci N n2 kc2 ks2 : Nat} {L : List (Option AV)} {C : String} {T : u_T} {ty : Nat → FieldType} {fs : List AV} (hn : n + 1 = n2) (hk : kc + 1 = kc2) (hs : ks + N = ks2) (dg : AtI y pc (.new j) 3 nx) (hcl : Cond.classLink y.1.cls j C ∈ lw_g) (hins : Cond.instantiable C N ∈ lw_g) (hini : Cond.initialized C ∈ lw_g) (hc : vwCl[ci]? = some (C, T, N)) (hty : ∀ k, k < N → parseFieldDescriptor (T k).2.2.1 = some (ty k)) (hfs : ∀ b i, i < N → defaultValue (ty i) = vp_V (fs.map (cv b)) i) (kk : Gj l x y d mc ms nf Q kc ks n2 (upw w n (cO ci fs)) nx L (vR n :: S)) : Gj l x y d mc ms nf Q kc2 ks2 n w pc L S := by
  subst hn; subst hk; subst hs
  exact gj_new dg hcl hins hini hc hty hfs kk
theorem gj_newI2 {N n2 kc2 ks2 : Nat} {L : List (Option AV)} {z : Int} (hn : n + 1 = n2) (hk : kc + 1 = kc2) (hs : ks + N = ks2) (dg : AtI y pc (.newarray .int) 2 nx) (hz : z = (N : Int)) (hN : Nat.ble N 4096 = true) (kk : Gj l x y d mc ms nf Q kc ks n2 (upw w n (cI N (fun _ => 0))) nx L (vR n :: S)) : Gj l x y d mc ms nf Q kc2 ks2 n w pc L (vI z :: S) := by
  subst hn; subst hk; subst hs
  exact gj_newI dg hz hN kk
theorem gj_newZ2 {N n2 kc2 ks2 : Nat} {L : List (Option AV)} {z : Int} (hn : n + 1 = n2) (hk : kc + 1 = kc2) (hs : ks + N = ks2) (dg : AtI y pc (.newarray .boolean) 2 nx) (hz : z = (N : Int)) (hN : Nat.ble N 4096 = true) (kk : Gj l x y d mc ms nf Q kc ks n2 (upw w n (cZ N (fun _ => 0))) nx L (vR n :: S)) : Gj l x y d mc ms nf Q kc2 ks2 n w pc L (vI z :: S) := by
  subst hn; subst hk; subst hs
  exact gj_newZ dg hz hN kk
theorem gj_newR2 {j N n2 kc2 ks2 : Nat} {L : List (Option AV)} {z : Int} (hn : n + 1 = n2) (hk : kc + 1 = kc2) (hs : ks + N = ks2) (dg : AtI y pc (.anewarray j) 3 nx) (hcl : Cond.classLink y.1.cls j "BishopsPeace$Sheet" ∈ lw_g) (hz : z = (N : Int)) (hN : Nat.ble N 4096 = true) (kk : Gj l x y d mc ms nf Q kc ks n2 (upw w n (cR N (fun _ => none))) nx L (vR n :: S)) : Gj l x y d mc ms nf Q kc2 ks2 n w pc L (vI z :: S) := by
  subst hn; subst hk; subst hs
  exact gj_newR dg hcl hz hN kk
theorem gj_cN0v {L : List (Option AV)} {j k0 mc2 ms2 n2 kc2 ks2 : Nat} {y2 : MI} {P : AW → Prop} (hn : n + mc2 = n2) (hk : kc + mc2 = kc2) (hs : ks + ms2 = ks2) (dg : AtI y pc (.invokespecial j) 3 nx) (hl : Cond.methodLink y.1.cls j y2.1 ∈ lw_g) (hc : CN y2 0) (hd : 1 ≤ d) (hst : Nat.ble (wS S) 8 = true) (hM : Mt l x y2 (d - 1) mc2 ms2 n w [vR k0] (Wv P)) (kk : ∀ w2, P w2 → Gj l x y d mc ms nf Q kc ks n2 w2 nx L S) : Gj l x y d mc ms nf Q kc2 ks2 n w pc L (vR k0 :: S) := by
  subst hn; subst hk; subst hs
  exact gj_callN (As := []) dg hl hc hd hst rfl hM (fun v w2 h => by obtain ⟨rfl, h⟩ := h; exact kk w2 h)
theorem gj_cN1v {a1 : AV} {L : List (Option AV)} {j k0 mc2 ms2 n2 kc2 ks2 : Nat} {y2 : MI} {P : AW → Prop} (hn : n + mc2 = n2) (hk : kc + mc2 = kc2) (hs : ks + ms2 = ks2) (dg : AtI y pc (.invokespecial j) 3 nx) (hl : Cond.methodLink y.1.cls j y2.1 ∈ lw_g) (hc : CN y2 1) (hd : 1 ≤ d) (hst : Nat.ble (wS S) 8 = true) (hM : Mt l x y2 (d - 1) mc2 ms2 n w [vR k0, a1] (Wv P)) (kk : ∀ w2, P w2 → Gj l x y d mc ms nf Q kc ks n2 w2 nx L S) : Gj l x y d mc ms nf Q kc2 ks2 n w pc L (a1 :: vR k0 :: S) := by
  subst hn; subst hk; subst hs
  exact gj_callN (As := [a1]) dg hl hc hd hst rfl hM (fun v w2 h => by obtain ⟨rfl, h⟩ := h; exact kk w2 h)
theorem gj_cN2v {a1 a2 : AV} {L : List (Option AV)} {j k0 mc2 ms2 n2 kc2 ks2 : Nat} {y2 : MI} {P : AW → Prop} (hn : n + mc2 = n2) (hk : kc + mc2 = kc2) (hs : ks + ms2 = ks2) (dg : AtI y pc (.invokespecial j) 3 nx) (hl : Cond.methodLink y.1.cls j y2.1 ∈ lw_g) (hc : CN y2 2) (hd : 1 ≤ d) (hst : Nat.ble (wS S) 8 = true) (hM : Mt l x y2 (d - 1) mc2 ms2 n w [vR k0, a1, a2] (Wv P)) (kk : ∀ w2, P w2 → Gj l x y d mc ms nf Q kc ks n2 w2 nx L S) : Gj l x y d mc ms nf Q kc2 ks2 n w pc L (a2 :: a1 :: vR k0 :: S) := by
  subst hn; subst hk; subst hs
  exact gj_callN (As := [a1, a2]) dg hl hc hd hst rfl hM (fun v w2 h => by obtain ⟨rfl, h⟩ := h; exact kk w2 h)
end GK
/-! what the constructors lay -/
def ruF (n : Int) : Int → Int := fun j => if 0 ≤ j ∧ j < n then (if j % 2 = 0 then 6 else 18) else 0
def facF (n : Int) : Int → Int := fun j => if (0 ≤ j ∧ j < 3 * n) ∧ j % 3 = 2 then 4 else 0
theorem ruF_0 : ruF 0 = fun _ => 0 := by
  funext j
  unfold ruF
  rw [if_neg (by omega)]
theorem facF_0 : facF 0 = fun _ => 0 := by
  funext j
  unfold facF
  rw [if_neg (by omega)]
theorem ruF_s {i v : Int} (hi : 0 ≤ i) (hv : v = if i % 2 = 0 then 6 else 18) : upf (ruF i) i v = ruF (i + 1) := by
  funext j
  unfold upf ruF
  by_cases e : j = i
  · rw [if_pos e, if_pos (by omega), hv, e]
  · rw [if_neg e]
    by_cases c : 0 ≤ j ∧ j < i
    · rw [if_pos c, if_pos (show 0 ≤ j ∧ j < i + 1 by omega)]
    · rw [if_neg c, if_neg (show ¬ (0 ≤ j ∧ j < i + 1) by omega)]
theorem facF_s {i : Int} (hi : 0 ≤ i) : upf (facF i) (3 * i + 2) 4 = facF (i + 1) := by
  funext j
  unfold upf facF
  by_cases e : j = 3 * i + 2
  · rw [if_pos e, if_pos (by omega)]
  · rw [if_neg e]
    by_cases c : (0 ≤ j ∧ j < 3 * i) ∧ j % 3 = 2
    · rw [if_pos c, if_pos (by omega)]
    · rw [if_neg c, if_neg (by omega)]
theorem ruF_2 {i : Int} (hi : 0 ≤ i) : upf (upf (ruF (2 * i)) (2 * i) 6) (2 * i + 1) 18 = ruF (2 * (i + 1)) := by
  rw [ruF_s (by omega) (by rw [if_pos (by omega)]), ruF_s (by omega) (by rw [if_neg (by omega)]), show 2 * (i + 1) = 2 * i + 1 + 1 by omega]
theorem ruF_ok : RuOK (ruF 8) := by
  intro j h0 h1
  unfold ruF
  (repeat' split) <;> omega
theorem facF_ok : FaOK (facF 8) := by
  intro m h0 h1
  unfold facF
  rw [if_neg (by omega), if_neg (by omega), if_pos (by omega)]
  omega
theorem upw_id {w : AW} {k : Nat} {c : AC} (h : w k = c) : w = upw w k c := (upw_same h).symm
set_option maxRecDepth 20000 in
set_option maxHeartbeats 4000000 in
theorem tX0_init {l : Launch} {x : Cx} {d : Nat} {w : AW}  (hd : 1 ≤ d) (q7 : w 7 = cO 0 dfl0) : Mt l x iX0_init d 1 8 8 w [vR 7] (Wv (fun w2 => (w2 7 = cO 0 [vR 8] ∧ w2 8 = cI 8 (ruF 8)) ∧ ∀ k : Nat, k < 7 → w2 k = w k)) := by
  refine Mt.of (L0 := [some (vR 7), none]) rfl rfl rfl ?_
  refine gj_al0 dX0_init_0 ?_
  refine gj_obj dX0_init_1 mX0_3 (by omega) rfl ?_
  refine gj_al0 dX0_init_4 ?_
  refine gj_bipush dX0_init_5 rfl ?_
  refine gj_newI2 (kc := 0) (ks := 0) (N := 8) (n2 := 9) rfl rfl rfl dX0_init_7 rfl rfl ?_
  refine gj_pA0 dX0_init_9 fX0_9 rfl ⟨_, _, rfl⟩ (upw_o (by decide) q7) rfl ?_
  refine gj_iconst dX0_init_12 ?_
  refine gj_is1 dX0_init_13 rfl rfl ?_
  refine gj_eq rfl rfl (show (upw (upw w 8 (cI 8 (fun _ => 0))) 7 (cO 0 [vR 8])) = upw (upw (upw w 8 (cI 8 (fun _ => 0))) 7 (cO 0 [vR 8])) 8 (cI 8 (ruF (2 * 0))) from (by rw [show (2 : Int) * 0 = 0 from rfl, ruF_0]; exact upw_id (upw_o (by decide) upw_s))) ?_
  have loop14 : ∀ (k : Nat), ∀ (i : Int), (0 ≤ i ∧ i ≤ 4) → (4 - i).toNat < k → Gj l x iX0_init d 1 8 9 (Wv (fun w2 => (w2 7 = cO 0 [vR 8] ∧ w2 8 = cI 8 (ruF 8)) ∧ ∀ k : Nat, k < 7 → w2 k = w k)) 0 0 9 (upw (upw (upw w 8 (cI 8 (fun _ => 0))) 7 (cO 0 [vR 8])) 8 (cI 8 (ruF (2 * i)))) 14 [some (vR 7), some (vI i)] [] := by
    intro k
    induction k with
    | zero => intro _ _ hm; exact absurd hm (Nat.not_lt_zero _)
    | succ k ih14 =>
      intro i  hi hm14
      refine gj_il1 dX0_init_14 ?_
      refine gj_iconst dX0_init_15 ?_
      refine gj_icmp_ge dX0_init_16 (by omega) (fun h16 => ?_) (fun h16 => ?_)
      · exact gj_vret dX0_init_47 rfl (wv_v ⟨⟨(upw_o (by decide) upw_s), (by rw [show (8 : Int) = 2 * i by omega]; exact upw_s)⟩, (fun (k : Nat) (hk : k < 7) => (upw_o (by omega) (upw_o (by omega) (upw_o (by omega) rfl)) : upw (upw (upw w 8 (cI 8 (fun _ => 0))) 7 (cO 0 [vR 8])) 8 _ k = w k))⟩)
      · refine gj_al0 dX0_init_19 ?_
        refine gj_get dX0_init_20 fX0_9 (upw_o (by decide) upw_s) rfl rfl ?_
        refine gj_iconst dX0_init_23 ?_
        refine gj_il1 dX0_init_24 ?_
        refine gj_imul dX0_init_25 ?_
        refine gj_bipush dX0_init_26 rfl ?_
        refine gj_iast dX0_init_28 upw_s rfl rfl (by omega) ?_
        refine gj_al0 dX0_init_29 ?_
        refine gj_get dX0_init_30 fX0_9 (upw_o (by decide) (upw_o (by decide) upw_s)) rfl rfl ?_
        refine gj_iconst dX0_init_33 ?_
        refine gj_il1 dX0_init_34 ?_
        refine gj_imul dX0_init_35 ?_
        refine gj_iconst dX0_init_36 ?_
        refine gj_iadd dX0_init_37 ?_
        refine gj_bipush dX0_init_38 rfl ?_
        refine gj_iast dX0_init_40 upw_s rfl rfl (by omega) ?_
        refine gj_ii1 dX0_init_41 rfl rfl ?_
        refine gj_goto dX0_init_44 ?_
        rw [upw_upw, upw_upw, ruF_2 hi.1]
        exact ih14 _ (by omega) (by omega)
  exact loop14 _ 0 (by omega) (Nat.lt_succ_self _)
set_option maxRecDepth 20000 in
set_option maxHeartbeats 4000000 in
theorem tX1_init {l : Launch} {x : Cx} {d : Nat} {w : AW}  (hd : 1 ≤ d) (q15 : w 15 = cO 1 dfl1) : Mt l x iX1_init d 0 0 16 w [vR 15, vR 9] (Wv (fun w2 => (w2 15 = cO 1 [vR 9, vI 5, vI 2, vI 0]) ∧ ∀ k : Nat, k < 15 → w2 k = w k)) := by
  refine Mt.of (L0 := [some (vR 15), some (vR 9)]) rfl rfl rfl ?_
  refine gj_al0 dX1_init_0 ?_
  refine gj_obj dX1_init_1 mX1_3 (by omega) rfl ?_
  refine gj_al0 dX1_init_4 ?_
  refine gj_al1 dX1_init_5 ?_
  refine gj_pR0 dX1_init_6 fX1_9 rfl ⟨_, _, rfl⟩ q15 rfl ?_
  refine gj_al0 dX1_init_9 ?_
  refine gj_iconst dX1_init_10 ?_
  refine gj_pI1 dX1_init_11 fX1_15 upw_s rfl ?_
  refine gj_al0 dX1_init_14 ?_
  refine gj_iconst dX1_init_15 ?_
  refine gj_pI2 dX1_init_16 fX1_19 upw_s rfl ?_
  refine gj_al0 dX1_init_19 ?_
  refine gj_iconst dX1_init_20 ?_
  refine gj_pI3 dX1_init_21 fX1_22 upw_s rfl ?_
  exact gj_vret dX1_init_24 rfl (wv_v ⟨upw_s, (fun k hk => upw_o (by omega) ((fun k hk => upw_o (by omega) ((fun k hk => upw_o (by omega) ((fun k hk => upw_o (by omega) ((fun (k : Nat) (_ : k < 15) => rfl) k hk)) k hk)) k hk)) k hk))⟩)
set_option maxRecDepth 20000 in
set_option maxHeartbeats 4000000 in
theorem tX2_init {l : Launch} {x : Cx} {d : Nat} {w : AW}  (hd : 1 ≤ d) (q16 : w 16 = cO 2 dfl2) : Mt l x iX2_init d 2 16 17 w [vR 16, vR 1, vR 9] (Wv (fun w2 => (w2 16 = cO 2 [vR 1, vR 9, vR 17, vR 18, vI 0, vI 0, vI 0, vI (-1), vI (-1), vI 0] ∧ w2 17 = cI 8 (fun _ => 0) ∧ w2 18 = cI 8 (fun _ => 0)) ∧ ∀ k : Nat, k < 16 → w2 k = w k)) := by
  refine Mt.of (L0 := [some (vR 16), some (vR 1), some (vR 9)]) rfl rfl rfl ?_
  refine gj_al0 dX2_init_0 ?_
  refine gj_obj dX2_init_1 mX2_3 (by omega) rfl ?_
  refine gj_al0 dX2_init_4 ?_
  refine gj_bipush dX2_init_5 rfl ?_
  refine gj_newI2 (kc := 1) (ks := 8) (N := 8) (n2 := 18) rfl rfl rfl dX2_init_7 rfl rfl ?_
  refine gj_pA2 dX2_init_9 fX2_9 rfl ⟨_, _, rfl⟩ (upw_o (by decide) q16) rfl ?_
  refine gj_al0 dX2_init_12 ?_
  refine gj_bipush dX2_init_13 rfl ?_
  refine gj_newI2 (kc := 0) (ks := 0) (N := 8) (n2 := 19) rfl rfl rfl dX2_init_15 rfl rfl ?_
  refine gj_pA3 dX2_init_17 fX2_15 rfl ⟨_, _, rfl⟩ (upw_o (by decide) upw_s) rfl ?_
  refine gj_al0 dX2_init_20 ?_
  refine gj_al1 dX2_init_21 ?_
  refine gj_pR0 dX2_init_22 fX2_18 rfl ⟨_, _, rfl⟩ upw_s rfl ?_
  refine gj_al0 dX2_init_25 ?_
  refine gj_al2 dX2_init_26 ?_
  refine gj_pR1 dX2_init_27 fX2_22 rfl ⟨_, _, rfl⟩ upw_s rfl ?_
  refine gj_al0 dX2_init_30 ?_
  refine gj_iconst dX2_init_31 ?_
  refine gj_pI7 dX2_init_32 fX2_26 upw_s rfl ?_
  refine gj_al0 dX2_init_35 ?_
  refine gj_iconst dX2_init_36 ?_
  refine gj_pI8 dX2_init_37 fX2_30 upw_s rfl ?_
  refine gj_al0 dX2_init_40 ?_
  refine gj_iconst dX2_init_41 ?_
  refine gj_pI9 dX2_init_42 fX2_33 upw_s rfl ?_
  exact gj_vret dX2_init_45 rfl (wv_v ⟨⟨upw_s, (upw_o (by decide) (upw_o (by decide) (upw_o (by decide) (upw_o (by decide) (upw_o (by decide) (upw_o (by decide) (upw_o (by decide) (upw_o (by decide) upw_s)))))))), (upw_o (by decide) (upw_o (by decide) (upw_o (by decide) (upw_o (by decide) (upw_o (by decide) (upw_o (by decide) upw_s))))))⟩, (fun k hk => upw_o (by omega) ((fun k hk => upw_o (by omega) ((fun k hk => upw_o (by omega) ((fun k hk => upw_o (by omega) ((fun k hk => upw_o (by omega) ((fun k hk => upw_o (by omega) ((fun k hk => upw_o (by omega) ((fun k hk => upw_o (by omega) ((fun k hk => upw_o (by omega) ((fun (k : Nat) (_ : k < 16) => rfl) k hk)) k hk)) k hk)) k hk)) k hk)) k hk)) k hk)) k hk)) k hk))⟩)
set_option maxRecDepth 20000 in
set_option maxHeartbeats 4000000 in
theorem tX3_init {l : Launch} {x : Cx} {d : Nat} {w : AW}  (hd : 1 ≤ d) (q12 : w 12 = cO 3 dfl3) : Mt l x iX3_init d 2 48 13 w [vR 12, vR 1, vR 9] (Wv (fun w2 => (w2 12 = cO 3 [vR 1, vR 9, vR 13, vR 14, vI 0] ∧ w2 13 = cI 24 (fun _ => 0) ∧ w2 14 = cI 24 (fun _ => 0)) ∧ ∀ k : Nat, k < 12 → w2 k = w k)) := by
  refine Mt.of (L0 := [some (vR 12), some (vR 1), some (vR 9)]) rfl rfl rfl ?_
  refine gj_al0 dX3_init_0 ?_
  refine gj_obj dX3_init_1 mX3_3 (by omega) rfl ?_
  refine gj_al0 dX3_init_4 ?_
  refine gj_bipush dX3_init_5 rfl ?_
  refine gj_newI2 (kc := 1) (ks := 24) (N := 24) (n2 := 14) rfl rfl rfl dX3_init_7 rfl rfl ?_
  refine gj_pA2 dX3_init_9 fX3_11 rfl ⟨_, _, rfl⟩ (upw_o (by decide) q12) rfl ?_
  refine gj_al0 dX3_init_12 ?_
  refine gj_bipush dX3_init_13 rfl ?_
  refine gj_newI2 (kc := 0) (ks := 0) (N := 24) (n2 := 15) rfl rfl rfl dX3_init_15 rfl rfl ?_
  refine gj_pA3 dX3_init_17 fX3_15 rfl ⟨_, _, rfl⟩ (upw_o (by decide) upw_s) rfl ?_
  refine gj_al0 dX3_init_20 ?_
  refine gj_al1 dX3_init_21 ?_
  refine gj_pR0 dX3_init_22 fX3_18 rfl ⟨_, _, rfl⟩ upw_s rfl ?_
  refine gj_al0 dX3_init_25 ?_
  refine gj_al2 dX3_init_26 ?_
  refine gj_pR1 dX3_init_27 fX3_22 rfl ⟨_, _, rfl⟩ upw_s rfl ?_
  refine gj_al0 dX3_init_30 ?_
  refine gj_iconst dX3_init_31 ?_
  refine gj_pI4 dX3_init_32 fX3_26 upw_s rfl ?_
  exact gj_vret dX3_init_35 rfl (wv_v ⟨⟨upw_s, (upw_o (by decide) (upw_o (by decide) (upw_o (by decide) (upw_o (by decide) (upw_o (by decide) (upw_o (by decide) upw_s)))))), (upw_o (by decide) (upw_o (by decide) (upw_o (by decide) (upw_o (by decide) upw_s))))⟩, (fun k hk => upw_o (by omega) ((fun k hk => upw_o (by omega) ((fun k hk => upw_o (by omega) ((fun k hk => upw_o (by omega) ((fun k hk => upw_o (by omega) ((fun k hk => upw_o (by omega) ((fun k hk => upw_o (by omega) ((fun (k : Nat) (_ : k < 12) => rfl) k hk)) k hk)) k hk)) k hk)) k hk)) k hk)) k hk))⟩)
set_option maxRecDepth 20000 in
set_option maxHeartbeats 4000000 in
theorem tX4_init {l : Launch} {x : Cx} {d : Nat} {w : AW}  (hd : 1 ≤ d) (q19 : w 19 = cO 4 dfl4) : Mt l x iX4_init d 3 18 20 w [vR 19, vR 9] (Wv (fun w2 => (w2 19 = cO 4 [vR 9, vR 20, vR 21, vR 22, vI 0] ∧ w2 20 = cI 6 (fun _ => 0) ∧ w2 21 = cI 6 (fun _ => 0) ∧ w2 22 = cZ 6 (fun _ => 0)) ∧ ∀ k : Nat, k < 19 → w2 k = w k)) := by
  refine Mt.of (L0 := [some (vR 19), some (vR 9)]) rfl rfl rfl ?_
  refine gj_al0 dX4_init_0 ?_
  refine gj_obj dX4_init_1 mX4_3 (by omega) rfl ?_
  refine gj_al0 dX4_init_4 ?_
  refine gj_bipush dX4_init_5 rfl ?_
  refine gj_newI2 (kc := 2) (ks := 12) (N := 6) (n2 := 21) rfl rfl rfl dX4_init_7 rfl rfl ?_
  refine gj_pA1 dX4_init_9 fX4_11 rfl ⟨_, _, rfl⟩ (upw_o (by decide) q19) rfl ?_
  refine gj_al0 dX4_init_12 ?_
  refine gj_bipush dX4_init_13 rfl ?_
  refine gj_newI2 (kc := 1) (ks := 6) (N := 6) (n2 := 22) rfl rfl rfl dX4_init_15 rfl rfl ?_
  refine gj_pA2 dX4_init_17 fX4_15 rfl ⟨_, _, rfl⟩ (upw_o (by decide) upw_s) rfl ?_
  refine gj_al0 dX4_init_20 ?_
  refine gj_bipush dX4_init_21 rfl ?_
  refine gj_newZ2 (kc := 0) (ks := 0) (N := 6) (n2 := 23) rfl rfl rfl dX4_init_23 rfl rfl ?_
  refine gj_pA3 dX4_init_25 fX4_18 rfl ⟨_, _, rfl⟩ (upw_o (by decide) upw_s) rfl ?_
  refine gj_al0 dX4_init_28 ?_
  refine gj_al1 dX4_init_29 ?_
  refine gj_pR0 dX4_init_30 fX4_22 rfl ⟨_, _, rfl⟩ upw_s rfl ?_
  refine gj_al0 dX4_init_33 ?_
  refine gj_iconst dX4_init_34 ?_
  refine gj_pI4 dX4_init_35 fX4_26 upw_s rfl ?_
  exact gj_vret dX4_init_38 rfl (wv_v ⟨⟨upw_s, (upw_o (by decide) (upw_o (by decide) (upw_o (by decide) (upw_o (by decide) (upw_o (by decide) (upw_o (by decide) (upw_o (by decide) upw_s))))))), (upw_o (by decide) (upw_o (by decide) (upw_o (by decide) (upw_o (by decide) (upw_o (by decide) upw_s))))), (upw_o (by decide) (upw_o (by decide) (upw_o (by decide) upw_s)))⟩, (fun k hk => upw_o (by omega) ((fun k hk => upw_o (by omega) ((fun k hk => upw_o (by omega) ((fun k hk => upw_o (by omega) ((fun k hk => upw_o (by omega) ((fun k hk => upw_o (by omega) ((fun k hk => upw_o (by omega) ((fun k hk => upw_o (by omega) ((fun (k : Nat) (_ : k < 19) => rfl) k hk)) k hk)) k hk)) k hk)) k hk)) k hk)) k hk)) k hk))⟩)
set_option maxRecDepth 20000 in
set_option maxHeartbeats 4000000 in
theorem tX5_init {l : Launch} {x : Cx} {d : Nat} {w : AW}  (hd : 1 ≤ d) (q9 : w 9 = cO 5 dfl5) : Mt l x iX5_init d 2 32 10 w [vR 9, vR 7] (Wv (fun w2 => (w2 9 = cO 5 [vR 7, vR 10, vR 11, vI 0, vI 0, vI 0] ∧ w2 10 = cI 24 (facF 8) ∧ w2 11 = cI 8 (fun _ => 0)) ∧ ∀ k : Nat, k < 9 → w2 k = w k)) := by
  refine Mt.of (L0 := [some (vR 9), some (vR 7), none]) rfl rfl rfl ?_
  refine gj_al0 dX5_init_0 ?_
  refine gj_obj dX5_init_1 mX5_3 (by omega) rfl ?_
  refine gj_al0 dX5_init_4 ?_
  refine gj_bipush dX5_init_5 rfl ?_
  refine gj_newI2 (kc := 1) (ks := 8) (N := 24) (n2 := 11) rfl rfl rfl dX5_init_7 rfl rfl ?_
  refine gj_pA1 dX5_init_9 fX5_11 rfl ⟨_, _, rfl⟩ (upw_o (by decide) q9) rfl ?_
  refine gj_al0 dX5_init_12 ?_
  refine gj_bipush dX5_init_13 rfl ?_
  refine gj_newI2 (kc := 0) (ks := 0) (N := 8) (n2 := 12) rfl rfl rfl dX5_init_15 rfl rfl ?_
  refine gj_pA2 dX5_init_17 fX5_15 rfl ⟨_, _, rfl⟩ (upw_o (by decide) upw_s) rfl ?_
  refine gj_al0 dX5_init_20 ?_
  refine gj_al1 dX5_init_21 ?_
  refine gj_pR0 dX5_init_22 fX5_18 rfl ⟨_, _, rfl⟩ upw_s rfl ?_
  refine gj_iconst dX5_init_25 ?_
  refine gj_is2 dX5_init_26 rfl rfl ?_
  refine gj_eq rfl rfl (show (upw (upw (upw (upw (upw w 10 (cI 24 (fun _ => 0))) 9 (cO 5 [vN, vR 10, vN, vI 0, vI 0, vI 0])) 11 (cI 8 (fun _ => 0))) 9 (cO 5 [vN, vR 10, vR 11, vI 0, vI 0, vI 0])) 9 (cO 5 [vR 7, vR 10, vR 11, vI 0, vI 0, vI 0])) = upw (upw (upw (upw (upw (upw w 10 (cI 24 (fun _ => 0))) 9 (cO 5 [vN, vR 10, vN, vI 0, vI 0, vI 0])) 11 (cI 8 (fun _ => 0))) 9 (cO 5 [vN, vR 10, vR 11, vI 0, vI 0, vI 0])) 9 (cO 5 [vR 7, vR 10, vR 11, vI 0, vI 0, vI 0])) 10 (cI 24 (facF 0)) from (by rw [facF_0]; exact upw_id (upw_o (by decide) (upw_o (by decide) (upw_o (by decide) (upw_o (by decide) upw_s)))))) ?_
  have loop27 : ∀ (k : Nat), ∀ (i : Int), (0 ≤ i ∧ i ≤ 8) → (8 - i).toNat < k → Gj l x iX5_init d 2 32 12 (Wv (fun w2 => (w2 9 = cO 5 [vR 7, vR 10, vR 11, vI 0, vI 0, vI 0] ∧ w2 10 = cI 24 (facF 8) ∧ w2 11 = cI 8 (fun _ => 0)) ∧ ∀ k : Nat, k < 9 → w2 k = w k)) 0 0 12 (upw (upw (upw (upw (upw (upw w 10 (cI 24 (fun _ => 0))) 9 (cO 5 [vN, vR 10, vN, vI 0, vI 0, vI 0])) 11 (cI 8 (fun _ => 0))) 9 (cO 5 [vN, vR 10, vR 11, vI 0, vI 0, vI 0])) 9 (cO 5 [vR 7, vR 10, vR 11, vI 0, vI 0, vI 0])) 10 (cI 24 (facF i))) 27 [some (vR 9), some (vR 7), some (vI i)] [] := by
    intro k
    induction k with
    | zero => intro _ _ hm; exact absurd hm (Nat.not_lt_zero _)
    | succ k ih27 =>
      intro i  hi hm27
      refine gj_il2 dX5_init_27 ?_
      refine gj_bipush dX5_init_28 rfl ?_
      refine gj_icmp_ge dX5_init_30 (by omega) (fun h30 => ?_) (fun h30 => ?_)
      · refine gj_al0 dX5_init_50 ?_
        refine gj_iconst dX5_init_51 ?_
        refine gj_pI3 dX5_init_52 fX5_22 (upw_o (by decide) upw_s) rfl ?_
        refine gj_al0 dX5_init_55 ?_
        refine gj_iconst dX5_init_56 ?_
        refine gj_pI4 dX5_init_57 fX5_26 upw_s rfl ?_
        refine gj_al0 dX5_init_60 ?_
        refine gj_iconst dX5_init_61 ?_
        refine gj_pI5 dX5_init_62 fX5_29 upw_s rfl ?_
        exact gj_vret dX5_init_65 rfl (wv_v ⟨⟨upw_s, (by rw [show (8 : Int) = i by omega]; exact (upw_o (by decide) (upw_o (by decide) (upw_o (by decide) upw_s)))), (upw_o (by decide) (upw_o (by decide) (upw_o (by decide) (upw_o (by decide) (upw_o (by decide) (upw_o (by decide) upw_s))))))⟩, (fun k hk => upw_o (by omega) ((fun k hk => upw_o (by omega) ((fun k hk => upw_o (by omega) ((fun (k : Nat) (hk : k < 9) => ((upw_o (by omega) (upw_o (by omega) (upw_o (by omega) (upw_o (by omega) (upw_o (by omega) (upw_o (by omega) rfl)))))) : upw (upw (upw (upw (upw (upw w 10 (cI 24 (fun _ => 0))) 9 (cO 5 [vN, vR 10, vN, vI 0, vI 0, vI 0])) 11 (cI 8 (fun _ => 0))) 9 (cO 5 [vN, vR 10, vR 11, vI 0, vI 0, vI 0])) 9 (cO 5 [vR 7, vR 10, vR 11, vI 0, vI 0, vI 0])) 10 _ k = w k)) k hk)) k hk)) k hk))⟩)
      · refine gj_al0 dX5_init_33 ?_
        refine gj_get dX5_init_34 fX5_11 (upw_o (by decide) upw_s) rfl rfl ?_
        refine gj_il2 dX5_init_37 ?_
        refine gj_iconst dX5_init_38 ?_
        refine gj_imul dX5_init_39 ?_
        refine gj_iconst dX5_init_40 ?_
        refine gj_iadd dX5_init_41 ?_
        refine gj_iconst dX5_init_42 ?_
        refine gj_iast dX5_init_43 upw_s rfl rfl (by omega) ?_
        refine gj_ii2 dX5_init_44 rfl rfl ?_
        refine gj_goto dX5_init_47 ?_
        rw [upw_upw, show i * 3 + 2 = 3 * i + 2 by omega, facF_s hi.1]
        exact ih27 _ (by omega) (by omega)
  exact loop27 _ 0 (by omega) (Nat.lt_succ_self _)
set_option maxRecDepth 20000 in
set_option maxHeartbeats 4000000 in
theorem tX6_init {l : Launch} {x : Cx} {d : Nat} {w : AW}  (hd : 1 ≤ d) (q1 : w 1 = cO 6 dfl6) : Mt l x iX6_init d 5 147 2 w [vR 1] (Wv (fun w2 => (w2 1 = cO 6 [vR 2, vR 3, vR 4, vR 5, vR 6, vI 0, vI 0, vI (-1)] ∧ w2 2 = cI 47 (fun _ => 0) ∧ w2 3 = cI 12 (fun _ => 0) ∧ w2 4 = cI 12 (fun _ => 0) ∧ w2 5 = cI 12 (fun _ => 0) ∧ w2 6 = cI 64 (filF (fun _ => 0) 1000 64)) ∧ ∀ k : Nat, k < 1 → w2 k = w k)) := by
  refine Mt.of (L0 := [some (vR 1)]) rfl rfl rfl ?_
  refine gj_al0 dX6_init_0 ?_
  refine gj_obj dX6_init_1 mX6_3 (by omega) rfl ?_
  refine gj_al0 dX6_init_4 ?_
  refine gj_bipush dX6_init_5 rfl ?_
  refine gj_newI2 (kc := 4) (ks := 100) (N := 47) (n2 := 3) rfl rfl rfl dX6_init_7 rfl rfl ?_
  refine gj_pA0 dX6_init_9 fX6_11 rfl ⟨_, _, rfl⟩ (upw_o (by decide) q1) rfl ?_
  refine gj_al0 dX6_init_12 ?_
  refine gj_bipush dX6_init_13 rfl ?_
  refine gj_newI2 (kc := 3) (ks := 88) (N := 12) (n2 := 4) rfl rfl rfl dX6_init_15 rfl rfl ?_
  refine gj_pA1 dX6_init_17 fX6_15 rfl ⟨_, _, rfl⟩ (upw_o (by decide) upw_s) rfl ?_
  refine gj_al0 dX6_init_20 ?_
  refine gj_bipush dX6_init_21 rfl ?_
  refine gj_newI2 (kc := 2) (ks := 76) (N := 12) (n2 := 5) rfl rfl rfl dX6_init_23 rfl rfl ?_
  refine gj_pA2 dX6_init_25 fX6_18 rfl ⟨_, _, rfl⟩ (upw_o (by decide) upw_s) rfl ?_
  refine gj_al0 dX6_init_28 ?_
  refine gj_bipush dX6_init_29 rfl ?_
  refine gj_newI2 (kc := 1) (ks := 64) (N := 12) (n2 := 6) rfl rfl rfl dX6_init_31 rfl rfl ?_
  refine gj_pA3 dX6_init_33 fX6_21 rfl ⟨_, _, rfl⟩ (upw_o (by decide) upw_s) rfl ?_
  refine gj_al0 dX6_init_36 ?_
  refine gj_bipush dX6_init_37 rfl ?_
  refine gj_newI2 (kc := 0) (ks := 0) (N := 64) (n2 := 7) rfl rfl rfl dX6_init_39 rfl rfl ?_
  refine gj_pA4 dX6_init_41 fX6_24 rfl ⟨_, _, rfl⟩ (upw_o (by decide) upw_s) rfl ?_
  refine gj_al0 dX6_init_44 ?_
  refine gj_iconst dX6_init_45 ?_
  refine gj_pI5 dX6_init_46 fX6_27 upw_s rfl ?_
  refine gj_al0 dX6_init_49 ?_
  refine gj_iconst dX6_init_50 ?_
  refine gj_pI6 dX6_init_51 fX6_31 upw_s rfl ?_
  refine gj_al0 dX6_init_54 ?_
  refine gj_iconst dX6_init_55 ?_
  refine gj_pI7 dX6_init_56 fX6_34 upw_s rfl ?_
  refine gj_al0 dX6_init_59 ?_
  refine gj_get dX6_init_60 fX6_24 upw_s rfl rfl ?_
  refine gj_sipush dX6_init_63 rfl ?_
  refine gj_cS2v dX6_init_66 mX6_37 hJ7_fill_53178 (by omega) rfl (tFill (upw_o (by decide) (upw_o (by decide) (upw_o (by decide) (upw_o (by decide) upw_s)))) rfl rfl) (fun w66 P66 => ?_)
  obtain rfl := P66
  exact gj_vret dX6_init_69 rfl (wv_v ⟨⟨(upw_o (by decide) upw_s), (upw_o (by decide) (upw_o (by decide) (upw_o (by decide) (upw_o (by decide) (upw_o (by decide) (upw_o (by decide) (upw_o (by decide) (upw_o (by decide) (upw_o (by decide) (upw_o (by decide) (upw_o (by decide) (upw_o (by decide) (upw_o (by decide) upw_s))))))))))))), (upw_o (by decide) (upw_o (by decide) (upw_o (by decide) (upw_o (by decide) (upw_o (by decide) (upw_o (by decide) (upw_o (by decide) (upw_o (by decide) (upw_o (by decide) (upw_o (by decide) (upw_o (by decide) upw_s))))))))))), (upw_o (by decide) (upw_o (by decide) (upw_o (by decide) (upw_o (by decide) (upw_o (by decide) (upw_o (by decide) (upw_o (by decide) (upw_o (by decide) (upw_o (by decide) upw_s))))))))), (upw_o (by decide) (upw_o (by decide) (upw_o (by decide) (upw_o (by decide) (upw_o (by decide) (upw_o (by decide) (upw_o (by decide) upw_s))))))), upw_s⟩, (fun k hk => upw_o (by omega) ((fun k hk => upw_o (by omega) ((fun k hk => upw_o (by omega) ((fun k hk => upw_o (by omega) ((fun k hk => upw_o (by omega) ((fun k hk => upw_o (by omega) ((fun k hk => upw_o (by omega) ((fun k hk => upw_o (by omega) ((fun k hk => upw_o (by omega) ((fun k hk => upw_o (by omega) ((fun k hk => upw_o (by omega) ((fun k hk => upw_o (by omega) ((fun k hk => upw_o (by omega) ((fun k hk => upw_o (by omega) ((fun (k : Nat) (_ : k < 1) => rfl) k hk)) k hk)) k hk)) k hk)) k hk)) k hk)) k hk)) k hk)) k hk)) k hk)) k hk)) k hk)) k hk)) k hk))⟩)
set_option maxRecDepth 20000 in
set_option maxHeartbeats 4000000 in
theorem tX7_init24 {l : Launch} {x : Cx} {d : Nat} {w : AW}  (hd : 1 ≤ d) (q24 : w 24 = cO 7 dfl7) : Mt l x iX7_init d 1 60 25 w [vR 24] (Wv (fun w2 => (w2 24 = cO 7 [vR 25, vI 0, vI 0, vI 1] ∧ w2 25 = cI 60 (fun _ => 0)) ∧ ∀ k : Nat, k < 24 → w2 k = w k)) := by
  refine Mt.of (L0 := [some (vR 24)]) rfl rfl rfl ?_
  refine gj_al0 dX7_init_0 ?_
  refine gj_obj dX7_init_1 mX7_3 (by omega) rfl ?_
  refine gj_al0 dX7_init_4 ?_
  refine gj_bipush dX7_init_5 rfl ?_
  refine gj_newI2 (kc := 0) (ks := 0) (N := 60) (n2 := 26) rfl rfl rfl dX7_init_7 rfl rfl ?_
  refine gj_pA0 dX7_init_9 fX7_11 rfl ⟨_, _, rfl⟩ (upw_o (by decide) q24) rfl ?_
  refine gj_al0 dX7_init_12 ?_
  refine gj_iconst dX7_init_13 ?_
  refine gj_pI1 dX7_init_14 fX7_15 upw_s rfl ?_
  refine gj_al0 dX7_init_17 ?_
  refine gj_iconst dX7_init_18 ?_
  refine gj_pI2 dX7_init_19 fX7_19 upw_s rfl ?_
  refine gj_al0 dX7_init_22 ?_
  refine gj_iconst dX7_init_23 ?_
  refine gj_pZ3 (Or.inr rfl) dX7_init_24 fX7_22 upw_s rfl ?_
  exact gj_vret dX7_init_27 rfl (wv_v ⟨⟨upw_s, (upw_o (by decide) (upw_o (by decide) (upw_o (by decide) (upw_o (by decide) upw_s))))⟩, (fun k hk => upw_o (by omega) ((fun k hk => upw_o (by omega) ((fun k hk => upw_o (by omega) ((fun k hk => upw_o (by omega) ((fun k hk => upw_o (by omega) ((fun (k : Nat) (_ : k < 24) => rfl) k hk)) k hk)) k hk)) k hk)) k hk))⟩)
set_option maxRecDepth 20000 in
set_option maxHeartbeats 4000000 in
theorem tX7_init26 {l : Launch} {x : Cx} {d : Nat} {w : AW}  (hd : 1 ≤ d) (q26 : w 26 = cO 7 dfl7) : Mt l x iX7_init d 1 60 27 w [vR 26] (Wv (fun w2 => (w2 26 = cO 7 [vR 27, vI 0, vI 0, vI 1] ∧ w2 27 = cI 60 (fun _ => 0)) ∧ ∀ k : Nat, k < 26 → w2 k = w k)) := by
  refine Mt.of (L0 := [some (vR 26)]) rfl rfl rfl ?_
  refine gj_al0 dX7_init_0 ?_
  refine gj_obj dX7_init_1 mX7_3 (by omega) rfl ?_
  refine gj_al0 dX7_init_4 ?_
  refine gj_bipush dX7_init_5 rfl ?_
  refine gj_newI2 (kc := 0) (ks := 0) (N := 60) (n2 := 28) rfl rfl rfl dX7_init_7 rfl rfl ?_
  refine gj_pA0 dX7_init_9 fX7_11 rfl ⟨_, _, rfl⟩ (upw_o (by decide) q26) rfl ?_
  refine gj_al0 dX7_init_12 ?_
  refine gj_iconst dX7_init_13 ?_
  refine gj_pI1 dX7_init_14 fX7_15 upw_s rfl ?_
  refine gj_al0 dX7_init_17 ?_
  refine gj_iconst dX7_init_18 ?_
  refine gj_pI2 dX7_init_19 fX7_19 upw_s rfl ?_
  refine gj_al0 dX7_init_22 ?_
  refine gj_iconst dX7_init_23 ?_
  refine gj_pZ3 (Or.inr rfl) dX7_init_24 fX7_22 upw_s rfl ?_
  exact gj_vret dX7_init_27 rfl (wv_v ⟨⟨upw_s, (upw_o (by decide) (upw_o (by decide) (upw_o (by decide) (upw_o (by decide) upw_s))))⟩, (fun k hk => upw_o (by omega) ((fun k hk => upw_o (by omega) ((fun k hk => upw_o (by omega) ((fun k hk => upw_o (by omega) ((fun k hk => upw_o (by omega) ((fun (k : Nat) (_ : k < 26) => rfl) k hk)) k hk)) k hk)) k hk)) k hk))⟩)
set_option maxRecDepth 20000 in
set_option maxHeartbeats 4000000 in
theorem tX7_init28 {l : Launch} {x : Cx} {d : Nat} {w : AW}  (hd : 1 ≤ d) (q28 : w 28 = cO 7 dfl7) : Mt l x iX7_init d 1 60 29 w [vR 28] (Wv (fun w2 => (w2 28 = cO 7 [vR 29, vI 0, vI 0, vI 1] ∧ w2 29 = cI 60 (fun _ => 0)) ∧ ∀ k : Nat, k < 28 → w2 k = w k)) := by
  refine Mt.of (L0 := [some (vR 28)]) rfl rfl rfl ?_
  refine gj_al0 dX7_init_0 ?_
  refine gj_obj dX7_init_1 mX7_3 (by omega) rfl ?_
  refine gj_al0 dX7_init_4 ?_
  refine gj_bipush dX7_init_5 rfl ?_
  refine gj_newI2 (kc := 0) (ks := 0) (N := 60) (n2 := 30) rfl rfl rfl dX7_init_7 rfl rfl ?_
  refine gj_pA0 dX7_init_9 fX7_11 rfl ⟨_, _, rfl⟩ (upw_o (by decide) q28) rfl ?_
  refine gj_al0 dX7_init_12 ?_
  refine gj_iconst dX7_init_13 ?_
  refine gj_pI1 dX7_init_14 fX7_15 upw_s rfl ?_
  refine gj_al0 dX7_init_17 ?_
  refine gj_iconst dX7_init_18 ?_
  refine gj_pI2 dX7_init_19 fX7_19 upw_s rfl ?_
  refine gj_al0 dX7_init_22 ?_
  refine gj_iconst dX7_init_23 ?_
  refine gj_pZ3 (Or.inr rfl) dX7_init_24 fX7_22 upw_s rfl ?_
  exact gj_vret dX7_init_27 rfl (wv_v ⟨⟨upw_s, (upw_o (by decide) (upw_o (by decide) (upw_o (by decide) (upw_o (by decide) upw_s))))⟩, (fun k hk => upw_o (by omega) ((fun k hk => upw_o (by omega) ((fun k hk => upw_o (by omega) ((fun k hk => upw_o (by omega) ((fun k hk => upw_o (by omega) ((fun (k : Nat) (_ : k < 28) => rfl) k hk)) k hk)) k hk)) k hk)) k hk))⟩)
set_option maxRecDepth 20000 in
set_option maxHeartbeats 4000000 in
theorem tX7_init30 {l : Launch} {x : Cx} {d : Nat} {w : AW}  (hd : 1 ≤ d) (q30 : w 30 = cO 7 dfl7) : Mt l x iX7_init d 1 60 31 w [vR 30] (Wv (fun w2 => (w2 30 = cO 7 [vR 31, vI 0, vI 0, vI 1] ∧ w2 31 = cI 60 (fun _ => 0)) ∧ ∀ k : Nat, k < 30 → w2 k = w k)) := by
  refine Mt.of (L0 := [some (vR 30)]) rfl rfl rfl ?_
  refine gj_al0 dX7_init_0 ?_
  refine gj_obj dX7_init_1 mX7_3 (by omega) rfl ?_
  refine gj_al0 dX7_init_4 ?_
  refine gj_bipush dX7_init_5 rfl ?_
  refine gj_newI2 (kc := 0) (ks := 0) (N := 60) (n2 := 32) rfl rfl rfl dX7_init_7 rfl rfl ?_
  refine gj_pA0 dX7_init_9 fX7_11 rfl ⟨_, _, rfl⟩ (upw_o (by decide) q30) rfl ?_
  refine gj_al0 dX7_init_12 ?_
  refine gj_iconst dX7_init_13 ?_
  refine gj_pI1 dX7_init_14 fX7_15 upw_s rfl ?_
  refine gj_al0 dX7_init_17 ?_
  refine gj_iconst dX7_init_18 ?_
  refine gj_pI2 dX7_init_19 fX7_19 upw_s rfl ?_
  refine gj_al0 dX7_init_22 ?_
  refine gj_iconst dX7_init_23 ?_
  refine gj_pZ3 (Or.inr rfl) dX7_init_24 fX7_22 upw_s rfl ?_
  exact gj_vret dX7_init_27 rfl (wv_v ⟨⟨upw_s, (upw_o (by decide) (upw_o (by decide) (upw_o (by decide) (upw_o (by decide) upw_s))))⟩, (fun k hk => upw_o (by omega) ((fun k hk => upw_o (by omega) ((fun k hk => upw_o (by omega) ((fun k hk => upw_o (by omega) ((fun k hk => upw_o (by omega) ((fun (k : Nat) (_ : k < 30) => rfl) k hk)) k hk)) k hk)) k hk)) k hk))⟩)
set_option maxRecDepth 20000 in
set_option maxHeartbeats 4000000 in
theorem tX8_init {l : Launch} {x : Cx} {d : Nat} {w : AW}  (hd : 2 ≤ d) (q0 : w 0 = cO 8 dfl8) : Mt l x iX8_init d 31 568 1 w [vR 0] (Wv (fun w2 => ClassC w2 (fun _ => 0) 0 (ruF 8) (facF 8) (fun _ => 0) 0 0 5 2 (fun _ => 0) (fun _ => 0) (fun _ => 0) 0 0 (fun _ => -1) (fun _ => 0) (fun _ _ => 0))) := by
  refine Mt.of (L0 := [some (vR 0), none]) rfl rfl rfl ?_
  refine gj_al0 dX8_init_0 ?_
  refine gj_obj dX8_init_1 mX8_3 (by omega) rfl ?_
  refine gj_al0 dX8_init_4 ?_
  refine gj_newO (ci := 6) (kc := 30) (ks := 560) (N := 8) (n2 := 2) rfl rfl rfl dX8_init_5 qX8_9 inX6s inX6i rfl tyX6_ok dfl6_ok ?_
  refine gj_dupR dX8_init_8 ?_
  refine gj_cN0v (kc := 25) (ks := 413) (mc2 := 5) (ms2 := 147) (n2 := 7) rfl rfl rfl dX8_init_9 mX8_11 hX6_init (by omega) rfl (tX6_init (by omega) upw_s) (fun w9 P9 => ?_)
  obtain ⟨⟨e1_9, e2_9, e3_9, e4_9, e5_9, e6_9⟩, fr9⟩ := P9
  refine gj_pR0 dX8_init_12 fX8_12 rfl ⟨_, _, rfl⟩ ((fr9 0 (by decide)).trans (upw_o (by decide) q0)) rfl ?_
  refine gj_al0 dX8_init_15 ?_
  refine gj_newO (ci := 0) (kc := 24) (ks := 412) (N := 1) (n2 := 8) rfl rfl rfl dX8_init_16 qX8_16 inX0s inX0i rfl tyX0_ok dfl0_ok ?_
  refine gj_dupR dX8_init_19 ?_
  refine gj_cN0v (kc := 23) (ks := 404) (mc2 := 1) (ms2 := 8) (n2 := 9) rfl rfl rfl dX8_init_20 mX8_18 hX0_init (by omega) rfl (tX0_init (by omega) upw_s) (fun w20 P20 => ?_)
  obtain ⟨⟨e7_20, e8_20⟩, fr20⟩ := P20
  refine gj_pR1 dX8_init_23 fX8_19 rfl ⟨_, _, rfl⟩ ((fr20 0 (by decide)).trans (upw_o (by decide) upw_s)) rfl ?_
  refine gj_al0 dX8_init_26 ?_
  refine gj_newO (ci := 5) (kc := 22) (ks := 398) (N := 6) (n2 := 10) rfl rfl rfl dX8_init_27 qX8_23 inX5s inX5i rfl tyX5_ok dfl5_ok ?_
  refine gj_dupR dX8_init_30 ?_
  refine gj_al0 dX8_init_31 ?_
  refine gj_get dX8_init_32 fX8_19 (upw_o (by decide) upw_s) rfl rfl ?_
  refine gj_cN1v (kc := 20) (ks := 366) (mc2 := 2) (ms2 := 32) (n2 := 12) rfl rfl rfl dX8_init_35 mX8_25 hX5_init (by omega) rfl (tX5_init (by omega) upw_s) (fun w35 P35 => ?_)
  obtain ⟨⟨e9_35, e10_35, e11_35⟩, fr35⟩ := P35
  refine gj_pR2 dX8_init_38 fX8_28 rfl ⟨_, _, rfl⟩ ((fr35 0 (by decide)).trans (upw_o (by decide) upw_s)) rfl ?_
  refine gj_al0 dX8_init_41 ?_
  refine gj_newO (ci := 3) (kc := 19) (ks := 361) (N := 5) (n2 := 13) rfl rfl rfl dX8_init_42 qX8_32 inX3s inX3i rfl tyX3_ok dfl3_ok ?_
  refine gj_dupR dX8_init_45 ?_
  refine gj_al0 dX8_init_46 ?_
  refine gj_get dX8_init_47 fX8_12 (upw_o (by decide) upw_s) rfl rfl ?_
  refine gj_al0 dX8_init_50 ?_
  refine gj_get dX8_init_51 fX8_28 (upw_o (by decide) upw_s) rfl rfl ?_
  refine gj_cN2v (kc := 17) (ks := 313) (mc2 := 2) (ms2 := 48) (n2 := 15) rfl rfl rfl dX8_init_54 mX8_34 hX3_init (by omega) rfl (tX3_init (by omega) upw_s) (fun w54 P54 => ?_)
  obtain ⟨⟨e12_54, e13_54, e14_54⟩, fr54⟩ := P54
  refine gj_pR3 dX8_init_57 fX8_37 rfl ⟨_, _, rfl⟩ ((fr54 0 (by decide)).trans (upw_o (by decide) upw_s)) rfl ?_
  refine gj_al0 dX8_init_60 ?_
  refine gj_newO (ci := 1) (kc := 16) (ks := 309) (N := 4) (n2 := 16) rfl rfl rfl dX8_init_61 qX8_41 inX1s inX1i rfl tyX1_ok dfl1_ok ?_
  refine gj_dupR dX8_init_64 ?_
  refine gj_al0 dX8_init_65 ?_
  refine gj_get dX8_init_66 fX8_28 (upw_o (by decide) upw_s) rfl rfl ?_
  refine gj_cN1v (kc := 16) (ks := 309) (mc2 := 0) (ms2 := 0) (n2 := 16) rfl rfl rfl dX8_init_69 mX8_43 hX1_init (by omega) rfl (tX1_init (by omega) upw_s) (fun w69 P69 => ?_)
  obtain ⟨e15_69, fr69⟩ := P69
  refine gj_pR4 dX8_init_72 fX8_46 rfl ⟨_, _, rfl⟩ ((fr69 0 (by decide)).trans (upw_o (by decide) upw_s)) rfl ?_
  refine gj_al0 dX8_init_75 ?_
  refine gj_newO (ci := 2) (kc := 15) (ks := 299) (N := 10) (n2 := 17) rfl rfl rfl dX8_init_76 qX8_50 inX2s inX2i rfl tyX2_ok dfl2_ok ?_
  refine gj_dupR dX8_init_79 ?_
  refine gj_al0 dX8_init_80 ?_
  refine gj_get dX8_init_81 fX8_12 (upw_o (by decide) upw_s) rfl rfl ?_
  refine gj_al0 dX8_init_84 ?_
  refine gj_get dX8_init_85 fX8_28 (upw_o (by decide) upw_s) rfl rfl ?_
  refine gj_cN2v (kc := 13) (ks := 283) (mc2 := 2) (ms2 := 16) (n2 := 19) rfl rfl rfl dX8_init_88 mX8_52 hX2_init (by omega) rfl (tX2_init (by omega) upw_s) (fun w88 P88 => ?_)
  obtain ⟨⟨e16_88, e17_88, e18_88⟩, fr88⟩ := P88
  refine gj_pR5 dX8_init_91 fX8_53 rfl ⟨_, _, rfl⟩ ((fr88 0 (by decide)).trans (upw_o (by decide) upw_s)) rfl ?_
  refine gj_al0 dX8_init_94 ?_
  refine gj_newO (ci := 4) (kc := 12) (ks := 278) (N := 5) (n2 := 20) rfl rfl rfl dX8_init_95 qX8_57 inX4s inX4i rfl tyX4_ok dfl4_ok ?_
  refine gj_dupR dX8_init_98 ?_
  refine gj_al0 dX8_init_99 ?_
  refine gj_get dX8_init_100 fX8_28 (upw_o (by decide) upw_s) rfl rfl ?_
  refine gj_cN1v (kc := 9) (ks := 260) (mc2 := 3) (ms2 := 18) (n2 := 23) rfl rfl rfl dX8_init_103 mX8_59 hX4_init (by omega) rfl (tX4_init (by omega) upw_s) (fun w103 P103 => ?_)
  obtain ⟨⟨e19_103, e20_103, e21_103, e22_103⟩, fr103⟩ := P103
  refine gj_pR6 dX8_init_106 fX8_60 rfl ⟨_, _, rfl⟩ ((fr103 0 (by decide)).trans (upw_o (by decide) upw_s)) rfl ?_
  refine gj_al0 dX8_init_109 ?_
  refine gj_iconst dX8_init_110 ?_
  refine gj_newR2 (kc := 8) (ks := 256) (N := 4) (n2 := 24) rfl rfl rfl dX8_init_111 qX8_64 rfl rfl ?_
  refine gj_pA7 dX8_init_114 fX8_66 rfl ⟨_, _, rfl⟩ (upw_o (by decide) upw_s) rfl ?_
  refine gj_iconst dX8_init_117 ?_
  refine gj_is1 dX8_init_118 rfl rfl ?_
  refine gj_il1 dX8_init_119 ?_
  refine gj_iconst dX8_init_120 ?_
  refine gj_icmp_ge dX8_init_121 (by omega) (fun h => absurd h (by omega)) (fun _ => ?_)
  refine gj_al0 dX8_init_124 ?_
  refine gj_get dX8_init_125 fX8_66 upw_s rfl rfl ?_
  refine gj_il1 dX8_init_128 ?_
  refine gj_newO (ci := 7) (kc := 7) (ks := 252) (N := 4) (n2 := 25) rfl rfl rfl dX8_init_129 qX8_64 inX7s inX7i rfl tyX7_ok dfl7_ok ?_
  refine gj_dupR dX8_init_132 ?_
  refine gj_cN0v (kc := 6) (ks := 192) (mc2 := 1) (ms2 := 60) (n2 := 26) rfl rfl rfl dX8_init_133 mX8_70 hX7_init (by omega) rfl (tX7_init24 (by omega) upw_s) (fun w133 P133 => ?_)
  obtain ⟨⟨e24_133, e25_133⟩, fr133⟩ := P133
  refine gj_aast dX8_init_136 ((fr133 23 (by decide)).trans (upw_o (by decide) (upw_o (by decide) upw_s))) rfl rfl (by omega) e24_133 rfl ?_
  refine gj_ii1 dX8_init_137 rfl rfl ?_
  refine gj_goto dX8_init_140 ?_
  refine gj_il1 dX8_init_119 ?_
  refine gj_iconst dX8_init_120 ?_
  refine gj_icmp_ge dX8_init_121 (by omega) (fun h => absurd h (by omega)) (fun _ => ?_)
  refine gj_al0 dX8_init_124 ?_
  refine gj_get dX8_init_125 fX8_66 (upw_o (by decide) ((fr133 0 (by decide)).trans (upw_o (by decide) upw_s))) rfl rfl ?_
  refine gj_il1 dX8_init_128 ?_
  refine gj_newO (ci := 7) (kc := 5) (ks := 188) (N := 4) (n2 := 27) rfl rfl rfl dX8_init_129 qX8_64 inX7s inX7i rfl tyX7_ok dfl7_ok ?_
  refine gj_dupR dX8_init_132 ?_
  refine gj_cN0v (kc := 4) (ks := 128) (mc2 := 1) (ms2 := 60) (n2 := 28) rfl rfl rfl dX8_init_133 mX8_70 hX7_init (by omega) rfl (tX7_init26 (by omega) upw_s) (fun w133x2 P133x2 => ?_)
  obtain ⟨⟨e26_133x2, e27_133x2⟩, fr133x2⟩ := P133x2
  refine gj_aast dX8_init_136 ((fr133x2 23 (by decide)).trans (upw_o (by decide) upw_s)) rfl rfl (by omega) e26_133x2 rfl ?_
  refine gj_ii1 dX8_init_137 rfl rfl ?_
  refine gj_goto dX8_init_140 ?_
  refine gj_il1 dX8_init_119 ?_
  refine gj_iconst dX8_init_120 ?_
  refine gj_icmp_ge dX8_init_121 (by omega) (fun h => absurd h (by omega)) (fun _ => ?_)
  refine gj_al0 dX8_init_124 ?_
  refine gj_get dX8_init_125 fX8_66 (upw_o (by decide) ((fr133x2 0 (by decide)).trans (upw_o (by decide) (upw_o (by decide) ((fr133 0 (by decide)).trans (upw_o (by decide) upw_s)))))) rfl rfl ?_
  refine gj_il1 dX8_init_128 ?_
  refine gj_newO (ci := 7) (kc := 3) (ks := 124) (N := 4) (n2 := 29) rfl rfl rfl dX8_init_129 qX8_64 inX7s inX7i rfl tyX7_ok dfl7_ok ?_
  refine gj_dupR dX8_init_132 ?_
  refine gj_cN0v (kc := 2) (ks := 64) (mc2 := 1) (ms2 := 60) (n2 := 30) rfl rfl rfl dX8_init_133 mX8_70 hX7_init (by omega) rfl (tX7_init28 (by omega) upw_s) (fun w133x3 P133x3 => ?_)
  obtain ⟨⟨e28_133x3, e29_133x3⟩, fr133x3⟩ := P133x3
  refine gj_aast dX8_init_136 ((fr133x3 23 (by decide)).trans (upw_o (by decide) upw_s)) rfl rfl (by omega) e28_133x3 rfl ?_
  refine gj_ii1 dX8_init_137 rfl rfl ?_
  refine gj_goto dX8_init_140 ?_
  refine gj_il1 dX8_init_119 ?_
  refine gj_iconst dX8_init_120 ?_
  refine gj_icmp_ge dX8_init_121 (by omega) (fun h => absurd h (by omega)) (fun _ => ?_)
  refine gj_al0 dX8_init_124 ?_
  refine gj_get dX8_init_125 fX8_66 (upw_o (by decide) ((fr133x3 0 (by decide)).trans (upw_o (by decide) (upw_o (by decide) ((fr133x2 0 (by decide)).trans (upw_o (by decide) (upw_o (by decide) ((fr133 0 (by decide)).trans (upw_o (by decide) upw_s))))))))) rfl rfl ?_
  refine gj_il1 dX8_init_128 ?_
  refine gj_newO (ci := 7) (kc := 1) (ks := 60) (N := 4) (n2 := 31) rfl rfl rfl dX8_init_129 qX8_64 inX7s inX7i rfl tyX7_ok dfl7_ok ?_
  refine gj_dupR dX8_init_132 ?_
  refine gj_cN0v (kc := 0) (ks := 0) (mc2 := 1) (ms2 := 60) (n2 := 32) rfl rfl rfl dX8_init_133 mX8_70 hX7_init (by omega) rfl (tX7_init30 (by omega) upw_s) (fun w133x4 P133x4 => ?_)
  obtain ⟨⟨e30_133x4, e31_133x4⟩, fr133x4⟩ := P133x4
  refine gj_aast dX8_init_136 ((fr133x4 23 (by decide)).trans (upw_o (by decide) upw_s)) rfl rfl (by omega) e30_133x4 rfl ?_
  refine gj_ii1 dX8_init_137 rfl rfl ?_
  refine gj_goto dX8_init_140 ?_
  refine gj_il1 dX8_init_119 ?_
  refine gj_iconst dX8_init_120 ?_
  refine gj_icmp_ge dX8_init_121 (by omega) (fun _ => ?_) (fun h => absurd h (by omega))
  refine gj_al0 dX8_init_143 ?_
  refine gj_iconst dX8_init_144 ?_
  refine gj_pI8 dX8_init_145 fX8_71 (upw_o (by decide) ((fr133x4 0 (by decide)).trans (upw_o (by decide) (upw_o (by decide) ((fr133x3 0 (by decide)).trans (upw_o (by decide) (upw_o (by decide) ((fr133x2 0 (by decide)).trans (upw_o (by decide) (upw_o (by decide) ((fr133 0 (by decide)).trans (upw_o (by decide) upw_s)))))))))))) rfl ?_
  exact gj_vret dX8_init_148 rfl (wv_v ⟨upw_s, ⟨_, _, _, _, _, _, ⟨(upw_o (by decide) (upw_o (by decide) ((fr133x4 1 (by decide)).trans (upw_o (by decide) (upw_o (by decide) ((fr133x3 1 (by decide)).trans (upw_o (by decide) (upw_o (by decide) ((fr133x2 1 (by decide)).trans (upw_o (by decide) (upw_o (by decide) ((fr133 1 (by decide)).trans (upw_o (by decide) (upw_o (by decide) (upw_o (by decide) (upw_o (by decide) ((fr103 1 (by decide)).trans (upw_o (by decide) (upw_o (by decide) ((fr88 1 (by decide)).trans (upw_o (by decide) (upw_o (by decide) ((fr69 1 (by decide)).trans (upw_o (by decide) (upw_o (by decide) ((fr54 1 (by decide)).trans (upw_o (by decide) (upw_o (by decide) ((fr35 1 (by decide)).trans (upw_o (by decide) (upw_o (by decide) ((fr20 1 (by decide)).trans (upw_o (by decide) (upw_o (by decide) e1_9)))))))))))))))))))))))))))))))))), (upw_o (by decide) (upw_o (by decide) ((fr133x4 2 (by decide)).trans (upw_o (by decide) (upw_o (by decide) ((fr133x3 2 (by decide)).trans (upw_o (by decide) (upw_o (by decide) ((fr133x2 2 (by decide)).trans (upw_o (by decide) (upw_o (by decide) ((fr133 2 (by decide)).trans (upw_o (by decide) (upw_o (by decide) (upw_o (by decide) (upw_o (by decide) ((fr103 2 (by decide)).trans (upw_o (by decide) (upw_o (by decide) ((fr88 2 (by decide)).trans (upw_o (by decide) (upw_o (by decide) ((fr69 2 (by decide)).trans (upw_o (by decide) (upw_o (by decide) ((fr54 2 (by decide)).trans (upw_o (by decide) (upw_o (by decide) ((fr35 2 (by decide)).trans (upw_o (by decide) (upw_o (by decide) ((fr20 2 (by decide)).trans (upw_o (by decide) (upw_o (by decide) e2_9)))))))))))))))))))))))))))))))))), (upw_o (by decide) (upw_o (by decide) ((fr133x4 3 (by decide)).trans (upw_o (by decide) (upw_o (by decide) ((fr133x3 3 (by decide)).trans (upw_o (by decide) (upw_o (by decide) ((fr133x2 3 (by decide)).trans (upw_o (by decide) (upw_o (by decide) ((fr133 3 (by decide)).trans (upw_o (by decide) (upw_o (by decide) (upw_o (by decide) (upw_o (by decide) ((fr103 3 (by decide)).trans (upw_o (by decide) (upw_o (by decide) ((fr88 3 (by decide)).trans (upw_o (by decide) (upw_o (by decide) ((fr69 3 (by decide)).trans (upw_o (by decide) (upw_o (by decide) ((fr54 3 (by decide)).trans (upw_o (by decide) (upw_o (by decide) ((fr35 3 (by decide)).trans (upw_o (by decide) (upw_o (by decide) ((fr20 3 (by decide)).trans (upw_o (by decide) (upw_o (by decide) e3_9)))))))))))))))))))))))))))))))))), (upw_o (by decide) (upw_o (by decide) ((fr133x4 4 (by decide)).trans (upw_o (by decide) (upw_o (by decide) ((fr133x3 4 (by decide)).trans (upw_o (by decide) (upw_o (by decide) ((fr133x2 4 (by decide)).trans (upw_o (by decide) (upw_o (by decide) ((fr133 4 (by decide)).trans (upw_o (by decide) (upw_o (by decide) (upw_o (by decide) (upw_o (by decide) ((fr103 4 (by decide)).trans (upw_o (by decide) (upw_o (by decide) ((fr88 4 (by decide)).trans (upw_o (by decide) (upw_o (by decide) ((fr69 4 (by decide)).trans (upw_o (by decide) (upw_o (by decide) ((fr54 4 (by decide)).trans (upw_o (by decide) (upw_o (by decide) ((fr35 4 (by decide)).trans (upw_o (by decide) (upw_o (by decide) ((fr20 4 (by decide)).trans (upw_o (by decide) (upw_o (by decide) e4_9)))))))))))))))))))))))))))))))))), (upw_o (by decide) (upw_o (by decide) ((fr133x4 5 (by decide)).trans (upw_o (by decide) (upw_o (by decide) ((fr133x3 5 (by decide)).trans (upw_o (by decide) (upw_o (by decide) ((fr133x2 5 (by decide)).trans (upw_o (by decide) (upw_o (by decide) ((fr133 5 (by decide)).trans (upw_o (by decide) (upw_o (by decide) (upw_o (by decide) (upw_o (by decide) ((fr103 5 (by decide)).trans (upw_o (by decide) (upw_o (by decide) ((fr88 5 (by decide)).trans (upw_o (by decide) (upw_o (by decide) ((fr69 5 (by decide)).trans (upw_o (by decide) (upw_o (by decide) ((fr54 5 (by decide)).trans (upw_o (by decide) (upw_o (by decide) ((fr35 5 (by decide)).trans (upw_o (by decide) (upw_o (by decide) ((fr20 5 (by decide)).trans (upw_o (by decide) (upw_o (by decide) e5_9)))))))))))))))))))))))))))))))))), (upw_o (by decide) (upw_o (by decide) ((fr133x4 6 (by decide)).trans (upw_o (by decide) (upw_o (by decide) ((fr133x3 6 (by decide)).trans (upw_o (by decide) (upw_o (by decide) ((fr133x2 6 (by decide)).trans (upw_o (by decide) (upw_o (by decide) ((fr133 6 (by decide)).trans (upw_o (by decide) (upw_o (by decide) (upw_o (by decide) (upw_o (by decide) ((fr103 6 (by decide)).trans (upw_o (by decide) (upw_o (by decide) ((fr88 6 (by decide)).trans (upw_o (by decide) (upw_o (by decide) ((fr69 6 (by decide)).trans (upw_o (by decide) (upw_o (by decide) ((fr54 6 (by decide)).trans (upw_o (by decide) (upw_o (by decide) ((fr35 6 (by decide)).trans (upw_o (by decide) (upw_o (by decide) ((fr20 6 (by decide)).trans (upw_o (by decide) (upw_o (by decide) e6_9))))))))))))))))))))))))))))))))))⟩, ⟨⟨by omega, (fun _ _ g1 => absurd g1 (by omega))⟩, rfl, rfl, (fun r g0 g1 => absurd g1 (by omega)), Or.inr ⟨rfl, fun j g0 g1 => by unfold filF; rw [if_pos (by omega)]⟩⟩⟩, ⟨0, ⟨(upw_o (by decide) (upw_o (by decide) ((fr133x4 9 (by decide)).trans (upw_o (by decide) (upw_o (by decide) ((fr133x3 9 (by decide)).trans (upw_o (by decide) (upw_o (by decide) ((fr133x2 9 (by decide)).trans (upw_o (by decide) (upw_o (by decide) ((fr133 9 (by decide)).trans (upw_o (by decide) (upw_o (by decide) (upw_o (by decide) (upw_o (by decide) ((fr103 9 (by decide)).trans (upw_o (by decide) (upw_o (by decide) ((fr88 9 (by decide)).trans (upw_o (by decide) (upw_o (by decide) ((fr69 9 (by decide)).trans (upw_o (by decide) (upw_o (by decide) ((fr54 9 (by decide)).trans (upw_o (by decide) (upw_o (by decide) e9_35)))))))))))))))))))))))))))), (upw_o (by decide) (upw_o (by decide) ((fr133x4 10 (by decide)).trans (upw_o (by decide) (upw_o (by decide) ((fr133x3 10 (by decide)).trans (upw_o (by decide) (upw_o (by decide) ((fr133x2 10 (by decide)).trans (upw_o (by decide) (upw_o (by decide) ((fr133 10 (by decide)).trans (upw_o (by decide) (upw_o (by decide) (upw_o (by decide) (upw_o (by decide) ((fr103 10 (by decide)).trans (upw_o (by decide) (upw_o (by decide) ((fr88 10 (by decide)).trans (upw_o (by decide) (upw_o (by decide) ((fr69 10 (by decide)).trans (upw_o (by decide) (upw_o (by decide) ((fr54 10 (by decide)).trans (upw_o (by decide) (upw_o (by decide) e10_35)))))))))))))))))))))))))))), (upw_o (by decide) (upw_o (by decide) ((fr133x4 11 (by decide)).trans (upw_o (by decide) (upw_o (by decide) ((fr133x3 11 (by decide)).trans (upw_o (by decide) (upw_o (by decide) ((fr133x2 11 (by decide)).trans (upw_o (by decide) (upw_o (by decide) ((fr133 11 (by decide)).trans (upw_o (by decide) (upw_o (by decide) (upw_o (by decide) (upw_o (by decide) ((fr103 11 (by decide)).trans (upw_o (by decide) (upw_o (by decide) ((fr88 11 (by decide)).trans (upw_o (by decide) (upw_o (by decide) ((fr69 11 (by decide)).trans (upw_o (by decide) (upw_o (by decide) ((fr54 11 (by decide)).trans (upw_o (by decide) (upw_o (by decide) e11_35))))))))))))))))))))))))))))⟩, ⟨(upw_o (by decide) (upw_o (by decide) ((fr133x4 7 (by decide)).trans (upw_o (by decide) (upw_o (by decide) ((fr133x3 7 (by decide)).trans (upw_o (by decide) (upw_o (by decide) ((fr133x2 7 (by decide)).trans (upw_o (by decide) (upw_o (by decide) ((fr133 7 (by decide)).trans (upw_o (by decide) (upw_o (by decide) (upw_o (by decide) (upw_o (by decide) ((fr103 7 (by decide)).trans (upw_o (by decide) (upw_o (by decide) ((fr88 7 (by decide)).trans (upw_o (by decide) (upw_o (by decide) ((fr69 7 (by decide)).trans (upw_o (by decide) (upw_o (by decide) ((fr54 7 (by decide)).trans (upw_o (by decide) (upw_o (by decide) ((fr35 7 (by decide)).trans (upw_o (by decide) (upw_o (by decide) e7_20))))))))))))))))))))))))))))))), (upw_o (by decide) (upw_o (by decide) ((fr133x4 8 (by decide)).trans (upw_o (by decide) (upw_o (by decide) ((fr133x3 8 (by decide)).trans (upw_o (by decide) (upw_o (by decide) ((fr133x2 8 (by decide)).trans (upw_o (by decide) (upw_o (by decide) ((fr133 8 (by decide)).trans (upw_o (by decide) (upw_o (by decide) (upw_o (by decide) (upw_o (by decide) ((fr103 8 (by decide)).trans (upw_o (by decide) (upw_o (by decide) ((fr88 8 (by decide)).trans (upw_o (by decide) (upw_o (by decide) ((fr69 8 (by decide)).trans (upw_o (by decide) (upw_o (by decide) ((fr54 8 (by decide)).trans (upw_o (by decide) (upw_o (by decide) ((fr35 8 (by decide)).trans (upw_o (by decide) (upw_o (by decide) e8_20)))))))))))))))))))))))))))))))⟩, ⟨facF_ok, ruF_ok, ⟨by omega, fun k g0 g1 => absurd g1 (by omega)⟩, by omega, rfl⟩⟩, ⟨_, _, _, (upw_o (by decide) (upw_o (by decide) ((fr133x4 12 (by decide)).trans (upw_o (by decide) (upw_o (by decide) ((fr133x3 12 (by decide)).trans (upw_o (by decide) (upw_o (by decide) ((fr133x2 12 (by decide)).trans (upw_o (by decide) (upw_o (by decide) ((fr133 12 (by decide)).trans (upw_o (by decide) (upw_o (by decide) (upw_o (by decide) (upw_o (by decide) ((fr103 12 (by decide)).trans (upw_o (by decide) (upw_o (by decide) ((fr88 12 (by decide)).trans (upw_o (by decide) (upw_o (by decide) ((fr69 12 (by decide)).trans (upw_o (by decide) (upw_o (by decide) e12_54))))))))))))))))))))))))), (upw_o (by decide) (upw_o (by decide) ((fr133x4 13 (by decide)).trans (upw_o (by decide) (upw_o (by decide) ((fr133x3 13 (by decide)).trans (upw_o (by decide) (upw_o (by decide) ((fr133x2 13 (by decide)).trans (upw_o (by decide) (upw_o (by decide) ((fr133 13 (by decide)).trans (upw_o (by decide) (upw_o (by decide) (upw_o (by decide) (upw_o (by decide) ((fr103 13 (by decide)).trans (upw_o (by decide) (upw_o (by decide) ((fr88 13 (by decide)).trans (upw_o (by decide) (upw_o (by decide) ((fr69 13 (by decide)).trans (upw_o (by decide) (upw_o (by decide) e13_54))))))))))))))))))))))))), (upw_o (by decide) (upw_o (by decide) ((fr133x4 14 (by decide)).trans (upw_o (by decide) (upw_o (by decide) ((fr133x3 14 (by decide)).trans (upw_o (by decide) (upw_o (by decide) ((fr133x2 14 (by decide)).trans (upw_o (by decide) (upw_o (by decide) ((fr133 14 (by decide)).trans (upw_o (by decide) (upw_o (by decide) (upw_o (by decide) (upw_o (by decide) ((fr103 14 (by decide)).trans (upw_o (by decide) (upw_o (by decide) ((fr88 14 (by decide)).trans (upw_o (by decide) (upw_o (by decide) ((fr69 14 (by decide)).trans (upw_o (by decide) (upw_o (by decide) e14_54)))))))))))))))))))))))))⟩, ⟨_, (upw_o (by decide) (upw_o (by decide) ((fr133x4 15 (by decide)).trans (upw_o (by decide) (upw_o (by decide) ((fr133x3 15 (by decide)).trans (upw_o (by decide) (upw_o (by decide) ((fr133x2 15 (by decide)).trans (upw_o (by decide) (upw_o (by decide) ((fr133 15 (by decide)).trans (upw_o (by decide) (upw_o (by decide) (upw_o (by decide) (upw_o (by decide) ((fr103 15 (by decide)).trans (upw_o (by decide) (upw_o (by decide) ((fr88 15 (by decide)).trans (upw_o (by decide) (upw_o (by decide) e15_69))))))))))))))))))))))⟩, by omega, ⟨0, 0, 0, B0, _, _, (upw_o (by decide) (upw_o (by decide) ((fr133x4 16 (by decide)).trans (upw_o (by decide) (upw_o (by decide) ((fr133x3 16 (by decide)).trans (upw_o (by decide) (upw_o (by decide) ((fr133x2 16 (by decide)).trans (upw_o (by decide) (upw_o (by decide) ((fr133 16 (by decide)).trans (upw_o (by decide) (upw_o (by decide) (upw_o (by decide) (upw_o (by decide) ((fr103 16 (by decide)).trans (upw_o (by decide) (upw_o (by decide) e16_88))))))))))))))))))), (upw_o (by decide) (upw_o (by decide) ((fr133x4 17 (by decide)).trans (upw_o (by decide) (upw_o (by decide) ((fr133x3 17 (by decide)).trans (upw_o (by decide) (upw_o (by decide) ((fr133x2 17 (by decide)).trans (upw_o (by decide) (upw_o (by decide) ((fr133 17 (by decide)).trans (upw_o (by decide) (upw_o (by decide) (upw_o (by decide) (upw_o (by decide) ((fr103 17 (by decide)).trans (upw_o (by decide) (upw_o (by decide) e17_88))))))))))))))))))), (upw_o (by decide) (upw_o (by decide) ((fr133x4 18 (by decide)).trans (upw_o (by decide) (upw_o (by decide) ((fr133x3 18 (by decide)).trans (upw_o (by decide) (upw_o (by decide) ((fr133x2 18 (by decide)).trans (upw_o (by decide) (upw_o (by decide) ((fr133 18 (by decide)).trans (upw_o (by decide) (upw_o (by decide) (upw_o (by decide) (upw_o (by decide) ((fr103 18 (by decide)).trans (upw_o (by decide) (upw_o (by decide) e18_88)))))))))))))))))))⟩, ⟨⟨(upw_o (by decide) (upw_o (by decide) ((fr133x4 19 (by decide)).trans (upw_o (by decide) (upw_o (by decide) ((fr133x3 19 (by decide)).trans (upw_o (by decide) (upw_o (by decide) ((fr133x2 19 (by decide)).trans (upw_o (by decide) (upw_o (by decide) ((fr133 19 (by decide)).trans (upw_o (by decide) (upw_o (by decide) (upw_o (by decide) (upw_o (by decide) e19_103)))))))))))))))), (upw_o (by decide) (upw_o (by decide) ((fr133x4 20 (by decide)).trans (upw_o (by decide) (upw_o (by decide) ((fr133x3 20 (by decide)).trans (upw_o (by decide) (upw_o (by decide) ((fr133x2 20 (by decide)).trans (upw_o (by decide) (upw_o (by decide) ((fr133 20 (by decide)).trans (upw_o (by decide) (upw_o (by decide) (upw_o (by decide) (upw_o (by decide) e20_103)))))))))))))))), (upw_o (by decide) (upw_o (by decide) ((fr133x4 21 (by decide)).trans (upw_o (by decide) (upw_o (by decide) ((fr133x3 21 (by decide)).trans (upw_o (by decide) (upw_o (by decide) ((fr133x2 21 (by decide)).trans (upw_o (by decide) (upw_o (by decide) ((fr133 21 (by decide)).trans (upw_o (by decide) (upw_o (by decide) (upw_o (by decide) (upw_o (by decide) e21_103)))))))))))))))), (upw_o (by decide) (upw_o (by decide) ((fr133x4 22 (by decide)).trans (upw_o (by decide) (upw_o (by decide) ((fr133x3 22 (by decide)).trans (upw_o (by decide) (upw_o (by decide) ((fr133x2 22 (by decide)).trans (upw_o (by decide) (upw_o (by decide) ((fr133 22 (by decide)).trans (upw_o (by decide) (upw_o (by decide) (upw_o (by decide) (upw_o (by decide) e22_103))))))))))))))))⟩, ⟨by omega, fun k g0 g1 => absurd g1 (by omega)⟩⟩, ⟨_, (upw_o (by decide) upw_s), rfl, rfl, rfl, rfl⟩, ⟨_, _, _, _, (upw_o (by decide) (upw_o (by decide) ((fr133x4 24 (by decide)).trans (upw_o (by decide) (upw_o (by decide) ((fr133x3 24 (by decide)).trans (upw_o (by decide) (upw_o (by decide) ((fr133x2 24 (by decide)).trans (upw_o (by decide) (upw_o (by decide) e24_133))))))))))), (upw_o (by decide) (upw_o (by decide) ((fr133x4 25 (by decide)).trans (upw_o (by decide) (upw_o (by decide) ((fr133x3 25 (by decide)).trans (upw_o (by decide) (upw_o (by decide) ((fr133x2 25 (by decide)).trans (upw_o (by decide) (upw_o (by decide) e25_133))))))))))), ⟨by omega, by omega⟩, Or.inl ⟨rfl, rfl⟩⟩, ⟨_, _, _, _, (upw_o (by decide) (upw_o (by decide) ((fr133x4 26 (by decide)).trans (upw_o (by decide) (upw_o (by decide) ((fr133x3 26 (by decide)).trans (upw_o (by decide) (upw_o (by decide) e26_133x2)))))))), (upw_o (by decide) (upw_o (by decide) ((fr133x4 27 (by decide)).trans (upw_o (by decide) (upw_o (by decide) ((fr133x3 27 (by decide)).trans (upw_o (by decide) (upw_o (by decide) e27_133x2)))))))), ⟨by omega, by omega⟩, Or.inl ⟨rfl, rfl⟩⟩, ⟨_, _, _, _, (upw_o (by decide) (upw_o (by decide) ((fr133x4 28 (by decide)).trans (upw_o (by decide) (upw_o (by decide) e28_133x3))))), (upw_o (by decide) (upw_o (by decide) ((fr133x4 29 (by decide)).trans (upw_o (by decide) (upw_o (by decide) e29_133x3))))), ⟨by omega, by omega⟩, Or.inl ⟨rfl, rfl⟩⟩, ⟨_, _, _, _, (upw_o (by decide) (upw_o (by decide) e30_133x4)), (upw_o (by decide) (upw_o (by decide) e31_133x4)), ⟨by omega, by omega⟩, Or.inl ⟨rfl, rfl⟩⟩⟩)
set_option maxRecDepth 20000 in
set_option maxHeartbeats 4000000 in
theorem tX9_init {l : Launch} {x : Cx} {d : Nat} {w : AW}  (hd : 1 ≤ d) (q32 : w 32 = cO 9 dfl9) : Mt l x iX9_init d 17 504 33 w [vR 32] (Wv (fun w2 => ModelC w2 (fun _ => 0) 0 (ruF 8) (facF 8) (fun _ => 0) 0 0 5 2 (fun _ => 0) (fun _ => 0) (fun _ => 0) 0 0 (fun _ => -1) (fun _ => 0) (fun _ _ => 0) ∧ ∀ k : Nat, k < 32 → w2 k = w k)) := by
  refine Mt.of (L0 := [some (vR 32), none]) rfl rfl rfl ?_
  refine gj_al0 dX9_init_0 ?_
  refine gj_obj dX9_init_1 mX9_1 (by omega) rfl ?_
  refine gj_al0 dX9_init_4 ?_
  refine gj_iconst dX9_init_5 ?_
  refine gj_newI2 (kc := 16) (ks := 500) (N := 4) (n2 := 34) rfl rfl rfl dX9_init_6 rfl rfl ?_
  refine gj_pA0 dX9_init_8 fX9_7 rfl ⟨_, _, rfl⟩ (upw_o (by decide) q32) rfl ?_
  refine gj_al0 dX9_init_11 ?_
  refine gj_iconst dX9_init_12 ?_
  refine gj_newI2 (kc := 15) (ks := 496) (N := 4) (n2 := 35) rfl rfl rfl dX9_init_13 rfl rfl ?_
  refine gj_pA1 dX9_init_15 fX9_13 rfl ⟨_, _, rfl⟩ (upw_o (by decide) upw_s) rfl ?_
  refine gj_al0 dX9_init_18 ?_
  refine gj_sipush dX9_init_19 rfl ?_
  refine gj_newI2 (kc := 14) (ks := 256) (N := 240) (n2 := 36) rfl rfl rfl dX9_init_22 rfl rfl ?_
  refine gj_pA2 dX9_init_24 fX9_16 rfl ⟨_, _, rfl⟩ (upw_o (by decide) upw_s) rfl ?_
  refine gj_al0 dX9_init_27 ?_
  refine gj_bipush dX9_init_28 rfl ?_
  refine gj_newI2 (kc := 13) (ks := 196) (N := 60) (n2 := 37) rfl rfl rfl dX9_init_30 rfl rfl ?_
  refine gj_pA3 dX9_init_32 fX9_19 rfl ⟨_, _, rfl⟩ (upw_o (by decide) upw_s) rfl ?_
  refine gj_al0 dX9_init_35 ?_
  refine gj_bipush dX9_init_36 rfl ?_
  refine gj_newI2 (kc := 12) (ks := 149) (N := 47) (n2 := 38) rfl rfl rfl dX9_init_38 rfl rfl ?_
  refine gj_pA5 dX9_init_40 fX9_22 rfl ⟨_, _, rfl⟩ (upw_o (by decide) upw_s) rfl ?_
  refine gj_al0 dX9_init_43 ?_
  refine gj_bipush dX9_init_44 rfl ?_
  refine gj_newI2 (kc := 11) (ks := 113) (N := 36) (n2 := 39) rfl rfl rfl dX9_init_46 rfl rfl ?_
  refine gj_pA9 dX9_init_48 fX9_25 rfl ⟨_, _, rfl⟩ (upw_o (by decide) upw_s) rfl ?_
  refine gj_al0 dX9_init_51 ?_
  refine gj_bipush dX9_init_52 rfl ?_
  refine gj_newI2 (kc := 10) (ks := 89) (N := 24) (n2 := 40) rfl rfl rfl dX9_init_54 rfl rfl ?_
  refine gj_pA10 dX9_init_56 fX9_28 rfl ⟨_, _, rfl⟩ (upw_o (by decide) upw_s) rfl ?_
  refine gj_al0 dX9_init_59 ?_
  refine gj_bipush dX9_init_60 rfl ?_
  refine gj_newI2 (kc := 9) (ks := 81) (N := 8) (n2 := 41) rfl rfl rfl dX9_init_62 rfl rfl ?_
  refine gj_pA11 dX9_init_64 fX9_31 rfl ⟨_, _, rfl⟩ (upw_o (by decide) upw_s) rfl ?_
  refine gj_al0 dX9_init_67 ?_
  refine gj_bipush dX9_init_68 rfl ?_
  refine gj_newI2 (kc := 8) (ks := 73) (N := 8) (n2 := 42) rfl rfl rfl dX9_init_70 rfl rfl ?_
  refine gj_pA13 dX9_init_72 fX9_34 rfl ⟨_, _, rfl⟩ (upw_o (by decide) upw_s) rfl ?_
  refine gj_al0 dX9_init_75 ?_
  refine gj_iconst dX9_init_76 ?_
  refine gj_newI2 (kc := 7) (ks := 71) (N := 2) (n2 := 43) rfl rfl rfl dX9_init_77 rfl rfl ?_
  refine gj_pA15 dX9_init_79 fX9_37 rfl ⟨_, _, rfl⟩ (upw_o (by decide) upw_s) rfl ?_
  refine gj_al0 dX9_init_82 ?_
  refine gj_bipush dX9_init_83 rfl ?_
  refine gj_newI2 (kc := 6) (ks := 63) (N := 8) (n2 := 44) rfl rfl rfl dX9_init_85 rfl rfl ?_
  refine gj_pA16 dX9_init_87 fX9_40 rfl ⟨_, _, rfl⟩ (upw_o (by decide) upw_s) rfl ?_
  refine gj_al0 dX9_init_90 ?_
  refine gj_bipush dX9_init_91 rfl ?_
  refine gj_newI2 (kc := 5) (ks := 54) (N := 9) (n2 := 45) rfl rfl rfl dX9_init_93 rfl rfl ?_
  refine gj_pA18 dX9_init_95 fX9_43 rfl ⟨_, _, rfl⟩ (upw_o (by decide) upw_s) rfl ?_
  refine gj_al0 dX9_init_98 ?_
  refine gj_bipush dX9_init_99 rfl ?_
  refine gj_newI2 (kc := 4) (ks := 45) (N := 9) (n2 := 46) rfl rfl rfl dX9_init_101 rfl rfl ?_
  refine gj_pA19 dX9_init_103 fX9_46 rfl ⟨_, _, rfl⟩ (upw_o (by decide) upw_s) rfl ?_
  refine gj_al0 dX9_init_106 ?_
  refine gj_bipush dX9_init_107 rfl ?_
  refine gj_newI2 (kc := 3) (ks := 36) (N := 9) (n2 := 47) rfl rfl rfl dX9_init_109 rfl rfl ?_
  refine gj_pA20 dX9_init_111 fX9_49 rfl ⟨_, _, rfl⟩ (upw_o (by decide) upw_s) rfl ?_
  refine gj_al0 dX9_init_114 ?_
  refine gj_bipush dX9_init_115 rfl ?_
  refine gj_newI2 (kc := 2) (ks := 27) (N := 9) (n2 := 48) rfl rfl rfl dX9_init_117 rfl rfl ?_
  refine gj_pA21 dX9_init_119 fX9_52 rfl ⟨_, _, rfl⟩ (upw_o (by decide) upw_s) rfl ?_
  refine gj_al0 dX9_init_122 ?_
  refine gj_bipush dX9_init_123 rfl ?_
  refine gj_newI2 (kc := 1) (ks := 18) (N := 9) (n2 := 49) rfl rfl rfl dX9_init_125 rfl rfl ?_
  refine gj_pA25 dX9_init_127 fX9_55 rfl ⟨_, _, rfl⟩ (upw_o (by decide) upw_s) rfl ?_
  refine gj_al0 dX9_init_130 ?_
  refine gj_bipush dX9_init_131 rfl ?_
  refine gj_newI2 (kc := 0) (ks := 0) (N := 18) (n2 := 50) rfl rfl rfl dX9_init_133 rfl rfl ?_
  refine gj_pA27 dX9_init_135 fX9_58 rfl ⟨_, _, rfl⟩ (upw_o (by decide) upw_s) rfl ?_
  refine gj_iconst dX9_init_138 ?_
  refine gj_is1 dX9_init_139 rfl rfl ?_
  have loop140 : ∀ (k : Nat), ∀ (w1 : AW), ∀ (f : Int → Int) (i : Int), (w1 32 = (oM 0 0 0 0 0 0 0 0 0 0 0 0)) → (w1 33 = cI 4 f) → (w1 34 = cI 4 (fun _ => 0)) → (w1 35 = cI 240 (fun _ => 0)) → (w1 36 = cI 60 (fun _ => 0)) → (w1 37 = cI 47 (fun _ => 0)) → (w1 38 = cI 36 (fun _ => 0)) → (w1 39 = cI 24 (fun _ => 0)) → (w1 40 = cI 8 (fun _ => 0)) → (w1 41 = cI 8 (fun _ => 0)) → (w1 42 = cI 2 (fun _ => 0)) → (w1 43 = cI 8 (fun _ => 0)) → (w1 44 = cI 9 (fun _ => 0)) → (w1 45 = cI 9 (fun _ => 0)) → (w1 46 = cI 9 (fun _ => 0)) → (w1 47 = cI 9 (fun _ => 0)) → (w1 48 = cI 9 (fun _ => 0)) → (w1 49 = cI 18 (fun _ => 0)) → (∀ k : Nat, k < 32 → w1 k = w k) → (0 ≤ i ∧ i ≤ 4) → (∀ j : Int, 0 ≤ j → j < i → f j = -1) → (4 - i).toNat < k → Gj l x iX9_init d 17 504 50 (Wv (fun w2 => ModelC w2 (fun _ => 0) 0 (ruF 8) (facF 8) (fun _ => 0) 0 0 5 2 (fun _ => 0) (fun _ => 0) (fun _ => 0) 0 0 (fun _ => -1) (fun _ => 0) (fun _ _ => 0) ∧ ∀ k : Nat, k < 32 → w2 k = w k)) 0 0 50 w1 140 [some (vR 32), some (vI i)] [] := by
    intro k
    induction k with
    | zero => intro _ _ _ _ _ _ _ _ _ _ _ _ _ _ _ _ _ _ _ _ _ _ _ _ hm; exact absurd hm (Nat.not_lt_zero _)
    | succ k ih140 =>
      intro w1 f i e32 e33 e34 e35 e36 e37 e38 e39 e40 e41 e42 e43 e44 e45 e46 e47 e48 e49 eF hi hf hm140
      refine gj_il1 dX9_init_140 ?_
      refine gj_iconst dX9_init_141 ?_
      refine gj_icmp_ge dX9_init_142 (by omega) (fun h142 => ?_) (fun h142 => ?_)
      · refine gj_iconst dX9_init_158 ?_
        refine gj_is1 dX9_init_159 rfl rfl ?_
        have loop160 : ∀ (k : Nat), ∀ (w2 : AW), ∀ (j : Int), (w2 32 = (oM 0 0 0 0 0 0 0 0 0 0 0 0)) → (w2 33 = cI 4 f) → (w2 34 = cI 4 (fun _ => 0)) → (w2 35 = cI 240 (fun _ => 0)) → (w2 36 = cI 60 (fun _ => 0)) → (w2 37 = cI 47 (fun _ => 0)) → (w2 38 = cI 36 (fun _ => 0)) → (w2 39 = cI 24 (facF j)) → (w2 40 = cI 8 (ruF j)) → (w2 41 = cI 8 (fun _ => 0)) → (w2 42 = cI 2 (fun _ => 0)) → (w2 43 = cI 8 (fun _ => 0)) → (w2 44 = cI 9 (fun _ => 0)) → (w2 45 = cI 9 (fun _ => 0)) → (w2 46 = cI 9 (fun _ => 0)) → (w2 47 = cI 9 (fun _ => 0)) → (w2 48 = cI 9 (fun _ => 0)) → (w2 49 = cI 18 (fun _ => 0)) → (∀ k : Nat, k < 32 → w2 k = w k) → (0 ≤ j ∧ j ≤ 8) → (8 - j).toNat < k → Gj l x iX9_init d 17 504 50 (Wv (fun w2 => ModelC w2 (fun _ => 0) 0 (ruF 8) (facF 8) (fun _ => 0) 0 0 5 2 (fun _ => 0) (fun _ => 0) (fun _ => 0) 0 0 (fun _ => -1) (fun _ => 0) (fun _ _ => 0) ∧ ∀ k : Nat, k < 32 → w2 k = w k)) 0 0 50 w2 160 [some (vR 32), some (vI j)] [] := by
          intro k
          induction k with
          | zero => intro _ _ _ _ _ _ _ _ _ _ _ _ _ _ _ _ _ _ _ _ _ _ hm; exact absurd hm (Nat.not_lt_zero _)
          | succ k ih160 =>
            intro w2 j g32 g33 g34 g35 g36 g37 g38 g39 g40 g41 g42 g43 g44 g45 g46 g47 g48 g49 gF hj hm160
            refine gj_il1 dX9_init_160 ?_
            refine gj_bipush dX9_init_161 rfl ?_
            refine gj_icmp_ge dX9_init_163 (by omega) (fun h163 => ?_) (fun h163 => ?_)
            · refine gj_al0 dX9_init_202 ?_
              refine gj_get dX9_init_203 fX9_37 g32 rfl rfl ?_
              refine gj_iconst dX9_init_206 ?_
              refine gj_iconst dX9_init_207 ?_
              refine gj_iast dX9_init_208 g42 rfl rfl (by omega) ?_
              refine gj_al0 dX9_init_209 ?_
              refine gj_get dX9_init_210 fX9_37 (upw_o (by decide) g32) rfl rfl ?_
              refine gj_iconst dX9_init_213 ?_
              refine gj_iconst dX9_init_214 ?_
              refine gj_iast dX9_init_215 upw_s rfl rfl (by omega) ?_
              refine gj_al0 dX9_init_216 ?_
              refine gj_iconst dX9_init_217 ?_
              refine gj_pI28 dX9_init_218 fX9_61 (upw_o (by decide) (upw_o (by decide) g32)) rfl ?_
              exact gj_vret dX9_init_221 rfl (wv_v ⟨⟨_, _, _, _, _, _, _, _, _, _, _, _, _, _, _, _, _, _, _, _, upw_s, (upw_o (by decide) (upw_o (by decide) (upw_o (by decide) g33))), (upw_o (by decide) (upw_o (by decide) (upw_o (by decide) g34))), (upw_o (by decide) (upw_o (by decide) (upw_o (by decide) g35))), (upw_o (by decide) (upw_o (by decide) (upw_o (by decide) g36))), (upw_o (by decide) (upw_o (by decide) (upw_o (by decide) g37))), (upw_o (by decide) (upw_o (by decide) (upw_o (by decide) g38))), (by rw [show (8 : Int) = j by omega]; exact (upw_o (by decide) (upw_o (by decide) (upw_o (by decide) g39)))), (by rw [show (8 : Int) = j by omega]; exact (upw_o (by decide) (upw_o (by decide) (upw_o (by decide) g40)))), (upw_o (by decide) (upw_o (by decide) (upw_o (by decide) g41))), (upw_o (by decide) upw_s), (by rw [upf_o _ _ (by omega), upf_s]), (by rw [upf_s]), (upw_o (by decide) (upw_o (by decide) (upw_o (by decide) g43))), (upw_o (by decide) (upw_o (by decide) (upw_o (by decide) g44))), (upw_o (by decide) (upw_o (by decide) (upw_o (by decide) g45))), (upw_o (by decide) (upw_o (by decide) (upw_o (by decide) g46))), (upw_o (by decide) (upw_o (by decide) (upw_o (by decide) g47))), (upw_o (by decide) (upw_o (by decide) (upw_o (by decide) g48))), (upw_o (by decide) (upw_o (by decide) (upw_o (by decide) g49))), (fun k g0 g1 => absurd g1 (by omega)), (fun s s0 s1 => ⟨hf s s0 (by omega), fun c => absurd rfl c⟩)⟩, (fun k hk => upw_o (by omega) ((fun k hk => upw_o (by omega) ((fun k hk => upw_o (by omega) (gF k hk)) k hk)) k hk))⟩)
            · refine gj_al0 dX9_init_166 ?_
              refine gj_get dX9_init_167 fX9_28 g32 rfl rfl ?_
              refine gj_iconst dX9_init_170 ?_
              refine gj_il1 dX9_init_171 ?_
              refine gj_imul dX9_init_172 ?_
              refine gj_iconst dX9_init_173 ?_
              refine gj_iadd dX9_init_174 ?_
              refine gj_iconst dX9_init_175 ?_
              refine gj_iast dX9_init_176 g39 rfl rfl (by omega) ?_
              refine gj_al0 dX9_init_177 ?_
              refine gj_get dX9_init_178 fX9_31 (upw_o (by decide) g32) rfl rfl ?_
              refine gj_il1 dX9_init_181 ?_
              refine gj_il1 dX9_init_182 ?_
              refine gj_iconst dX9_init_183 ?_
              refine gj_irem dX9_init_184 (by omega) (by omega) ?_
              refine gj_if_ne dX9_init_185 (by omega) (fun h185 => ?_) (fun h185 => ?_)
              · refine gj_bipush dX9_init_193 rfl ?_
                refine gj_iast dX9_init_195 (upw_o (by decide) g40) rfl rfl (by omega) ?_
                refine gj_ii1 dX9_init_196 rfl rfl ?_
                refine gj_goto dX9_init_199 ?_
                exact ih160 _ _ (upw_o (by decide) (upw_o (by decide) g32)) (upw_o (by decide) (upw_o (by decide) g33)) (upw_o (by decide) (upw_o (by decide) g34)) (upw_o (by decide) (upw_o (by decide) g35)) (upw_o (by decide) (upw_o (by decide) g36)) (upw_o (by decide) (upw_o (by decide) g37)) (upw_o (by decide) (upw_o (by decide) g38)) (by rw [← facF_s hj.1]; exact (upw_o (by decide) upw_s)) (by rw [← ruF_s (v := 18) hj.1 (by first | rw [if_pos (by omega)] | rw [if_neg (by omega)])]; exact upw_s) (upw_o (by decide) (upw_o (by decide) g41)) (upw_o (by decide) (upw_o (by decide) g42)) (upw_o (by decide) (upw_o (by decide) g43)) (upw_o (by decide) (upw_o (by decide) g44)) (upw_o (by decide) (upw_o (by decide) g45)) (upw_o (by decide) (upw_o (by decide) g46)) (upw_o (by decide) (upw_o (by decide) g47)) (upw_o (by decide) (upw_o (by decide) g48)) (upw_o (by decide) (upw_o (by decide) g49)) (fun k hk => upw_o (by omega) ((fun k hk => upw_o (by omega) (gF k hk)) k hk)) (by omega) (by omega)
              · refine gj_bipush dX9_init_188 rfl ?_
                refine gj_goto dX9_init_190 ?_
                refine gj_iast dX9_init_195 (upw_o (by decide) g40) rfl rfl (by omega) ?_
                refine gj_ii1 dX9_init_196 rfl rfl ?_
                refine gj_goto dX9_init_199 ?_
                exact ih160 _ _ (upw_o (by decide) (upw_o (by decide) g32)) (upw_o (by decide) (upw_o (by decide) g33)) (upw_o (by decide) (upw_o (by decide) g34)) (upw_o (by decide) (upw_o (by decide) g35)) (upw_o (by decide) (upw_o (by decide) g36)) (upw_o (by decide) (upw_o (by decide) g37)) (upw_o (by decide) (upw_o (by decide) g38)) (by rw [← facF_s hj.1]; exact (upw_o (by decide) upw_s)) (by rw [← ruF_s (v := 6) hj.1 (by first | rw [if_pos (by omega)] | rw [if_neg (by omega)])]; exact upw_s) (upw_o (by decide) (upw_o (by decide) g41)) (upw_o (by decide) (upw_o (by decide) g42)) (upw_o (by decide) (upw_o (by decide) g43)) (upw_o (by decide) (upw_o (by decide) g44)) (upw_o (by decide) (upw_o (by decide) g45)) (upw_o (by decide) (upw_o (by decide) g46)) (upw_o (by decide) (upw_o (by decide) g47)) (upw_o (by decide) (upw_o (by decide) g48)) (upw_o (by decide) (upw_o (by decide) g49)) (fun k hk => upw_o (by omega) ((fun k hk => upw_o (by omega) (gF k hk)) k hk)) (by omega) (by omega)
        exact loop160 _ _ _ e32 e33 e34 e35 e36 e37 e38 (by rw [facF_0]; exact e39) (by rw [ruF_0]; exact e40) e41 e42 e43 e44 e45 e46 e47 e48 e49 eF (by omega) (Nat.lt_succ_self _)
      · refine gj_al0 dX9_init_145 ?_
        refine gj_get dX9_init_146 fX9_7 e32 rfl rfl ?_
        refine gj_il1 dX9_init_149 ?_
        refine gj_iconst dX9_init_150 ?_
        refine gj_iast dX9_init_151 e33 rfl rfl (by omega) ?_
        refine gj_ii1 dX9_init_152 rfl rfl ?_
        refine gj_goto dX9_init_155 ?_
        exact ih140 _ _ _ (upw_o (by decide) e32) upw_s (upw_o (by decide) e34) (upw_o (by decide) e35) (upw_o (by decide) e36) (upw_o (by decide) e37) (upw_o (by decide) e38) (upw_o (by decide) e39) (upw_o (by decide) e40) (upw_o (by decide) e41) (upw_o (by decide) e42) (upw_o (by decide) e43) (upw_o (by decide) e44) (upw_o (by decide) e45) (upw_o (by decide) e46) (upw_o (by decide) e47) (upw_o (by decide) e48) (upw_o (by decide) e49) (fun k hk => upw_o (by omega) (eF k hk)) (by omega) (fun j g0 g1 => by by_cases e : j = i; (rw [e, upf_s]); (rw [upf_o _ _ e]; exact hf j g0 (by omega))) (by omega)
  exact loop140 _ _ _ _ upw_s (upw_o (by decide) (upw_o (by decide) (upw_o (by decide) (upw_o (by decide) (upw_o (by decide) (upw_o (by decide) (upw_o (by decide) (upw_o (by decide) (upw_o (by decide) (upw_o (by decide) (upw_o (by decide) (upw_o (by decide) (upw_o (by decide) (upw_o (by decide) (upw_o (by decide) (upw_o (by decide) (upw_o (by decide) (upw_o (by decide) (upw_o (by decide) (upw_o (by decide) (upw_o (by decide) (upw_o (by decide) (upw_o (by decide) (upw_o (by decide) (upw_o (by decide) (upw_o (by decide) (upw_o (by decide) (upw_o (by decide) (upw_o (by decide) (upw_o (by decide) (upw_o (by decide) (upw_o (by decide) (upw_o (by decide) upw_s))))))))))))))))))))))))))))))))) (upw_o (by decide) (upw_o (by decide) (upw_o (by decide) (upw_o (by decide) (upw_o (by decide) (upw_o (by decide) (upw_o (by decide) (upw_o (by decide) (upw_o (by decide) (upw_o (by decide) (upw_o (by decide) (upw_o (by decide) (upw_o (by decide) (upw_o (by decide) (upw_o (by decide) (upw_o (by decide) (upw_o (by decide) (upw_o (by decide) (upw_o (by decide) (upw_o (by decide) (upw_o (by decide) (upw_o (by decide) (upw_o (by decide) (upw_o (by decide) (upw_o (by decide) (upw_o (by decide) (upw_o (by decide) (upw_o (by decide) (upw_o (by decide) (upw_o (by decide) (upw_o (by decide) upw_s))))))))))))))))))))))))))))))) (upw_o (by decide) (upw_o (by decide) (upw_o (by decide) (upw_o (by decide) (upw_o (by decide) (upw_o (by decide) (upw_o (by decide) (upw_o (by decide) (upw_o (by decide) (upw_o (by decide) (upw_o (by decide) (upw_o (by decide) (upw_o (by decide) (upw_o (by decide) (upw_o (by decide) (upw_o (by decide) (upw_o (by decide) (upw_o (by decide) (upw_o (by decide) (upw_o (by decide) (upw_o (by decide) (upw_o (by decide) (upw_o (by decide) (upw_o (by decide) (upw_o (by decide) (upw_o (by decide) (upw_o (by decide) (upw_o (by decide) (upw_o (by decide) upw_s))))))))))))))))))))))))))))) (upw_o (by decide) (upw_o (by decide) (upw_o (by decide) (upw_o (by decide) (upw_o (by decide) (upw_o (by decide) (upw_o (by decide) (upw_o (by decide) (upw_o (by decide) (upw_o (by decide) (upw_o (by decide) (upw_o (by decide) (upw_o (by decide) (upw_o (by decide) (upw_o (by decide) (upw_o (by decide) (upw_o (by decide) (upw_o (by decide) (upw_o (by decide) (upw_o (by decide) (upw_o (by decide) (upw_o (by decide) (upw_o (by decide) (upw_o (by decide) (upw_o (by decide) (upw_o (by decide) (upw_o (by decide) upw_s))))))))))))))))))))))))))) (upw_o (by decide) (upw_o (by decide) (upw_o (by decide) (upw_o (by decide) (upw_o (by decide) (upw_o (by decide) (upw_o (by decide) (upw_o (by decide) (upw_o (by decide) (upw_o (by decide) (upw_o (by decide) (upw_o (by decide) (upw_o (by decide) (upw_o (by decide) (upw_o (by decide) (upw_o (by decide) (upw_o (by decide) (upw_o (by decide) (upw_o (by decide) (upw_o (by decide) (upw_o (by decide) (upw_o (by decide) (upw_o (by decide) (upw_o (by decide) (upw_o (by decide) upw_s))))))))))))))))))))))))) (upw_o (by decide) (upw_o (by decide) (upw_o (by decide) (upw_o (by decide) (upw_o (by decide) (upw_o (by decide) (upw_o (by decide) (upw_o (by decide) (upw_o (by decide) (upw_o (by decide) (upw_o (by decide) (upw_o (by decide) (upw_o (by decide) (upw_o (by decide) (upw_o (by decide) (upw_o (by decide) (upw_o (by decide) (upw_o (by decide) (upw_o (by decide) (upw_o (by decide) (upw_o (by decide) (upw_o (by decide) (upw_o (by decide) upw_s))))))))))))))))))))))) (upw_o (by decide) (upw_o (by decide) (upw_o (by decide) (upw_o (by decide) (upw_o (by decide) (upw_o (by decide) (upw_o (by decide) (upw_o (by decide) (upw_o (by decide) (upw_o (by decide) (upw_o (by decide) (upw_o (by decide) (upw_o (by decide) (upw_o (by decide) (upw_o (by decide) (upw_o (by decide) (upw_o (by decide) (upw_o (by decide) (upw_o (by decide) (upw_o (by decide) (upw_o (by decide) upw_s))))))))))))))))))))) (upw_o (by decide) (upw_o (by decide) (upw_o (by decide) (upw_o (by decide) (upw_o (by decide) (upw_o (by decide) (upw_o (by decide) (upw_o (by decide) (upw_o (by decide) (upw_o (by decide) (upw_o (by decide) (upw_o (by decide) (upw_o (by decide) (upw_o (by decide) (upw_o (by decide) (upw_o (by decide) (upw_o (by decide) (upw_o (by decide) (upw_o (by decide) upw_s))))))))))))))))))) (upw_o (by decide) (upw_o (by decide) (upw_o (by decide) (upw_o (by decide) (upw_o (by decide) (upw_o (by decide) (upw_o (by decide) (upw_o (by decide) (upw_o (by decide) (upw_o (by decide) (upw_o (by decide) (upw_o (by decide) (upw_o (by decide) (upw_o (by decide) (upw_o (by decide) (upw_o (by decide) (upw_o (by decide) upw_s))))))))))))))))) (upw_o (by decide) (upw_o (by decide) (upw_o (by decide) (upw_o (by decide) (upw_o (by decide) (upw_o (by decide) (upw_o (by decide) (upw_o (by decide) (upw_o (by decide) (upw_o (by decide) (upw_o (by decide) (upw_o (by decide) (upw_o (by decide) (upw_o (by decide) (upw_o (by decide) upw_s))))))))))))))) (upw_o (by decide) (upw_o (by decide) (upw_o (by decide) (upw_o (by decide) (upw_o (by decide) (upw_o (by decide) (upw_o (by decide) (upw_o (by decide) (upw_o (by decide) (upw_o (by decide) (upw_o (by decide) (upw_o (by decide) (upw_o (by decide) upw_s))))))))))))) (upw_o (by decide) (upw_o (by decide) (upw_o (by decide) (upw_o (by decide) (upw_o (by decide) (upw_o (by decide) (upw_o (by decide) (upw_o (by decide) (upw_o (by decide) (upw_o (by decide) (upw_o (by decide) upw_s))))))))))) (upw_o (by decide) (upw_o (by decide) (upw_o (by decide) (upw_o (by decide) (upw_o (by decide) (upw_o (by decide) (upw_o (by decide) (upw_o (by decide) (upw_o (by decide) upw_s))))))))) (upw_o (by decide) (upw_o (by decide) (upw_o (by decide) (upw_o (by decide) (upw_o (by decide) (upw_o (by decide) (upw_o (by decide) upw_s))))))) (upw_o (by decide) (upw_o (by decide) (upw_o (by decide) (upw_o (by decide) (upw_o (by decide) upw_s))))) (upw_o (by decide) (upw_o (by decide) (upw_o (by decide) upw_s))) (upw_o (by decide) upw_s) (fun k hk => upw_o (by omega) ((fun k hk => upw_o (by omega) ((fun k hk => upw_o (by omega) ((fun k hk => upw_o (by omega) ((fun k hk => upw_o (by omega) ((fun k hk => upw_o (by omega) ((fun k hk => upw_o (by omega) ((fun k hk => upw_o (by omega) ((fun k hk => upw_o (by omega) ((fun k hk => upw_o (by omega) ((fun k hk => upw_o (by omega) ((fun k hk => upw_o (by omega) ((fun k hk => upw_o (by omega) ((fun k hk => upw_o (by omega) ((fun k hk => upw_o (by omega) ((fun k hk => upw_o (by omega) ((fun k hk => upw_o (by omega) ((fun k hk => upw_o (by omega) ((fun k hk => upw_o (by omega) ((fun k hk => upw_o (by omega) ((fun k hk => upw_o (by omega) ((fun k hk => upw_o (by omega) ((fun k hk => upw_o (by omega) ((fun k hk => upw_o (by omega) ((fun k hk => upw_o (by omega) ((fun k hk => upw_o (by omega) ((fun k hk => upw_o (by omega) ((fun k hk => upw_o (by omega) ((fun k hk => upw_o (by omega) ((fun k hk => upw_o (by omega) ((fun k hk => upw_o (by omega) ((fun k hk => upw_o (by omega) ((fun k hk => upw_o (by omega) ((fun k hk => upw_o (by omega) ((fun (k : Nat) (_ : k < 32) => rfl) k hk)) k hk)) k hk)) k hk)) k hk)) k hk)) k hk)) k hk)) k hk)) k hk)) k hk)) k hk)) k hk)) k hk)) k hk)) k hk)) k hk)) k hk)) k hk)) k hk)) k hk)) k hk)) k hk)) k hk)) k hk)) k hk)) k hk)) k hk)) k hk)) k hk)) k hk)) k hk)) k hk)) k hk)) (by omega) (fun j g0 g1 => absurd g1 (by omega)) (Nat.lt_succ_self _)
