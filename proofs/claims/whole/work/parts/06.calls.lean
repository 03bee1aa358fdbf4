/-! rows of Gj for calls and returns; a method's contract Mt -/
def wsY (y : MI) : List Cond := Cond.code y.1 y.2.1 y.2.2.1 y.2.2.2 :: lw_g
def PcA (x : Cx) (n : Nat) (w : AW) (As : List AV) : Array Value → State → Prop := fun v U =>
  v = (As.map (cv x.1)).toArray ∧ va_K x.2.1 vwCl (tysX x) U ∧ va_P x.2.1 vwCl (cw x n w) U.heap ∧ U.heap.size = x.1 + n ∧ va_AO "BishopsPeace$Sheet" U
/-- the contract of method y at this start: it returns, and Q holds of its answer and the world behind it; mc cells of at most ms slots are new -/
def Mt (l : Launch) (x : Cx) (y : MI) (d mc ms n : Nat) (w : AW) (As : List AV) (Q : QT) : Prop :=
  Met l y.1 (wsY y) (rmX d mc ms) (PcA x n w As) (QcA x (n + mc) Q) mc ms (AX x)
theorem lw_good {t : Cond} (h : t ∈ lw_g) : goodWord t = true := (List.mem_filter.mp h).2
theorem good_cw {y : MI} (h : Cond.code y.1 y.2.1 y.2.2.1 y.2.2.2 ∈ lw_g) : GoodIn lw_g (wsY y) := by
  intro t ht
  have hm : t ∈ lw_g := by
    rcases List.mem_cons.mp ht with h1 | h1
    · rw [h1]; exact h
    · exact h1
  exact ⟨hm, good_of_word (lw_good hm)⟩
/-- what the tables say of a callee: an instance method of the ci-th class; a static method; a constructor -/
def CV (y : MI) (na ci : Nat) : Prop := Cond.instanceMethod y.1 ∈ lw_g ∧ Cond.selects y.1.cls y.1 y.1 ∈ lw_g ∧ Cond.initialized y.1.cls ∈ lw_g ∧ Cond.code y.1 y.2.1 y.2.2.1 y.2.2.2 ∈ lw_g ∧ (y.1.cls ≠ "java/lang/invoke/MethodHandle" ∧ y.1.cls ≠ "java/lang/invoke/VarHandle" ∧ (parseMethodDescriptor y.1.desc).map (fun d => d.parameters.length) = some na) ∧ (∃ T N, vwCl[ci]? = some (y.1.cls, T, N)) ∧ y.2.2.1 ≤ 20
def CS (y : MI) (na : Nat) : Prop := Cond.static y.1 ∈ lw_g ∧ Cond.initialized y.1.cls ∈ lw_g ∧ Cond.code y.1 y.2.1 y.2.2.1 y.2.2.2 ∈ lw_g ∧ (y.1.cls ≠ "java/lang/invoke/MethodHandle" ∧ y.1.cls ≠ "java/lang/invoke/VarHandle" ∧ (parseMethodDescriptor y.1.desc).map (fun d => d.parameters.length) = some na) ∧ y.2.2.1 ≤ 20
def CN (y : MI) (na : Nat) : Prop := Cond.instanceMethod y.1 ∈ lw_g ∧ Cond.initialized y.1.cls ∈ lw_g ∧ Cond.code y.1 y.2.1 y.2.2.1 none ∈ lw_g ∧ y.2.2.2 = none ∧ y.1.name = "<init>" ∧ (y.1.cls ≠ "java/lang/invoke/MethodHandle" ∧ y.1.cls ≠ "java/lang/invoke/VarHandle" ∧ (parseMethodDescriptor y.1.desc).map (fun d => d.parameters.length) = some na) ∧ y.2.2.1 ≤ 20
def wS : List AV → Nat
  | [] => 0
  | (.inr (.inl _)) :: t => 2 + wS t
  | _ :: t => 1 + wS t
theorem wS_c (b : Nat) : ∀ S : List AV, ((S.map (cv b)).map fun v => v.category).sum = wS S
  | [] => rfl
  | .inl z :: t => by
    rw [List.map_cons, List.map_cons, List.sum_cons, wS_c b t]; rfl
  | .inr (.inl z) :: t => by
    rw [List.map_cons, List.map_cons, List.sum_cons, wS_c b t]; rfl
  | .inr (.inr o) :: t => by
    rw [List.map_cons, List.map_cons, List.sum_cons, wS_c b t]
    cases o <;> rfl
theorem PcA_blind {x : Cx} {n : Nat} {w : AW} {As : List AV} : FrameBlind (PcA x n w As) := by
  intro a U g mk q
  obtain ⟨q0, qK, qP, qs, qA⟩ := q
  exact ⟨q0, va_K.moved (u := U) (U := U.calling g mk a) (Vm.Alike.refl U.vm) qK, qP, qs, va_AO.moved (u := U) (U := U.calling g mk a) (Vm.Alike.refl U.vm) qA⟩
theorem entA_args (b : Nat) : ∀ (As : List AV) (k : Nat), lv_args k (As.map (cv b)) = lvL b k (entA As)
  | [], k => rfl
  | .inl z :: t, k => by
    show (k, cv b (.inl z)) :: lv_args (k + 1) (t.map (cv b)) = _
    rw [entA_args b t (k + 1)]; rfl
  | .inr (.inl z) :: t, k => by
    show (k, cv b (.inr (.inl z))) :: lv_args (k + 2) (t.map (cv b)) = _
    rw [entA_args b t (k + 2)]; rfl
  | .inr (.inr none) :: t, k => by
    show (k, cv b (.inr (.inr none))) :: lv_args (k + 1) (t.map (cv b)) = _
    rw [entA_args b t (k + 1)]; rfl
  | .inr (.inr (some j)) :: t, k => by
    show (k, cv b (.inr (.inr (some j)))) :: lv_args (k + 1) (t.map (cv b)) = _
    rw [entA_args b t (k + 1)]; rfl
theorem entA_len (b : Nat) : ∀ (As : List AV), (lg_sl (As.map (cv b))).length = (entA As).length
  | [] => rfl
  | .inl z :: t => by
    have := entA_len b t
    simp only [lg_sl, List.map_cons, List.flatMap_cons, List.length_append, entA, List.length_cons] at this ⊢
    rw [this]; show 1 + _ = _; omega
  | .inr (.inl z) :: t => by
    have := entA_len b t
    simp only [lg_sl, List.map_cons, List.flatMap_cons, List.length_append, entA, List.length_cons] at this ⊢
    rw [this]; show 2 + _ = _; omega
  | .inr (.inr none) :: t => by
    have := entA_len b t
    simp only [lg_sl, List.map_cons, List.flatMap_cons, List.length_append, entA, List.length_cons] at this ⊢
    rw [this]; show 1 + _ = _; omega
  | .inr (.inr (some j)) :: t => by
    have := entA_len b t
    simp only [lg_sl, List.map_cons, List.flatMap_cons, List.length_append, entA, List.length_cons] at this ⊢
    rw [this]; show 1 + _ = _; omega
theorem lk_app : ∀ (A B : List (Option AV)) (i : Nat) (v : AV), (∀ j u, lk B j ≠ some u) → lk (A ++ B) i = some v → lk A i = some v
  | [], B, i, v, hB, h => absurd h (hB i v)
  | a :: t, B, 0, v, hB, h => h
  | a :: t, B, i + 1, v, hB, h => lk_app t B i v hB h
theorem lk_rep : ∀ (k j : Nat) (u : AV), lk (List.replicate k none) j ≠ some u
  | 0, j, u => by simp [lk]
  | k + 1, 0, u => by simp [List.replicate, lk]
  | k + 1, j + 1, u => by
    rw [List.replicate_succ]
    exact lk_rep k j u
theorem w_oi : Cond.instanceMethod objectInit ∈ lw_g := List.mem_filter.mpr ⟨by decide +kernel, by decide +kernel⟩
theorem w_oc : Cond.code objectInit ⟨#[0xb1]⟩ 1 none ∈ lw_g := List.mem_filter.mpr ⟨by decide +kernel, by decide +kernel⟩
theorem w_mins : Cond.static Lib.Math.min.name ∈ lw_g := List.mem_filter.mpr ⟨by decide +kernel, by decide +kernel⟩
theorem w_mathi : Cond.initialized "java/lang/Math" ∈ lw_g := List.mem_filter.mpr ⟨by decide +kernel, by decide +kernel⟩
theorem w_minc : Cond.code Lib.Math.min.name Lib.Math.min.code 2 (some .int) ∈ lw_g := List.mem_filter.mpr ⟨by decide +kernel, by decide +kernel⟩
theorem w_abss : Cond.static Lib.Math.abs.name ∈ lw_g := List.mem_filter.mpr ⟨by decide +kernel, by decide +kernel⟩
theorem w_absc : Cond.code Lib.Math.abs.name Lib.Math.abs.code 1 (some .int) ∈ lw_g := List.mem_filter.mpr ⟨by decide +kernel, by decide +kernel⟩
theorem w_acn : Cond.native arraycopyName ∈ lw_g := List.mem_filter.mpr ⟨by decide +kernel, by decide +kernel⟩
theorem w_acs : Cond.static arraycopyName ∈ lw_g := List.mem_filter.mpr ⟨by decide +kernel, by decide +kernel⟩
theorem w_aci : Cond.initialized "java/lang/System" ∈ lw_g := List.mem_filter.mpr ⟨by decide +kernel, by decide +kernel⟩
section GC
variable {l : Launch} {x : Cx} {y : MI} {d mc ms nf : Nat} {Q : QT} {kc ks n : Nat} {w : AW} {pc nx tg : Nat} {L : List (Option AV)} {S : List AV}
theorem Mt.of {As : List AV} {L0 : List (Option AV)} (hy : plainName y.1.cls = true) (hlen : Nat.ble (entA As).length y.2.2.1 = true) (hL : entL As y.2.2.1 = L0) (k : Gj l x y d mc ms (n + mc) Q mc ms n w 0 L0 []) : Mt l x y d mc ms n w As Q := by
  refine Met.ofW (cc := y.2.1) (maxL := y.2.2.1) (ret := y.2.2.2) hy rfl ?_
  intro p e s m args below meth c s₁ B hml hv
  obtain ⟨rfl, hK, hP, hz, hAO⟩ := hv
  have hts : ∀ t ∈ lw_g, t.before (As.map (cv x.1)).toArray s = true := fun t ht => atoms_spec (ws := wsY y) B.pre t (List.mem_cons_of_mem _ ht)
  have hent := lv_entry (As.map (cv x.1)) (n := y.2.2.1) (by rw [entA_len]; exact Nat.le_of_ble_eq_true hlen)
  rw [lg_entry_eq]
  refine k p e s m _ below meth c s.heap [] 0 0 _ ⟨B.exec, B.bytes, B.returns, hml, findClass_of_methodNamed B.named, hts, B.notSynchronized, (name_of_methodNamed B.named B.method).1⟩ ⟨hK, hP, by omega, va_S.rf, by omega, hAO⟩ ⟨by omega, rfl⟩ (by omega) ?_
  refine ⟨hent.1, hent.2.1, fun q hq => hent.2.2 q ?_⟩
  rw [entA_args]
  obtain ⟨i, v, h1, rfl⟩ := (lvL_mem L0 0 q).mp hq
  refine (lvL_mem _ 0 _).mpr ⟨i, v, ?_, rfl⟩
  rw [← hL] at h1
  exact lk_app _ _ i v (lk_rep _) h1
theorem gj_iret {z : Int} (dg : AtI y pc .ireturn 1 nx) (hr : y.2.2.2 = some .int) (hq : Q (some (vI z)) w) : Gj l x y d mc ms n Q 0 ks n w pc L [vI z] := by
  intro p e s m args below meth c H locs cells slots ls F X h1 h2 hl
  obtain ⟨h1, -⟩ := h1
  refine W.widen (k := mc) (n := ms) (by omega) (by omega) ?_
  exact W.iret (v := iZ z) F.1 F.2.1 (F.2.2.1.trans hr) (fun t ht hW => ⟨⟨some (vI z), w, rfl, hq, va_K.moved hW.alike X.1, by rw [ht]; exact X.2.1⟩, X.2.2.2.1.F ht⟩) X.2.2.2.1.2.2 dg.1 F.2.2.2.2.2.2.1
theorem gj_zret {z : Int} (hz : z = 0 ∨ z = 1) (dg : AtI y pc .ireturn 1 nx) (hr : y.2.2.2 = some .boolean) (hq : Q (some (vI z)) w) : Gj l x y d mc ms n Q 0 ks n w pc L [vI z] := by
  intro p e s m args below meth c H locs cells slots ls F X h1 h2 hl
  obtain ⟨h1, -⟩ := h1
  refine W.widen (k := mc) (n := ms) (by omega) (by omega) ?_
  exact W.zret (v := iZ z) F.1 F.2.1 (F.2.2.1.trans hr) ((nar_Z hz) x.1).1 (fun t ht hW => ⟨⟨some (vI z), w, rfl, hq, va_K.moved hW.alike X.1, by rw [ht]; exact X.2.1⟩, X.2.2.2.1.F ht⟩) X.2.2.2.1.2.2 dg.1 F.2.2.2.2.2.2.1
theorem gj_lret {z : Int} (dg : AtI y pc .lreturn 1 nx) (hr : y.2.2.2 = some .long) (hq : Q (some (vL z)) w) : Gj l x y d mc ms n Q 0 ks n w pc L [vL z] := by
  intro p e s m args below meth c H locs cells slots ls F X h1 h2 hl
  obtain ⟨h1, -⟩ := h1
  refine W.widen (k := mc) (n := ms) (by omega) (by omega) ?_
  exact W.lret (v := lZ z) F.1 F.2.1 (F.2.2.1.trans hr) (fun t ht hW => ⟨⟨some (vL z), w, rfl, hq, va_K.moved hW.alike X.1, by rw [ht]; exact X.2.1⟩, X.2.2.2.1.F ht⟩) X.2.2.2.1.2.2 dg.1 F.2.2.2.2.2.2.1
theorem gj_vret (dg : AtI y pc .return_ 1 nx) (hr : y.2.2.2 = none) (hq : Q none w) : Gj l x y d mc ms n Q 0 ks n w pc L [] := by
  intro p e s m args below meth c H locs cells slots ls F X h1 h2 hl
  obtain ⟨h1, -⟩ := h1
  refine W.widen (k := mc) (n := ms) (by omega) (by omega) ?_
  exact W.vret F.1 F.2.1 (F.2.2.1.trans hr) (fun t ht hW => ⟨⟨none, w, rfl, hq, va_K.moved hW.alike X.1, by rw [ht]; exact X.2.1⟩, X.2.2.2.1.F ht⟩) X.2.2.2.1.2.2 dg.1 F.2.2.2.2.2.2.1
/-- behind a call -/
theorem gj_back {p : Program} {e : Env} {R : Room} {s : State} {m : MethodId} {args : Array Value} {below : List Frame} {meth : Method} {c : Code} {H : Heap} {locs : List Loc} {cells slots : Nat} {Z : State → Prop} {ls : Array Slot} {st0 : List Value} {rest : List AV} {a : Array Value} {n2 mc2 ms2 : Nat} {Q2 : QT}
    (hr : va_Run p l e R s m args below meth c H locs cells slots mc2 ms2 (F0 m pc ls st0) (rest.map (cv x.1)) (QcA x n2 Q2 a) (AX x)) (X : HX x n w s H locs cells) (hn2 : n2 = n + mc2)
    (kk : ∀ (v : Option AV) (w2 : AW) (H1 : Heap) (locs1 : List Loc), Q2 v w2 → HX x n2 w2 s H1 locs1 (cells + mc2) → W p l e R s m args below meth c H1 locs1 (cells + mc2) (slots + ms2) Z (F0 m (pc + 3) ls ((v.toList ++ rest).map (cv x.1)))) : W p l e R s m args below meth c H locs cells slots Z (F0 m pc ls st0) := by
  intro T hT X1
  obtain ⟨v, st₀, t, T', L9, h0, X', hL, e1, e2, ⟨⟨v2, w2, hv, hQ, hK2, hP2⟩, hz, hk⟩, st⟩ := hr T hT X1
  have hv : v = v2.map (cv x.1) := by
    injection hv
  subst hv
  rw [h0] at hz hk
  have hh : HX x n2 w2 s T'.heap (locs ++ L9) (cells + mc2) := by
    refine ⟨X.1, by rw [e1]; exact hP2, by have := X.2.2.1; omega, ⟨Nat.le_trans X.2.2.2.1.1 (by rw [e1]; exact hz), fun q g1 g2 => ?_, fun q hq => ?_⟩, X.2.2.2.2⟩
    · rw [e1, hk q (Nat.lt_of_lt_of_le g1 X.2.2.2.1.1) g2]
      exact X.2.2.2.1.2.1 q g1 g2
    · rcases List.mem_append.mp hq with h | h
      · exact X.2.2.2.1.2.2 q h
      · exact hL q h
  obtain ⟨t2, a1, b1⟩ := kk v2 w2 T'.heap (locs ++ L9) hQ hh T' rfl X'
  refine ⟨t2, st t2 ?_, b1⟩
  rw [List.map_append] at a1
  cases v2 <;> exact a1
theorem gj_callV {j ci k0 mc2 ms2 : Nat} {y2 : MI} {fs : List AV} {As S0 : List AV} {Q2 : QT} (dg : AtI y pc (.invokevirtual j) 3 nx) (hl : Cond.methodLink y.1.cls j y2.1 ∈ lw_g) (hc : CV y2 As.length ci) (hw : w k0 = cO ci fs) (hk : Nat.blt k0 n = true) (hd : 1 ≤ d) (hst : Nat.ble (wS S) 8 = true) (hS : S0 = As.reverse ++ vR k0 :: S) (hM : Mt l x y2 (d - 1) mc2 ms2 n w (vR k0 :: As) Q2)
    (kk : ∀ (v : Option AV) (w2 : AW), Q2 v w2 → Gj l x y d mc ms nf Q kc ks (n + mc2) w2 nx L (v.toList ++ S)) : Gj l x y d mc ms nf Q (kc + mc2) (ks + ms2) n w pc L S0 := by
  subst hS
  intro p e s m args below meth c H locs cells slots ls F X h1 h2 hlo
  refine gj_sz (fun hz0 => ?_)
  have hz := X.size hz0
  obtain ⟨c1, c2, c3, c4, c5, ⟨T, N, hci⟩, c6⟩ := hc
  have hk' : k0 < n := Nat.le_of_ble_eq_true hk
  have ht := F.2.2.2.2.2.1
  have cb : CallW (rmX d mc ms) s args y.1.cls y2.1.cls j y2.1 y2.2.1 y2.2.2.1 y2.2.2.2 (wsY y2) (rmX (d - 1) mc2 ms2) mc2 ms2 As.length := ⟨callB_of As.length ht (good_cw c4) rfl rfl rfl (ht _ c3) (ht _ hl) c5 ⟨show d - 1 + 1 ≤ d by omega, show 8 + (y2.2.2.1 + 11) + 40 * (d - 1) ≤ 40 * d by omega⟩, ht _ c1, ht _ c2⟩
  have hcell : (cw x n w)[k0]? = some (x.1 + k0, .inr (ci, fs.map (cv x.1))) := by rw [cw_at hk', hw]; rfl
  have hrun := va_runV (g := F0 m pc ls ((As.reverse ++ vR k0 :: S).map (cv x.1))) (As := As.map (cv x.1)) (b := x.1 + k0) (rest := S.map (cv x.1)) ⟨F.1, F.2.1, F.2.2.2.1, F.2.2.2.2.1, ht⟩ hM cb ⟨PcA_blind, va_recv X.1 X.2.1 hci hcell, fun U hU hW => ⟨rfl, va_K.moved hW.alike X.1, by rw [hU]; exact X.2.1, by rw [hU]; exact hz, va_AO.moved hW.alike X.2.2.2.2.2⟩⟩ rfl (by rw [List.length_map]) hlo.1 (by rw [List.map_append, List.map_reverse]; rfl) (lv_room (by rw [wS_c]; exact Nat.le_of_ble_eq_true hst)) dg.1 (locs := locs) (cells := cells) (slots := slots) (below := below) (e := e) (meth := meth) ⟨show cells + mc2 ≤ mc by omega, show slots + ms2 ≤ ms by omega⟩
  refine gj_back hrun X rfl (fun v w2 H1 locs1 hQ X1 => ?_)
  rw [dg.2]
  exact kk v w2 hQ p e s m args below meth c H1 locs1 (cells + mc2) (slots + ms2) ls F X1 ⟨by omega, by omega⟩ (by omega) hlo
theorem gj_callS {j mc2 ms2 : Nat} {y2 : MI} {As S0 : List AV} {Q2 : QT} (dg : AtI y pc (.invokestatic j) 3 nx) (hl : Cond.methodLink y.1.cls j y2.1 ∈ lw_g) (hc : CS y2 As.length) (hd : 1 ≤ d) (hst : Nat.ble (wS S) 8 = true) (hS : S0 = As.reverse ++ S) (hM : Mt l x y2 (d - 1) mc2 ms2 n w As Q2)
    (kk : ∀ (v : Option AV) (w2 : AW), Q2 v w2 → Gj l x y d mc ms nf Q kc ks (n + mc2) w2 nx L (v.toList ++ S)) : Gj l x y d mc ms nf Q (kc + mc2) (ks + ms2) n w pc L S0 := by
  subst hS
  intro p e s m args below meth c H locs cells slots ls F X h1 h2 hlo
  refine gj_sz (fun hz0 => ?_)
  have hz := X.size hz0
  obtain ⟨c1, c3, c4, c5, c6⟩ := hc
  have ht := F.2.2.2.2.2.1
  have hrun := va_runS (g := F0 m pc ls ((As.reverse ++ S).map (cv x.1))) (As := As.map (cv x.1)) (rest := S.map (cv x.1)) (R := rmX d mc ms) ⟨F.1, F.2.1, F.2.2.2.1, F.2.2.2.2.1, ht⟩ hM ⟨callB_of As.length ht (good_cw c4) rfl rfl rfl (ht _ c3) (ht _ hl) c5 ⟨show d - 1 + 1 ≤ d by omega, show 8 + (y2.2.2.1 + 11) + 40 * (d - 1) ≤ 40 * d by omega⟩, ht _ c1⟩ ⟨PcA_blind, fun U hU hW => ⟨rfl, va_K.moved hW.alike X.1, by rw [hU]; exact X.2.1, by rw [hU]; exact hz, va_AO.moved hW.alike X.2.2.2.2.2⟩⟩ rfl (by rw [List.length_map]) hlo.1 (by rw [List.map_append, List.map_reverse]) (lv_room (by rw [wS_c]; exact Nat.le_of_ble_eq_true hst)) dg.1 (locs := locs) (cells := cells) (slots := slots) (below := below) (e := e) (meth := meth) ⟨show cells + mc2 ≤ mc by omega, show slots + ms2 ≤ ms by omega⟩
  refine gj_back hrun X rfl (fun v w2 H1 locs1 hQ X1 => ?_)
  rw [dg.2]
  exact kk v w2 hQ p e s m args below meth c H1 locs1 (cells + mc2) (slots + ms2) ls F X1 ⟨by omega, by omega⟩ (by omega) hlo
theorem gj_callN {j k0 mc2 ms2 : Nat} {y2 : MI} {As S0 : List AV} {Q2 : QT} (dg : AtI y pc (.invokespecial j) 3 nx) (hl : Cond.methodLink y.1.cls j y2.1 ∈ lw_g) (hc : CN y2 As.length) (hd : 1 ≤ d) (hst : Nat.ble (wS S) 8 = true) (hS : S0 = As.reverse ++ vR k0 :: S) (hM : Mt l x y2 (d - 1) mc2 ms2 n w (vR k0 :: As) Q2)
    (kk : ∀ (v : Option AV) (w2 : AW), Q2 v w2 → Gj l x y d mc ms nf Q kc ks (n + mc2) w2 nx L (v.toList ++ S)) : Gj l x y d mc ms nf Q (kc + mc2) (ks + ms2) n w pc L S0 := by
  subst hS
  intro p e s m args below meth c H locs cells slots ls F X h1 h2 hlo
  refine gj_sz (fun hz0 => ?_)
  have hz := X.size hz0
  obtain ⟨c1, c3, c4, c7, c8, c5, c6⟩ := hc
  have ht := F.2.2.2.2.2.1
  have hg : GoodIn lw_g (wsY y2) := good_cw (by rw [c7]; exact c4)
  have hws : wsY y2 = Cond.code y2.1 y2.2.1 y2.2.2.1 none :: lw_g := by unfold wsY; rw [c7]
  have hrun := va_runI (g := F0 m pc ls ((As.reverse ++ vR k0 :: S).map (cv x.1))) (As := As.map (cv x.1)) (b := x.1 + k0) (rest := S.map (cv x.1)) (R := rmX d mc ms) ⟨F.1, F.2.1, F.2.2.2.1, F.2.2.2.2.1, ht⟩ hM (cwI As.length ht hg hws rfl rfl (ht _ c3) (ht _ hl) (ht _ c1) c8 c5 ⟨show d - 1 + 1 ≤ d by omega, show 8 + (y2.2.2.1 + 11) + 40 * (d - 1) ≤ 40 * d by omega⟩) ⟨PcA_blind, fun U hU hW => ⟨rfl, va_K.moved hW.alike X.1, by rw [hU]; exact X.2.1, by rw [hU]; exact hz, va_AO.moved hW.alike X.2.2.2.2.2⟩⟩ rfl (by rw [List.length_map]) hlo.1 (by rw [List.map_append, List.map_reverse]; rfl) (lv_room (by rw [wS_c]; exact Nat.le_of_ble_eq_true hst)) dg.1 (locs := locs) (cells := cells) (slots := slots) (below := below) (e := e) (meth := meth) ⟨show cells + mc2 ≤ mc by omega, show slots + ms2 ≤ ms by omega⟩
  refine gj_back hrun X rfl (fun v w2 H1 locs1 hQ X1 => ?_)
  rw [dg.2]
  exact kk v w2 hQ p e s m args below meth c H1 locs1 (cells + mc2) (slots + ms2) ls F X1 ⟨by omega, by omega⟩ (by omega) hlo
theorem gj_obj {j k0 : Nat} (dg : AtI y pc (.invokespecial j) 3 nx) (hl : Cond.methodLink y.1.cls j objectInit ∈ lw_g) (hd : 1 ≤ d) (hst : Nat.ble (wS S) 8 = true) (kk : Gj l x y d mc ms nf Q kc ks n w nx L S) : Gj l x y d mc ms nf Q kc ks n w pc L (vR k0 :: S) := by
  intro p e s m args below meth c H locs cells slots ls F X h1 h2 hlo
  have k2 := kk p e s m args below meth c H locs cells slots ls F X h1 h2 hlo
  rw [← dg.2] at k2
  have ht := F.2.2.2.2.2.1
  have hw : wS S ≤ 8 := Nat.le_of_ble_eq_true hst
  refine W.objInit (rest := S.map (cv x.1)) F.1 F.2.1 F.2.2.2.2.1 (ht _ hl) (ht _ w_oi) (ht _ w_oc) rfl (hlo.1.trans F.2.2.2.1.symm) rfl dg.1 hd ?_ k2
  rw [wS_c]
  show 2 * 0 + wS S + 12 ≤ 40 * d
  omega
theorem gj_min {j : Nat} {a b : Int} (dg : AtI y pc (.invokestatic j) 3 nx) (hl : Cond.methodLink y.1.cls j Lib.Math.min.name ∈ lw_g) (hd : 1 ≤ d) (hst : Nat.ble (wS S) 8 = true) (hr : R32 a ∧ R32 b) (kk : Gj l x y d mc ms nf Q kc ks n w nx L (vI (min a b) :: S)) : Gj l x y d mc ms nf Q kc ks n w pc L (vI b :: vI a :: S) := by
  intro p e s m args below meth c H locs cells slots ls F X h1 h2 hlo
  have k2 := kk p e s m args below meth c H locs cells slots ls F X h1 h2 hlo
  rw [← dg.2] at k2
  have ht := F.2.2.2.2.2.1
  have hw : wS S ≤ 8 := Nat.le_of_ble_eq_true hst
  refine va_mmin F.1 F.2.1 (F.2.2.2.1.trans hlo.1.symm) F.2.2.2.2.1 (ht _ hl) (ht _ w_mins) (ht _ w_mathi) (ht _ w_minc) hd (by rw [wS_c]; show wS S + 13 ≤ 40 * d; omega) (show cells ≤ mc by omega) (show slots ≤ ms by omega) dg.1 ?_
  have e1 : (if iZ b < iZ a then iZ b else iZ a) = iZ (min a b) := by
    simp only [iZ_lt hr.2 hr.1]
    by_cases h : b < a
    · rw [if_pos h, show min a b = b by omega]
    · rw [if_neg h, show min a b = a by omega]
  rw [e1]
  exact k2
theorem gj_abs {j : Nat} {a : Int} (dg : AtI y pc (.invokestatic j) 3 nx) (hl : Cond.methodLink y.1.cls j Lib.Math.abs.name ∈ lw_g) (hd : 1 ≤ d) (hst : Nat.ble (wS S) 8 = true) (hr : R32 a) (kk : Gj l x y d mc ms nf Q kc ks n w nx L (vI (max a (-a)) :: S)) : Gj l x y d mc ms nf Q kc ks n w pc L (vI a :: S) := by
  intro p e s m args below meth c H locs cells slots ls F X h1 h2 hlo
  have k2 := kk p e s m args below meth c H locs cells slots ls F X h1 h2 hlo
  rw [← dg.2] at k2
  have ht := F.2.2.2.2.2.1
  have hw : wS S ≤ 8 := Nat.le_of_ble_eq_true hst
  refine va_mabs F.1 F.2.1 (F.2.2.2.1.trans hlo.1.symm) F.2.2.2.2.1 (ht _ hl) (ht _ w_abss) (ht _ w_mathi) (ht _ w_absc) hd (by rw [wS_c]; show wS S + 13 ≤ 40 * d; omega) (show cells ≤ mc by omega) (show slots ≤ ms by omega) dg.1 ?_
  have e1 : (if 0 ≤ iZ a then iZ a else 0 - iZ a) = iZ (max a (-a)) := by
    have h0 : (0 : Int32) ≤ iZ a ↔ 0 ≤ a := by rw [← iZ_0]; exact iZ_le (by omega) hr
    simp only [h0]
    by_cases h : 0 ≤ a
    · rw [if_pos h, show max a (-a) = a by omega]
    · rw [if_neg h, show max a (-a) = 0 - a by omega, ← iZ_sub, iZ_0]
  rw [e1]
  exact k2
def cpf (f g : Int → Int) (sp dp c : Int) : Int → Int := fun j => if dp ≤ j ∧ j < dp + c then f (sp + (j - dp)) else g j
theorem gj_acopy {j k0 k1 N0 N1 : Nat} {f g : Int → Int} {sp dp c0 : Int} (dg : AtI y pc (.invokestatic j) 3 nx) (hl : Cond.methodLink y.1.cls j arraycopyName ∈ lw_g) (hd : 1 ≤ d) (hst : Nat.ble (wS S) 8 = true) (hw0 : w k0 = cI N0 f) (hk0 : Nat.blt k0 n = true) (hw1 : w k1 = cI N1 g) (hk1 : Nat.blt k1 n = true) (hN : Nat.ble N0 4096 = true ∧ Nat.ble N1 4096 = true) (hi : 0 ≤ sp ∧ 0 ≤ dp ∧ 0 ≤ c0 ∧ sp + c0 ≤ (N0 : Int) ∧ dp + c0 ≤ (N1 : Int)) (kk : Gj l x y d mc ms nf Q kc ks n (upw w k1 (cI N1 (cpf f g sp dp c0))) nx L S) : Gj l x y d mc ms nf Q kc ks n w pc L (vI c0 :: vI dp :: vR k1 :: vI sp :: vR k0 :: S) := by
  intro p e s m args below meth c H locs cells slots ls F X h1 h2 hlo
  have ht := F.2.2.2.2.2.1
  have hw : wS S ≤ 8 := Nat.le_of_ble_eq_true hst
  have hN0 := Nat.le_of_ble_eq_true hN.1
  have hN1 := Nat.le_of_ble_eq_true hN.2
  have hk0' : k0 < n := Nat.le_of_ble_eq_true hk0
  have hk1' : k1 < n := Nat.le_of_ble_eq_true hk1
  have hsp : R32 sp := by omega
  have hdp : R32 dp := by omega
  have hc0 : R32 c0 := by omega
  have hneg : ∀ {z : Int}, R32 z → 0 ≤ z → ¬ iZ z < 0 := fun hz h0 h => absurd ((iZ_lt (b := 0) hz (by omega)).mp (by rw [iZ_0]; exact h)) (by omega)
  refine va_copyi (D := x.2.1) (ty := .int) F.1 F.2.1 (F.2.2.2.1.trans hlo.1.symm) F.2.2.2.2.1 (ht _ hl) (ht _ w_acn) (ht _ w_acs) (ht _ w_aci) X.1 X.2.1 (cw_D x n w) X.2.2.2.1 k0 k1 0 0 (c0 := x.2.2.1) (c1 := x.2.2.1) (n0 := N0) (n1 := N1) (f := fun j => iZ (f (j : Int))) (g := fun j => iZ (g (j : Int))) (by rw [cw_at hk0', hw0]; rfl) (by rw [cw_at hk1', hw1]; rfl) rfl rfl rfl (hneg hsp hi.1) (hneg hdp hi.2.1) (hneg hc0 hi.2.2.1) (by rw [iZ_clamp hsp, iZ_clamp hc0]; omega) (by rw [iZ_clamp hdp, iZ_clamp hc0]; omega) (fun _ _ => rfl) hd (by rw [wS_c]; show wS S + (5 + 2 + 11) ≤ 40 * d; omega) dg.1 (fun H1 locs1 hP1 hD1 hS1 => ?_)
  rw [dg.2]
  refine kk p e s m args below meth c H1 locs1 cells slots ls F ⟨X.1, ?_, X.2.2.1, hS1, X.2.2.2.2⟩ h1 h2 hlo
  rw [← cw_set hk1']
  have e1 : va_cpy (fun j => iZ (f (j : Int))) (fun j => iZ (g (j : Int))) (iZ sp).toNatClampNeg (iZ dp).toNatClampNeg (iZ c0).toNatClampNeg = fun q : Nat => iZ (cpf f g sp dp c0 (q : Int)) := by
    funext q
    rw [iZ_clamp hsp, iZ_clamp hdp, iZ_clamp hc0]
    unfold va_cpy cpf
    by_cases h : dp ≤ (q : Int) ∧ (q : Int) < dp + c0
    · have e9 : ((sp.toNat + (q - dp.toNat) : Nat) : Int) = sp + ((q : Int) - dp) := by omega
      rw [if_pos h, if_pos (by omega), ← e9]
    · rw [if_neg h, if_neg (by omega)]
  rw [e1] at hP1
  exact hP1
end GC
