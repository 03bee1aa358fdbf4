/-! the law's walk: its judgement Lj, in which the script lies at bb, and its rows -/
def FL (p : Program) (s : State) (m : MethodId) (args : Array Value) (meth : Method) (c : Code) : Prop :=
  p.tables.exec = Jvm.exec ∧ c.code = code ∧ meth.sig.returnType = ret ∧ c.maxLocals = 4 ∧ s.vm.findClass RL = some m.cls ∧ (∀ t ∈ lw_g, t.before args s = true) ∧ meth.locks = false
def Lj (l : Launch) (x : Cx) (bb LL : Nat) (xs : Nat → Int32) (sl n : Nat) (w : AW) (pc : Nat) (Lr : List (Nat × Value)) (S : List AV) : Prop :=
  ∀ (p : Program) (e : Env) (s : State) (m : MethodId) (below : List Frame) (meth : Method) (c : Code) (H : Heap) (locs : List Loc) (ls : Array Slot),
    FL p s m #[Value.ref bb] meth c → HX x n w s H locs n → (va_X bb LL xs s s.heap ∧ bb < s.heap.size ∧ x.1 = s.heap.size) → lv_has ls 4 Lr →
    W p l e room_1 s m #[Value.ref bb] below meth c H locs n sl (lw_Z below #[Value.ref bb] s) (F0 m pc ls (S.map (cv x.1)))
abbrev LRi (x : Cx) (bb : Nat) (i : Int) : List (Nat × Value) := [(0, Value.ref bb), (1, cv x.1 (vR 0)), (2, cv x.1 (vR 32)), (3, Value.int (iZ i))]
theorem wS_opt (v : Option AV) : Nat.ble (wS (v.toList ++ [])) 8 = true := by
  rcases v with _ | z | z | o <;> rfl
section LJ
variable {l : Launch} {x : Cx} {bb LL : Nat} {xs : Nat → Int32} {sl n : Nat} {w : AW} {pc nx tg : Nat} {Lr : List (Nat × Value)} {S : List AV}
theorem lj_iconst {z : Int} (dg : AtI iL_law pc (.iconst z) 1 nx) (k : Lj l x bb LL xs sl n w nx Lr (vI z :: S)) : Lj l x bb LL xs sl n w pc Lr S := by
  intro p e s m below meth c H locs ls F X E hl
  have kk := k p e s m below meth c H locs ls F X E hl
  rw [← dg.2] at kk
  exact lv_iconst F.1 F.2.1 dg.1 rfl kk
theorem lj_bipush {z : Int} (dg : AtI iL_law pc (.bipush z) 2 nx) (hz : -128 ≤ z ∧ z ≤ 127) (k : Lj l x bb LL xs sl n w nx Lr (vI z :: S)) : Lj l x bb LL xs sl n w pc Lr S := by
  intro p e s m below meth c H locs ls F X E hl
  have kk := k p e s m below meth c H locs ls F X E hl
  rw [← dg.2] at kk
  exact lv_bipush F.1 F.2.1 dg.1 (iZ_b hz) kk
theorem lj_isub {a b : Int} (dg : AtI iL_law pc .isub 1 nx) (k : Lj l x bb LL xs sl n w nx Lr (vI (a - b) :: S)) : Lj l x bb LL xs sl n w pc Lr (vI b :: vI a :: S) := by
  intro p e s m below meth c H locs ls F X E hl
  have kk := k p e s m below meth c H locs ls F X E hl
  rw [← dg.2] at kk
  exact lv_isub F.1 F.2.1 dg.1 (by rw [iZ_sub a b]; exact kk)
theorem lj_iand {a b : Int} (dg : AtI iL_law pc .iand 1 nx) (k : Lj l x bb LL xs sl n w nx Lr (vI (bAnd a b) :: S)) : Lj l x bb LL xs sl n w pc Lr (vI b :: vI a :: S) := by
  intro p e s m below meth c H locs ls F X E hl
  have kk := k p e s m below meth c H locs ls F X E hl
  rw [← dg.2] at kk
  have e1 : cv x.1 (vI (bAnd a b)) = Value.int (iZ a &&& iZ b) := congrArg Value.int (iZ_of _)
  rw [List.map_cons, e1] at kk
  exact lv_iand F.1 F.2.1 dg.1 kk
theorem lj_dupR {z : Nat} (dg : AtI iL_law pc .dup 1 nx) (k : Lj l x bb LL xs sl n w nx Lr (vR z :: vR z :: S)) : Lj l x bb LL xs sl n w pc Lr (vR z :: S) := by
  intro p e s m below meth c H locs ls F X E hl
  have kk := k p e s m below meth c H locs ls F X E hl
  rw [← dg.2] at kk
  exact lv_dup F.1 F.2.1 dg.1 rfl kk
theorem lj_goto {off : Int} (dg : AtJ iL_law pc (.goto off) off nx tg) (k : Lj l x bb LL xs sl n w tg Lr S) : Lj l x bb LL xs sl n w pc Lr S := by
  intro p e s m below meth c H locs ls F X E hl
  exact lv_goto F.1 F.2.1 dg.1 dg.2.2 (k p e s m below meth c H locs ls F X E hl)
theorem lj_icmp_gt {a b off : Int} (dg : AtJ iL_law pc (.if_icmp .gt off) off nx tg) (hr : R32 a ∧ R32 b) (kt : b < a → Lj l x bb LL xs sl n w tg Lr S) (kf : ¬ (b < a) → Lj l x bb LL xs sl n w nx Lr S) : Lj l x bb LL xs sl n w pc Lr (vI b :: vI a :: S) := by
  intro p e s m below meth c H locs ls F X E hl
  have hi := iZ_lt hr.2 hr.1
  refine lv_icmp_gt F.1 F.2.1 dg.1 dg.2.2 (fun h => kt ?_ p e s m below meth c H locs ls F X E hl) (fun h => ?_)
  · exact hi.mp h
  · have kk := kf (fun e => h (hi.mpr e)) p e s m below meth c H locs ls F X E hl
    rw [← dg.2.1] at kk
    exact kk
theorem lj_same {a b off : Int} (dg : AtJ iL_law pc (.if_icmp .eq off) off nx tg) (h : a = b) (kt : Lj l x bb LL xs sl n w tg Lr S) : Lj l x bb LL xs sl n w pc Lr (vI b :: vI a :: S) := by
  subst h
  intro p e s m below meth c H locs ls F X E hl
  exact lv_icmp_eq F.1 F.2.1 dg.1 dg.2.2 (fun _ => kt p e s m below meth c H locs ls F X E hl) (fun h => absurd rfl h)
theorem lg_cmp_self (v : Int64) : lg_cmp v v = 0 := by
  unfold lg_cmp
  simp
theorem lj_lsame {a b off : Int} {n1 : Nat} (dg : AtI iL_law pc .lcmp 1 n1) (dh : AtJ iL_law n1 (.ifCond .eq off) off nx tg) (h : a = b) (kt : Lj l x bb LL xs sl n w tg Lr S) : Lj l x bb LL xs sl n w pc Lr (vL b :: vL a :: S) := by
  subst h
  intro p e s m below meth c H locs ls F X E hl
  refine W.lcmp F.1 F.2.1 dg.1 ?_
  rw [lg_cmp_self, dg.2]
  exact lv_if_eq F.1 F.2.1 dh.1 dh.2.2 (fun _ => kt p e s m below meth c H locs ls F X E hl) (fun h => absurd rfl h)
theorem lj_tswI {z dflt lo hi off : Int} {offs : Array Int} {len : Nat} (dg : decode iL_law.2.1 pc = .ok (.tableswitch dflt lo hi offs, len)) (j : Nat) (hr : R32 z) (hz : z = lo + j) (hh : lo + j ≤ hi) (ho : offs[j]? = some off) (ht : (pc : Int) + off = (tg : Int)) (k : Lj l x bb LL xs sl n w tg Lr S) : Lj l x bb LL xs sl n w pc Lr (vI z :: S) := by
  intro p e s m below meth c H locs ls F X E hl
  exact lv_tableIn F.1 F.2.1 dg (by rw [iZ_toInt hr]; omega) (by rw [iZ_toInt hr]; omega) (by rw [iZ_toInt hr, show (z - lo).toNat = j by omega]; exact ho) ht (k p e s m below meth c H locs ls F X E hl)
theorem lj_tswO {z dflt lo hi : Int} {offs : Array Int} {len : Nat} (dg : decode iL_law.2.1 pc = .ok (.tableswitch dflt lo hi offs, len)) (hr : R32 z) (hz : z < lo ∨ hi < z) (ht : (pc : Int) + dflt = (tg : Int)) (k : Lj l x bb LL xs sl n w tg Lr S) : Lj l x bb LL xs sl n w pc Lr (vI z :: S) := by
  intro p e s m below meth c H locs ls F X E hl
  exact lv_tableOut F.1 F.2.1 dg (by rw [iZ_toInt hr]; exact hz) ht (k p e s m below meth c H locs ls F X E hl)
theorem lj_as {i : Fin 4} {k0 : Nat} {Lr2 : List (Nat × Value)} (dg : AtI iL_law pc (.astore_n i) 1 nx) (hs : ∀ q ∈ Lr2, q = ((i : Nat), cv x.1 (vR k0)) ∨ (q ∈ Lr ∧ q.1 ≠ (i : Nat) ∧ q.2.category ≠ 2)) (k : Lj l x bb LL xs sl n w nx Lr2 S) : Lj l x bb LL xs sl n w pc Lr (vR k0 :: S) := by
  intro p e s m below meth c H locs ls F X E hl
  refine lv_astore_n F.1 F.2.1 dg.1 rfl hl i.isLt rfl (fun ls' hl' => ?_)
  have kk := k p e s m below meth c H locs ls' F X E ⟨hl'.1, hl'.2.1, fun q hq => hl'.2.2 q (by
    rcases hs q hq with h | ⟨h1, h2, h3⟩
    · rw [h]; exact List.mem_cons_self
    · exact List.mem_cons_of_mem _ (List.mem_filter.mpr ⟨h1, by simp [h2, h3]⟩))⟩
  rw [← dg.2] at kk
  exact kk
theorem lj_is {i : Fin 4} {z : Int} {Lr2 : List (Nat × Value)} (dg : AtI iL_law pc (.istore_n i) 1 nx) (hs : ∀ q ∈ Lr2, q = ((i : Nat), Value.int (iZ z)) ∨ (q ∈ Lr ∧ q.1 ≠ (i : Nat) ∧ q.2.category ≠ 2)) (k : Lj l x bb LL xs sl n w nx Lr2 S) : Lj l x bb LL xs sl n w pc Lr (vI z :: S) := by
  intro p e s m below meth c H locs ls F X E hl
  refine lv_istore_n F.1 F.2.1 dg.1 rfl hl i.isLt rfl (fun ls' hl' => ?_)
  have kk := k p e s m below meth c H locs ls' F X E ⟨hl'.1, hl'.2.1, fun q hq => hl'.2.2 q (by
    rcases hs q hq with h | ⟨h1, h2, h3⟩
    · rw [h]; exact List.mem_cons_self
    · exact List.mem_cons_of_mem _ (List.mem_filter.mpr ⟨h1, by simp [h2, h3]⟩))⟩
  rw [← dg.2] at kk
  exact kk
theorem lj_inc {a z : Int} (dg : AtI iL_law pc (.iinc 3 z) 3 nx) (k : Lj l x bb LL xs sl n w nx (LRi x bb (a + z)) S) : Lj l x bb LL xs sl n w pc (LRi x bb a) S := by
  intro p e s m below meth c H locs ls F X E hl
  refine lv_iinc F.1 F.2.1 dg.1 hl (k := 3) (v := iZ (a + z)) rfl (iZ_add a z) (by decide) rfl (fun ls' hl' => ?_)
  have kk := k p e s m below meth c H locs ls' F X E ⟨hl'.1, hl'.2.1, fun q hq => hl'.2.2 q (by
    rcases List.mem_cons.mp hq with h | hq
    · rw [h]; exact List.mem_cons_of_mem _ (List.mem_filter.mpr ⟨by simp, by simp [Value.category]⟩)
    rcases List.mem_cons.mp hq with h | hq
    · rw [h]; exact List.mem_cons_of_mem _ (List.mem_filter.mpr ⟨by simp, by simp [cv, va_rf, Value.category]⟩)
    rcases List.mem_cons.mp hq with h | hq
    · rw [h]; exact List.mem_cons_of_mem _ (List.mem_filter.mpr ⟨by simp, by simp [cv, va_rf, Value.category]⟩)
    rcases List.mem_cons.mp hq with h | hq
    · rw [h]; exact List.mem_cons_self
    · exact absurd hq List.not_mem_nil)⟩
  rw [← dg.2] at kk
  exact kk
theorem lj_il3 {i : Int} (dg : AtI iL_law pc (.iload_n 3) 1 nx) (k : Lj l x bb LL xs sl n w nx (LRi x bb i) (vI i :: S)) : Lj l x bb LL xs sl n w pc (LRi x bb i) S := by
  intro p e s m below meth c H locs ls F X E hl
  have kk := k p e s m below meth c H locs ls F X E hl
  rw [← dg.2] at kk
  exact lv_iload_n F.1 F.2.1 dg.1 rfl (hl.2.2 (3, Value.int (iZ i)) (by simp)) kk
theorem lj_al1 {i : Int} (dg : AtI iL_law pc (.aload_n 1) 1 nx) (k : Lj l x bb LL xs sl n w nx (LRi x bb i) (vR 0 :: S)) : Lj l x bb LL xs sl n w pc (LRi x bb i) S := by
  intro p e s m below meth c H locs ls F X E hl
  have kk := k p e s m below meth c H locs ls F X E hl
  rw [← dg.2] at kk
  exact lv_aload_n F.1 F.2.1 dg.1 rfl (hl.2.2 (1, cv x.1 (vR 0)) (by simp)) kk
theorem lj_al2 {i : Int} (dg : AtI iL_law pc (.aload_n 2) 1 nx) (k : Lj l x bb LL xs sl n w nx (LRi x bb i) (vR 32 :: S)) : Lj l x bb LL xs sl n w pc (LRi x bb i) S := by
  intro p e s m below meth c H locs ls F X E hl
  have kk := k p e s m below meth c H locs ls F X E hl
  rw [← dg.2] at kk
  exact lv_aload_n F.1 F.2.1 dg.1 rfl (hl.2.2 (2, cv x.1 (vR 32)) (by simp)) kk
/-- the script's own int, k behind i -/
theorem lj_scr {i k : Int} {p1 p2 p3 p4 : Nat} (d0 : AtI iL_law pc (.aload_n 0) 1 p1) (d1 : AtI iL_law p1 (.iload_n 3) 1 p2) (d2 : AtI iL_law p2 (.iconst k) 1 p3) (d3 : AtI iL_law p3 .iadd 1 p4) (d4 : AtI iL_law p4 .iaload 1 nx) (hi : 0 ≤ i + k ∧ i + k < (LL : Int)) (hLL : LL ≤ 3072) (kk : Lj l x bb LL xs sl n w nx (LRi x bb i) (vI (xs (i + k).toNat).toInt :: S)) : Lj l x bb LL xs sl n w pc (LRi x bb i) S := by
  intro p e s m below meth c H locs ls F X E hl
  have k5 := kk p e s m below meth c H locs ls F X E hl
  have hb : ¬ AX x bb := by
    intro z
    have z : x.1 ≤ bb := z
    have := E.2.1
    have := E.2.2
    omega
  have e1 : cv x.1 (vI (xs (i + k).toNat).toInt) = Value.int (xs (i + k).toNat) := congrArg Value.int (iZ_of _)
  rw [List.map_cons, e1, ← d4.2] at k5
  have hr : R32 (i + k) := by omega
  have k4 : W p l e room_1 s m #[Value.ref bb] below meth c H locs n sl (lw_Z below #[Value.ref bb] s) (F0 m p4 ls (Value.int (iZ (i + k)) :: Value.ref bb :: S.map (cv x.1))) := by
    refine va_sld (A := AX x) F.1 F.2.1 E.1 E.2.1 hb X.2.2.2.1 ?_ d4.1 ?_
    · rw [vp_in_iff, iZ_toInt hr]; exact hi
    · rw [iZ_clamp hr]; exact k5
  rw [← d3.2] at k4
  have k3 : W p l e room_1 s m #[Value.ref bb] below meth c H locs n sl (lw_Z below #[Value.ref bb] s) (F0 m p3 ls (Value.int (iZ k) :: Value.int (iZ i) :: Value.ref bb :: S.map (cv x.1))) := lv_iadd F.1 F.2.1 d3.1 (by rw [iZ_add i k]; exact k4)
  rw [← d2.2] at k3
  have k2 : W p l e room_1 s m #[Value.ref bb] below meth c H locs n sl (lw_Z below #[Value.ref bb] s) (F0 m p2 ls (Value.int (iZ i) :: Value.ref bb :: S.map (cv x.1))) := lv_iconst F.1 F.2.1 d2.1 rfl k3
  rw [← d1.2] at k2
  have k1 : W p l e room_1 s m #[Value.ref bb] below meth c H locs n sl (lw_Z below #[Value.ref bb] s) (F0 m p1 ls (Value.ref bb :: S.map (cv x.1))) := lv_iload_n F.1 F.2.1 d1.1 rfl (hl.2.2 (3, Value.int (iZ i)) (by simp)) k2
  rw [← d0.2] at k1
  exact lv_aload_n F.1 F.2.1 d0.1 rfl (hl.2.2 (0, Value.ref bb) (by simp)) k1
theorem lj_scr0 {i : Int} {p1 p2 : Nat} (d0 : AtI iL_law pc (.aload_n 0) 1 p1) (d1 : AtI iL_law p1 (.iload_n 3) 1 p2) (d4 : AtI iL_law p2 .iaload 1 nx) (hi : 0 ≤ i ∧ i < (LL : Int)) (hLL : LL ≤ 3072) (kk : Lj l x bb LL xs sl n w nx (LRi x bb i) (vI (xs i.toNat).toInt :: S)) : Lj l x bb LL xs sl n w pc (LRi x bb i) S := by
  intro p e s m below meth c H locs ls F X E hl
  have k5 := kk p e s m below meth c H locs ls F X E hl
  have hb : ¬ AX x bb := by
    intro z
    have z : x.1 ≤ bb := z
    have := E.2.1
    have := E.2.2
    omega
  have e1 : cv x.1 (vI (xs i.toNat).toInt) = Value.int (xs i.toNat) := congrArg Value.int (iZ_of _)
  rw [List.map_cons, e1, ← d4.2] at k5
  have hr : R32 i := by omega
  have k2 : W p l e room_1 s m #[Value.ref bb] below meth c H locs n sl (lw_Z below #[Value.ref bb] s) (F0 m p2 ls (Value.int (iZ i) :: Value.ref bb :: S.map (cv x.1))) := by
    refine va_sld (A := AX x) F.1 F.2.1 E.1 E.2.1 hb X.2.2.2.1 ?_ d4.1 ?_
    · rw [vp_in_iff, iZ_toInt hr]; exact hi
    · rw [iZ_clamp hr]; exact k5
  rw [← d1.2] at k2
  have k1 : W p l e room_1 s m #[Value.ref bb] below meth c H locs n sl (lw_Z below #[Value.ref bb] s) (F0 m p1 ls (Value.ref bb :: S.map (cv x.1))) := lv_iload_n F.1 F.2.1 d1.1 rfl (hl.2.2 (3, Value.int (iZ i)) (by simp)) k2
  rw [← d0.2] at k1
  exact lv_aload_n F.1 F.2.1 d0.1 rfl (hl.2.2 (0, Value.ref bb) (by simp)) k1
theorem lj_len {i : Int} {p1 : Nat} (d0 : AtI iL_law pc (.aload_n 0) 1 p1) (d1 : AtI iL_law p1 .arraylength 1 nx) (kk : Lj l x bb LL xs sl n w nx (LRi x bb i) (vI (LL : Int) :: S)) : Lj l x bb LL xs sl n w pc (LRi x bb i) S := by
  intro p e s m below meth c H locs ls F X E hl
  have k5 := kk p e s m below meth c H locs ls F X E hl
  have hb : ¬ AX x bb := by
    intro z
    have z : x.1 ≤ bb := z
    have := E.2.1
    have := E.2.2
    omega
  have e1 : cv x.1 (vI (LL : Int)) = Value.int (Int32.ofNat LL) := congrArg Value.int Int32.ofInt_eq_ofNat
  rw [List.map_cons, e1, ← d1.2] at k5
  have k1 : W p l e room_1 s m #[Value.ref bb] below meth c H locs n sl (lw_Z below #[Value.ref bb] s) (F0 m p1 ls (Value.ref bb :: S.map (cv x.1))) := va_slen (A := AX x) F.1 F.2.1 E.1 E.2.1 hb X.2.2.2.1 d1.1 k5
  rw [← d0.2] at k1
  exact lv_aload_n F.1 F.2.1 d0.1 rfl (hl.2.2 (0, Value.ref bb) (by simp)) k1
theorem lj_new {j ci N n2 sl2 : Nat} {C : String} {T : u_T} {ty : Nat → FieldType} {fs : List AV} (hn : n + 1 = n2) (hs : sl + N = sl2) (hb : Nat.ble n2 600000 = true) (hb2 : Nat.ble sl2 7302250 = true) (dg : AtI iL_law pc (.new j) 3 nx) (hcl : Cond.classLink RL j C ∈ lw_g) (hins : Cond.instantiable C N ∈ lw_g) (hini : Cond.initialized C ∈ lw_g) (hc : vwCl[ci]? = some (C, T, N)) (hty : ∀ k, k < N → parseFieldDescriptor (T k).2.2.1 = some (ty k)) (hfs : ∀ b i, i < N → defaultValue (ty i) = vp_V (fs.map (cv b)) i) (kk : Lj l x bb LL xs sl2 n2 (upw w n (cO ci fs)) nx Lr (vR n :: S)) : Lj l x bb LL xs sl n w pc Lr S := by
  subst hn; subst hs
  intro p e s m below meth c H locs ls F X E hl
  refine gj_sz (fun hz0 => ?_)
  have hz : H.size = x.1 + n := X.size hz0
  have hKn := X.1.1 ci _ hc
  refine W.newcK F.1 F.2.1 F.2.2.2.2.1 (F.2.2.2.2.2.1 _ hcl) (F.2.2.2.2.2.1 _ hins) (F.2.2.2.2.2.1 _ hini) rfl dg.1 (show n + 1 ≤ 600000 from Nat.le_of_ble_eq_true hb) (show sl + N ≤ 7302250 from Nat.le_of_ble_eq_true hb2) hKn.2.1 hz (fun H1 kC hkC e1 z1 o1 => ?_)
  have hh : HX x (n + 1) (upw w n (cO ci fs)) s H1 locs (n + 1) := by
    refine ⟨X.1, ?_, by have := X.2.2.1; omega, ⟨by have := X.2.2.2.1.1; omega, fun q g1 g2 => (o1 q (by have := X.2.2.2.1.1; omega)).trans (X.2.2.2.1.2.1 q g1 g2), X.2.2.2.1.2.2⟩, X.2.2.2.2⟩
    rw [← cw_push]
    refine (X.2.1.kept (fun k q hq => o1 q.1 (by rw [← hz]; exact (X.2.1 k q hq).lt))).app (fun k q hq => ?_)
    have hk0 : k < 1 := (List.getElem?_eq_some_iff.mp hq).1
    rw [show k = 0 by omega] at hq
    cases hq
    exact ⟨_, hc, (u_born ty F.2.2.2.2.2.1 (vwCl_all hc).1 hKn hkC e1 hty).to (fun i hi => hfs x.1 i hi)⟩
  have k2 := kk p e s m below meth c H1 locs ls F hh E hl
  rw [← dg.2] at k2
  exact k2
theorem lj_callN {j k0 mc2 ms2 n2 sl2 : Nat} {y2 : MI} {P : AW → Prop} (hn : n + mc2 = n2) (hs : sl + ms2 = sl2) (hb : Nat.ble n2 600000 = true) (hb2 : Nat.ble sl2 7302250 = true) (dg : AtI iL_law pc (.invokespecial j) 3 nx) (hl : Cond.methodLink RL j y2.1 ∈ lw_g) (hc : CN y2 0) (hst : Nat.ble (wS S) 8 = true) (hM : Mt l x y2 2000 mc2 ms2 n w [vR k0] (Wv P)) (kk : ∀ w2, P w2 → Lj l x bb LL xs sl2 n2 w2 nx Lr S) : Lj l x bb LL xs sl n w pc Lr (vR k0 :: S) := by
  subst hn; subst hs
  intro p e s m below meth c H locs ls F X E hlo
  refine gj_sz (fun hz0 => ?_)
  have hz := X.size hz0
  obtain ⟨c1, c3, c4, c7, c8, c5, c6⟩ := hc
  have ht := F.2.2.2.2.2.1
  have hg : GoodIn lw_g (wsY y2) := good_cw (by rw [c7]; exact c4)
  have hws : wsY y2 = Cond.code y2.1 y2.2.1 y2.2.2.1 none :: lw_g := by unfold wsY; rw [c7]
  have hrun := va_runI (g := F0 m pc ls ((vR k0 :: S).map (cv x.1))) (As := []) (b := x.1 + k0) (rest := S.map (cv x.1)) (R := room_1) ⟨F.1, F.2.1, F.2.2.2.1, F.2.2.2.2.1, ht⟩ hM (cwI 0 ht hg hws rfl rfl (ht _ c3) (ht _ hl) (ht _ c1) c8 c5 ⟨show 2000 + 1 ≤ 2048 by omega, show 8 + (y2.2.2.1 + 11) + 40 * 2000 ≤ 84000 by omega⟩) ⟨PcA_blind, fun U hU hW => ⟨rfl, va_K.moved hW.alike X.1, by rw [hU]; exact X.2.1, by rw [hU]; exact hz, va_AO.moved hW.alike X.2.2.2.2.2⟩⟩ rfl rfl hlo.1 rfl (lv_room (by rw [wS_c]; exact Nat.le_of_ble_eq_true hst)) dg.1 (locs := locs) (cells := n) (slots := sl) (below := below) (e := e) (meth := meth) ⟨show n + mc2 ≤ 600000 from Nat.le_of_ble_eq_true hb, show sl + ms2 ≤ 7302250 from Nat.le_of_ble_eq_true hb2⟩
  refine gj_back hrun X rfl (fun v w2 H1 locs1 hQ X1 => ?_)
  obtain ⟨rfl, hQ⟩ := hQ
  rw [dg.2]
  exact kk w2 hQ p e s m below meth c H1 locs1 ls F X1 E hlo
theorem lj_callV {j ci k0 : Nat} {y2 : MI} {fs : List AV} {As S0 : List AV} {Q2 : QT} (dg : AtI iL_law pc (.invokevirtual j) 3 nx) (hl : Cond.methodLink RL j y2.1 ∈ lw_g) (hc : CV y2 As.length ci) (hw : w k0 = cO ci fs) (hk : Nat.blt k0 n = true) (hst : Nat.ble (wS S) 8 = true) (hS : S0 = As.reverse ++ vR k0 :: S) (hb : Nat.ble n 600000 = true) (hb2 : Nat.ble sl 7302250 = true) (hM : Mt l x y2 2000 0 0 n w (vR k0 :: As) Q2)
    (kk : ∀ (v : Option AV) (w2 : AW), Q2 v w2 → Lj l x bb LL xs sl n w2 nx Lr (v.toList ++ S)) : Lj l x bb LL xs sl n w pc Lr S0 := by
  subst hS
  intro p e s m below meth c H locs ls F X E hlo
  refine gj_sz (fun hz0 => ?_)
  have hz := X.size hz0
  obtain ⟨c1, c2, c3, c4, c5, ⟨T, N, hci⟩, c6⟩ := hc
  have hk' : k0 < n := Nat.le_of_ble_eq_true hk
  have ht := F.2.2.2.2.2.1
  have cb : CallW room_1 s #[Value.ref bb] RL y2.1.cls j y2.1 y2.2.1 y2.2.2.1 y2.2.2.2 (wsY y2) (rmX 2000 0 0) 0 0 As.length := ⟨callB_of As.length ht (good_cw c4) rfl rfl rfl (ht _ c3) (ht _ hl) c5 ⟨show 2000 + 1 ≤ 2048 by omega, show 8 + (y2.2.2.1 + 11) + 40 * 2000 ≤ 84000 by omega⟩, ht _ c1, ht _ c2⟩
  have hcell : (cw x n w)[k0]? = some (x.1 + k0, .inr (ci, fs.map (cv x.1))) := by rw [cw_at hk', hw]; rfl
  have hrun := va_runV (g := F0 m pc ls ((As.reverse ++ vR k0 :: S).map (cv x.1))) (As := As.map (cv x.1)) (b := x.1 + k0) (rest := S.map (cv x.1)) ⟨F.1, F.2.1, F.2.2.2.1, F.2.2.2.2.1, ht⟩ hM cb ⟨PcA_blind, va_recv X.1 X.2.1 hci hcell, fun U hU hW => ⟨rfl, va_K.moved hW.alike X.1, by rw [hU]; exact X.2.1, by rw [hU]; exact hz, va_AO.moved hW.alike X.2.2.2.2.2⟩⟩ rfl (by rw [List.length_map]) hlo.1 (by rw [List.map_append, List.map_reverse]; rfl) (lv_room (by rw [wS_c]; exact Nat.le_of_ble_eq_true hst)) dg.1 (locs := locs) (cells := n) (slots := sl) (below := below) (e := e) (meth := meth) ⟨show n + 0 ≤ 600000 from Nat.le_of_ble_eq_true hb, show sl + 0 ≤ 7302250 from Nat.le_of_ble_eq_true hb2⟩
  refine gj_back hrun X rfl (fun v w2 H1 locs1 hQ X1 => ?_)
  rw [dg.2]
  exact kk v w2 hQ p e s m below meth c H1 locs1 ls F X1 E hlo
/-- the law's end: true -/
theorem lj_end {n1 : Nat} (d0 : AtI iL_law pc (.iconst 1) 1 n1) (d1 : AtI iL_law n1 .ireturn 1 nx) (hb : Nat.ble n 600000 = true) (hb2 : Nat.ble sl 7302250 = true) : Lj l x bb LL xs sl n w pc Lr [] := by
  intro p e s m below meth c H locs ls F X E hl
  refine va_forget (fun q hq => ?_) ?_
  · have := X.2.2.2.1.2.2 q hq
    have this : x.1 ≤ q.base := this
    have := E.2.2
    omega
  · have k1 : W p l e room_1 s m #[Value.ref bb] below meth c H [] n sl (lw_Z below #[Value.ref bb] s) (F0 m n1 ls [Value.int 1]) := W.widen (k := 600000) (n := 7302250) (Nat.le_of_ble_eq_true hb) (Nat.le_of_ble_eq_true hb2) (lw_ret F.1 F.2.1 F.2.2.1 F.2.2.2.2.2.2 d1.1)
    rw [← d0.2] at k1
    exact lv_iconst F.1 F.2.1 d0.1 rfl k1
end LJ
