/-! THE JUDGEMENT Gj: the machine, in method y at pc, with locals L, stack S, world w of n places, comes back to its caller with an answer and a world of which Q holds; and its rows, one an instruction -/
def lw_g : List Cond := lw_tbl.filter goodWord
theorem mg {t : Cond} (i : Nat) (h : lw_tbl[i]? = some t) (hg : goodWord t = true) : t ∈ lw_g := List.mem_filter.mpr ⟨List.mem_of_getElem? h, hg⟩
theorem mgs {l : List Cond} (h : ∀ t ∈ l, t ∈ lw_tbl) (hg : l.all goodWord = true) : ∀ t ∈ l, t ∈ lw_g := fun t ht => List.mem_filter.mpr ⟨h t ht, List.all_eq_true.mp hg t ht⟩
abbrev rmX (d mc ms : Nat) : Room := { frames := d, cells := mc, slots := ms, locals := 40 * d }
def FX (y : MI) (p : Program) (s : State) (m : MethodId) (args : Array Value) (meth : Method) (c : Code) : Prop :=
  p.tables.exec = Jvm.exec ∧ c.code = y.2.1 ∧ meth.sig.returnType = y.2.2.2 ∧ c.maxLocals = y.2.2.1 ∧ s.vm.findClass y.1.cls = some m.cls ∧ (∀ t ∈ lw_g, t.before args s = true) ∧ meth.locks = false ∧ meth.name = y.1.name
def HX (x : Cx) (n : Nat) (w : AW) (s : State) (H : Heap) (locs : List Loc) (cells : Nat) : Prop :=
  va_K x.2.1 vwCl (tysX x) s ∧ va_P x.2.1 vwCl (cw x n w) H ∧ s.heap.size + cells = x.1 + n ∧ va_S (AX x) s.heap H locs ∧ (x.1 ≤ s.heap.size ∧ va_AO "BishopsPeace$Sheet" s)
abbrev QT : Type := Option AV → AW → Prop
def QcA (x : Cx) (n : Nat) (Q : QT) : Array Value → State → Outcome → State → Prop := fun _ st oc t =>
  (∃ (v : Option AV) (w : AW), oc = .returned (v.map (cv x.1)) ∧ Q v w ∧ va_K x.2.1 vwCl (tysX x) t ∧ va_P x.2.1 vwCl (cw x n w) t.heap) ∧ va_F (AX x) st t
def Gj (l : Launch) (x : Cx) (y : MI) (d mc ms nf : Nat) (Q : QT) (kc ks n : Nat) (w : AW) (pc : Nat) (L : List (Option AV)) (S : List AV) : Prop :=
  ∀ (p : Program) (e : Env) (s : State) (m : MethodId) (args : Array Value) (below : List Frame) (meth : Method) (c : Code) (H : Heap) (locs : List Loc) (cells slots : Nat) (ls : Array Slot),
    FX y p s m args meth c → HX x n w s H locs cells → cells + kc = mc ∧ n + kc = nf → slots + ks ≤ ms → LH x.1 ls y.2.2.1 L →
    W p l e (rmX d mc ms) s m args below meth c H locs cells slots (MQ below (QcA x nf Q) args s mc ms (AX x)) (F0 m pc ls (S.map (cv x.1)))
def AtI (y : MI) (pc : Nat) (i : Instr) (k nx : Nat) : Prop := decode y.2.1 pc = .ok (i, k) ∧ pc + k = nx
def AtJ (y : MI) (pc : Nat) (i : Instr) (off : Int) (nx tg : Nat) : Prop := decode y.2.1 pc = .ok (i, 3) ∧ pc + 3 = nx ∧ (pc : Int) + off = (tg : Int)
section GJ
variable {l : Launch} {x : Cx} {y : MI} {d mc ms nf : Nat} {Q : QT} {kc ks n : Nat} {w : AW} {pc nx tg : Nat} {L : List (Option AV)} {S : List AV}
theorem gj_iconst {z : Int} (dg : AtI y pc (.iconst z) 1 nx)  (k : Gj l x y d mc ms nf Q kc ks n w nx L (vI z :: S)) : Gj l x y d mc ms nf Q kc ks n w pc L S := by
  intro p e s m args below meth c H locs cells slots ls F X h1 h2 hl
  have kk := k p e s m args below meth c H locs cells slots ls F X h1 h2 hl
  rw [← dg.2] at kk
  exact lv_iconst F.1 F.2.1 dg.1 rfl kk
theorem gj_bipush {z : Int} (dg : AtI y pc (.bipush z) 2 nx) (hz : decide (-128 ≤ z ∧ z ≤ 127) = true := by rfl) (k : Gj l x y d mc ms nf Q kc ks n w nx L (vI z :: S)) : Gj l x y d mc ms nf Q kc ks n w pc L S := by
  intro p e s m args below meth c H locs cells slots ls F X h1 h2 hl
  have kk := k p e s m args below meth c H locs cells slots ls F X h1 h2 hl
  rw [← dg.2] at kk
  exact lv_bipush F.1 F.2.1 dg.1 (iZ_b (of_decide_eq_true hz)) kk
theorem gj_sipush {z : Int} (dg : AtI y pc (.sipush z) 3 nx) (hz : decide (-32768 ≤ z ∧ z ≤ 32767) = true := by rfl) (k : Gj l x y d mc ms nf Q kc ks n w nx L (vI z :: S)) : Gj l x y d mc ms nf Q kc ks n w pc L S := by
  intro p e s m args below meth c H locs cells slots ls F X h1 h2 hl
  have kk := k p e s m args below meth c H locs cells slots ls F X h1 h2 hl
  rw [← dg.2] at kk
  exact lv_sipush F.1 F.2.1 dg.1 (iZ_s (of_decide_eq_true hz)) kk
theorem gj_lconst0  (dg : AtI y pc (.lconst 0) 1 nx)  (k : Gj l x y d mc ms nf Q kc ks n w nx L (vL 0 :: S)) : Gj l x y d mc ms nf Q kc ks n w pc L S := by
  intro p e s m args below meth c H locs cells slots ls F X h1 h2 hl
  have kk := k p e s m args below meth c H locs cells slots ls F X h1 h2 hl
  rw [← dg.2] at kk
  exact lv_lconst F.1 F.2.1 dg.1 (show Int64.ofNat _ = lZ 0 by decide) kk
theorem gj_lconst1  (dg : AtI y pc (.lconst 1) 1 nx)  (k : Gj l x y d mc ms nf Q kc ks n w nx L (vL 1 :: S)) : Gj l x y d mc ms nf Q kc ks n w pc L S := by
  intro p e s m args below meth c H locs cells slots ls F X h1 h2 hl
  have kk := k p e s m args below meth c H locs cells slots ls F X h1 h2 hl
  rw [← dg.2] at kk
  exact lv_lconst F.1 F.2.1 dg.1 (show Int64.ofNat _ = lZ 1 by decide) kk
theorem gj_ldc {z : Int} {j : Nat} (dg : AtI y pc (.ldc j) 2 nx) (hc : Cond.constant y.1.cls j (iZ z) ∈ lw_g) (k : Gj l x y d mc ms nf Q kc ks n w nx L (vI z :: S)) : Gj l x y d mc ms nf Q kc ks n w pc L S := by
  intro p e s m args below meth c H locs cells slots ls F X h1 h2 hl
  have kk := k p e s m args below meth c H locs cells slots ls F X h1 h2 hl
  rw [← dg.2] at kk
  exact lv_ldc F.1 F.2.1 F.2.2.2.2.1 (F.2.2.2.2.2.1 _ hc) dg.1 kk
theorem gj_ldcw {z : Int} {j : Nat} (dg : AtI y pc (.ldc_w j) 3 nx) (hc : Cond.constant y.1.cls j (iZ z) ∈ lw_g) (k : Gj l x y d mc ms nf Q kc ks n w nx L (vI z :: S)) : Gj l x y d mc ms nf Q kc ks n w pc L S := by
  intro p e s m args below meth c H locs cells slots ls F X h1 h2 hl
  have kk := k p e s m args below meth c H locs cells slots ls F X h1 h2 hl
  rw [← dg.2] at kk
  exact lv_ldcw F.1 F.2.1 F.2.2.2.2.1 (F.2.2.2.2.2.1 _ hc) dg.1 kk
theorem gj_ldc2 {z : Int} {j : Nat} (dg : AtI y pc (.ldc2_w j) 3 nx) (hc : Cond.constantLong y.1.cls j (lZ z) ∈ lw_g) (k : Gj l x y d mc ms nf Q kc ks n w nx L (vL z :: S)) : Gj l x y d mc ms nf Q kc ks n w pc L S := by
  intro p e s m args below meth c H locs cells slots ls F X h1 h2 hl
  have kk := k p e s m args below meth c H locs cells slots ls F X h1 h2 hl
  rw [← dg.2] at kk
  exact lv_ldc2 F.1 F.2.1 F.2.2.2.2.1 (F.2.2.2.2.2.1 _ hc) dg.1 kk
theorem gj_iload {i : Nat} {z : Int} (dg : AtI y pc (.iload i) 2 nx) (hL : lk L i = some (vI z)) (k : Gj l x y d mc ms nf Q kc ks n w nx L (vI z :: S)) : Gj l x y d mc ms nf Q kc ks n w pc L S := by
  intro p e s m args below meth c H locs cells slots ls F X h1 h2 hl
  have kk := k p e s m args below meth c H locs cells slots ls F X h1 h2 hl
  rw [← dg.2] at kk
  exact lv_iload F.1 F.2.1 dg.1 (hl.at hL) kk
theorem gj_iload_n {i : Fin 4} {z : Int} (dg : AtI y pc (.iload_n i) 1 nx) (hL : lk L (i : Nat) = some (vI z)) (k : Gj l x y d mc ms nf Q kc ks n w nx L (vI z :: S)) : Gj l x y d mc ms nf Q kc ks n w pc L S := by
  intro p e s m args below meth c H locs cells slots ls F X h1 h2 hl
  have kk := k p e s m args below meth c H locs cells slots ls F X h1 h2 hl
  rw [← dg.2] at kk
  exact lv_iload_n F.1 F.2.1 dg.1 rfl (hl.at hL) kk
theorem gj_lload {i : Nat} {z : Int} (dg : AtI y pc (.lload i) 2 nx) (hL : lk L i = some (vL z)) (k : Gj l x y d mc ms nf Q kc ks n w nx L (vL z :: S)) : Gj l x y d mc ms nf Q kc ks n w pc L S := by
  intro p e s m args below meth c H locs cells slots ls F X h1 h2 hl
  have kk := k p e s m args below meth c H locs cells slots ls F X h1 h2 hl
  rw [← dg.2] at kk
  exact lv_lload F.1 F.2.1 dg.1 (hl.at hL) kk
theorem gj_lload_n {i : Fin 4} {z : Int} (dg : AtI y pc (.lload_n i) 1 nx) (hL : lk L (i : Nat) = some (vL z)) (k : Gj l x y d mc ms nf Q kc ks n w nx L (vL z :: S)) : Gj l x y d mc ms nf Q kc ks n w pc L S := by
  intro p e s m args below meth c H locs cells slots ls F X h1 h2 hl
  have kk := k p e s m args below meth c H locs cells slots ls F X h1 h2 hl
  rw [← dg.2] at kk
  exact lv_lload_n F.1 F.2.1 dg.1 rfl (hl.at hL) kk
theorem gj_aload {i : Nat} {z : Nat} (dg : AtI y pc (.aload i) 2 nx) (hL : lk L i = some (vR z)) (k : Gj l x y d mc ms nf Q kc ks n w nx L (vR z :: S)) : Gj l x y d mc ms nf Q kc ks n w pc L S := by
  intro p e s m args below meth c H locs cells slots ls F X h1 h2 hl
  have kk := k p e s m args below meth c H locs cells slots ls F X h1 h2 hl
  rw [← dg.2] at kk
  exact lv_aload F.1 F.2.1 dg.1 (hl.at hL) kk
theorem gj_aload_n {i : Fin 4} {z : Nat} (dg : AtI y pc (.aload_n i) 1 nx) (hL : lk L (i : Nat) = some (vR z)) (k : Gj l x y d mc ms nf Q kc ks n w nx L (vR z :: S)) : Gj l x y d mc ms nf Q kc ks n w pc L S := by
  intro p e s m args below meth c H locs cells slots ls F X h1 h2 hl
  have kk := k p e s m args below meth c H locs cells slots ls F X h1 h2 hl
  rw [← dg.2] at kk
  exact lv_aload_n F.1 F.2.1 dg.1 rfl (hl.at hL) kk
theorem gj_istore {i : Nat} {z : Int} (dg : AtI y pc (.istore i) 2 nx) (hn : Nat.blt i y.2.2.1 = true) (hok : okS L i = true) (k : Gj l x y d mc ms nf Q kc ks n w nx (sv L i (some (vI z))) S) : Gj l x y d mc ms nf Q kc ks n w pc L (vI z :: S) := by
  intro p e s m args below meth c H locs cells slots ls F X h1 h2 hl
  refine lv_istore F.1 F.2.1 dg.1 hl (Nat.le_of_ble_eq_true hn) rfl (fun ls' hl' => ?_)
  have kk := k p e s m args below meth c H locs cells slots ls' F X h1 h2 (LH.st1 hok hl')
  rw [← dg.2] at kk
  exact kk
theorem gj_istore_n {i : Fin 4} {z : Int} (dg : AtI y pc (.istore_n i) 1 nx) (hn : Nat.blt (i : Nat) y.2.2.1 = true) (hok : okS L (i : Nat) = true) (k : Gj l x y d mc ms nf Q kc ks n w nx (sv L (i : Nat) (some (vI z))) S) : Gj l x y d mc ms nf Q kc ks n w pc L (vI z :: S) := by
  intro p e s m args below meth c H locs cells slots ls F X h1 h2 hl
  refine lv_istore_n F.1 F.2.1 dg.1 rfl hl (Nat.le_of_ble_eq_true hn) rfl (fun ls' hl' => ?_)
  have kk := k p e s m args below meth c H locs cells slots ls' F X h1 h2 (LH.st1 hok hl')
  rw [← dg.2] at kk
  exact kk
theorem gj_astore {i : Nat} {z : Nat} (dg : AtI y pc (.astore i) 2 nx) (hn : Nat.blt i y.2.2.1 = true) (hok : okS L i = true) (k : Gj l x y d mc ms nf Q kc ks n w nx (sv L i (some (vR z))) S) : Gj l x y d mc ms nf Q kc ks n w pc L (vR z :: S) := by
  intro p e s m args below meth c H locs cells slots ls F X h1 h2 hl
  refine lv_astore F.1 F.2.1 dg.1 hl (Nat.le_of_ble_eq_true hn) rfl (fun ls' hl' => ?_)
  have kk := k p e s m args below meth c H locs cells slots ls' F X h1 h2 (LH.st1 hok hl')
  rw [← dg.2] at kk
  exact kk
theorem gj_astore_n {i : Fin 4} {z : Nat} (dg : AtI y pc (.astore_n i) 1 nx) (hn : Nat.blt (i : Nat) y.2.2.1 = true) (hok : okS L (i : Nat) = true) (k : Gj l x y d mc ms nf Q kc ks n w nx (sv L (i : Nat) (some (vR z))) S) : Gj l x y d mc ms nf Q kc ks n w pc L (vR z :: S) := by
  intro p e s m args below meth c H locs cells slots ls F X h1 h2 hl
  refine lv_astore_n F.1 F.2.1 dg.1 rfl hl (Nat.le_of_ble_eq_true hn) rfl (fun ls' hl' => ?_)
  have kk := k p e s m args below meth c H locs cells slots ls' F X h1 h2 (LH.st1 hok hl')
  rw [← dg.2] at kk
  exact kk
theorem gj_lstore {i : Nat} {z : Int} (dg : AtI y pc (.lstore i) 2 nx) (hn : Nat.blt (i + 1) y.2.2.1 = true) (hok : okS L i = true) (k : Gj l x y d mc ms nf Q kc ks n w nx (sv (sv L i (some (vL z))) (i + 1) none) S) : Gj l x y d mc ms nf Q kc ks n w pc L (vL z :: S) := by
  intro p e s m args below meth c H locs cells slots ls F X h1 h2 hl
  refine lv_lstore F.1 F.2.1 dg.1 hl (Nat.le_of_ble_eq_true hn) rfl (fun ls' hl' => ?_)
  have kk := k p e s m args below meth c H locs cells slots ls' F X h1 h2 (LH.st2 hok hl')
  rw [← dg.2] at kk
  exact kk
theorem gj_lstore_n {i : Fin 4} {z : Int} (dg : AtI y pc (.lstore_n i) 1 nx) (hn : Nat.blt ((i : Nat) + 1) y.2.2.1 = true) (hok : okS L (i : Nat) = true) (k : Gj l x y d mc ms nf Q kc ks n w nx (sv (sv L (i : Nat) (some (vL z))) ((i : Nat) + 1) none) S) : Gj l x y d mc ms nf Q kc ks n w pc L (vL z :: S) := by
  intro p e s m args below meth c H locs cells slots ls F X h1 h2 hl
  refine lv_lstore_n F.1 F.2.1 dg.1 rfl hl (Nat.le_of_ble_eq_true hn) rfl (fun ls' hl' => ?_)
  have kk := k p e s m args below meth c H locs cells slots ls' F X h1 h2 (LH.st2 hok hl')
  rw [← dg.2] at kk
  exact kk
theorem gj_iinc {i : Nat} {z a : Int} (dg : AtI y pc (.iinc i z) 3 nx) (hn : Nat.blt i y.2.2.1 = true) (hok : okS L i = true) (hL : lk L i = some (vI a)) (k : Gj l x y d mc ms nf Q kc ks n w nx (sv L i (some (vI (a + z)))) S) : Gj l x y d mc ms nf Q kc ks n w pc L S := by
  intro p e s m args below meth c H locs cells slots ls F X h1 h2 hl
  have hm : (i, Value.int (iZ a)) ∈ lvL x.1 0 L := (lvL_mem L 0 _).mpr ⟨i, vI a, hL, by rw [Nat.zero_add]; rfl⟩
  obtain ⟨q, hq⟩ := List.getElem?_of_mem hm
  refine lv_iinc F.1 F.2.1 dg.1 hl (k := q) (v := iZ (a + z)) hq (iZ_add a z) (Nat.le_of_ble_eq_true hn) rfl (fun ls' hl' => ?_)
  have kk := k p e s m args below meth c H locs cells slots ls' F X h1 h2 (LH.st1 (v := vI (a + z)) hok hl')
  rw [← dg.2] at kk
  exact kk
theorem gj_iadd {a b : Int} (dg : AtI y pc .iadd 1 nx)  (k : Gj l x y d mc ms nf Q kc ks n w nx L (vI (a + b) :: S)) : Gj l x y d mc ms nf Q kc ks n w pc L (vI b :: vI a :: S) := by
  intro p e s m args below meth c H locs cells slots ls F X h1 h2 hl
  have kk := k p e s m args below meth c H locs cells slots ls F X h1 h2 hl
  rw [← dg.2] at kk
  exact lv_iadd F.1 F.2.1 dg.1 (by rw [iZ_add a b]; exact kk)
theorem gj_isub {a b : Int} (dg : AtI y pc .isub 1 nx)  (k : Gj l x y d mc ms nf Q kc ks n w nx L (vI (a - b) :: S)) : Gj l x y d mc ms nf Q kc ks n w pc L (vI b :: vI a :: S) := by
  intro p e s m args below meth c H locs cells slots ls F X h1 h2 hl
  have kk := k p e s m args below meth c H locs cells slots ls F X h1 h2 hl
  rw [← dg.2] at kk
  exact lv_isub F.1 F.2.1 dg.1 (by rw [iZ_sub a b]; exact kk)
theorem gj_imul {a b : Int} (dg : AtI y pc .imul 1 nx)  (k : Gj l x y d mc ms nf Q kc ks n w nx L (vI (a * b) :: S)) : Gj l x y d mc ms nf Q kc ks n w pc L (vI b :: vI a :: S) := by
  intro p e s m args below meth c H locs cells slots ls F X h1 h2 hl
  have kk := k p e s m args below meth c H locs cells slots ls F X h1 h2 hl
  rw [← dg.2] at kk
  exact lv_imul F.1 F.2.1 dg.1 (by rw [iZ_mul a b]; exact kk)
theorem gj_ineg {a : Int} (dg : AtI y pc .ineg 1 nx)  (k : Gj l x y d mc ms nf Q kc ks n w nx L (vI (-a) :: S)) : Gj l x y d mc ms nf Q kc ks n w pc L (vI a :: S) := by
  intro p e s m args below meth c H locs cells slots ls F X h1 h2 hl
  have kk := k p e s m args below meth c H locs cells slots ls F X h1 h2 hl
  rw [← dg.2] at kk
  exact lv_ineg F.1 F.2.1 dg.1 (by rw [iZ_neg a]; exact kk)
theorem gj_idiv {a b : Int} (dg : AtI y pc .idiv 1 nx) (ha : 0 ≤ a ∧ a ≤ 2147483647) (hb : 0 < b ∧ b ≤ 2147483647) (k : Gj l x y d mc ms nf Q kc ks n w nx L (vI (a / b) :: S)) : Gj l x y d mc ms nf Q kc ks n w pc L (vI b :: vI a :: S) := by
  intro p e s m args below meth c H locs cells slots ls F X h1 h2 hl
  have kk := k p e s m args below meth c H locs cells slots ls F X h1 h2 hl
  rw [← dg.2] at kk
  exact lv_idiv F.1 F.2.1 dg.1 (fun h => absurd ((iZ_eq (b := 0) (by omega) (by omega)).mp (h.trans iZ_0.symm)) (by omega)) (by rw [iZ_div ha hb]; exact kk)
theorem gj_irem {a b : Int} (dg : AtI y pc .irem 1 nx) (ha : 0 ≤ a ∧ a ≤ 2147483647) (hb : 0 < b ∧ b ≤ 2147483647) (k : Gj l x y d mc ms nf Q kc ks n w nx L (vI (a % b) :: S)) : Gj l x y d mc ms nf Q kc ks n w pc L (vI b :: vI a :: S) := by
  intro p e s m args below meth c H locs cells slots ls F X h1 h2 hl
  have kk := k p e s m args below meth c H locs cells slots ls F X h1 h2 hl
  rw [← dg.2] at kk
  exact lv_irem F.1 F.2.1 dg.1 (fun h => absurd ((iZ_eq (b := 0) (by omega) (by omega)).mp (h.trans iZ_0.symm)) (by omega)) (by rw [iZ_rem ha hb]; exact kk)
theorem gj_iand {a b : Int} (dg : AtI y pc .iand 1 nx)  (k : Gj l x y d mc ms nf Q kc ks n w nx L (vI (bAnd a b) :: S)) : Gj l x y d mc ms nf Q kc ks n w pc L (vI b :: vI a :: S) := by
  intro p e s m args below meth c H locs cells slots ls F X h1 h2 hl
  have kk := k p e s m args below meth c H locs cells slots ls F X h1 h2 hl
  rw [← dg.2] at kk
  exact lv_iand F.1 F.2.1 dg.1 (cast (congrArg (fun v => W p l e (rmX d mc ms) s m args below meth c H locs cells slots (MQ below (QcA x nf Q) args s mc ms (AX x)) (F0 m (pc + 1) ls (Value.int v :: S.map (cv x.1)))) (iZ_of _)) kk)
theorem gj_ior {a b : Int} (dg : AtI y pc .ior 1 nx)  (k : Gj l x y d mc ms nf Q kc ks n w nx L (vI (bOr a b) :: S)) : Gj l x y d mc ms nf Q kc ks n w pc L (vI b :: vI a :: S) := by
  intro p e s m args below meth c H locs cells slots ls F X h1 h2 hl
  have kk := k p e s m args below meth c H locs cells slots ls F X h1 h2 hl
  rw [← dg.2] at kk
  exact lv_ior F.1 F.2.1 dg.1 (cast (congrArg (fun v => W p l e (rmX d mc ms) s m args below meth c H locs cells slots (MQ below (QcA x nf Q) args s mc ms (AX x)) (F0 m (pc + 1) ls (Value.int v :: S.map (cv x.1)))) (iZ_of _)) kk)
theorem gj_ixor {a b : Int} (dg : AtI y pc .ixor 1 nx)  (k : Gj l x y d mc ms nf Q kc ks n w nx L (vI (bXor a b) :: S)) : Gj l x y d mc ms nf Q kc ks n w pc L (vI b :: vI a :: S) := by
  intro p e s m args below meth c H locs cells slots ls F X h1 h2 hl
  have kk := k p e s m args below meth c H locs cells slots ls F X h1 h2 hl
  rw [← dg.2] at kk
  exact lv_ixor F.1 F.2.1 dg.1 (cast (congrArg (fun v => W p l e (rmX d mc ms) s m args below meth c H locs cells slots (MQ below (QcA x nf Q) args s mc ms (AX x)) (F0 m (pc + 1) ls (Value.int v :: S.map (cv x.1)))) (iZ_of _)) kk)
theorem gj_ishl {a b : Int} (dg : AtI y pc .ishl 1 nx)  (k : Gj l x y d mc ms nf Q kc ks n w nx L (vI (bShl a b) :: S)) : Gj l x y d mc ms nf Q kc ks n w pc L (vI b :: vI a :: S) := by
  intro p e s m args below meth c H locs cells slots ls F X h1 h2 hl
  have kk := k p e s m args below meth c H locs cells slots ls F X h1 h2 hl
  rw [← dg.2] at kk
  exact lv_ishl F.1 F.2.1 dg.1 (cast (congrArg (fun v => W p l e (rmX d mc ms) s m args below meth c H locs cells slots (MQ below (QcA x nf Q) args s mc ms (AX x)) (F0 m (pc + 1) ls (Value.int v :: S.map (cv x.1)))) (iZ_of _)) kk)
theorem gj_ishr {a b : Int} (dg : AtI y pc .ishr 1 nx)  (k : Gj l x y d mc ms nf Q kc ks n w nx L (vI (bShr a b) :: S)) : Gj l x y d mc ms nf Q kc ks n w pc L (vI b :: vI a :: S) := by
  intro p e s m args below meth c H locs cells slots ls F X h1 h2 hl
  have kk := k p e s m args below meth c H locs cells slots ls F X h1 h2 hl
  rw [← dg.2] at kk
  exact lv_ishr F.1 F.2.1 dg.1 (cast (congrArg (fun v => W p l e (rmX d mc ms) s m args below meth c H locs cells slots (MQ below (QcA x nf Q) args s mc ms (AX x)) (F0 m (pc + 1) ls (Value.int v :: S.map (cv x.1)))) (iZ_of _)) kk)
theorem gj_iushr {a b : Int} (dg : AtI y pc .iushr 1 nx)  (k : Gj l x y d mc ms nf Q kc ks n w nx L (vI (bUshr a b) :: S)) : Gj l x y d mc ms nf Q kc ks n w pc L (vI b :: vI a :: S) := by
  intro p e s m args below meth c H locs cells slots ls F X h1 h2 hl
  have kk := k p e s m args below meth c H locs cells slots ls F X h1 h2 hl
  rw [← dg.2] at kk
  exact lv_iushr F.1 F.2.1 dg.1 (iZ_of _).symm kk
theorem gj_i2b {a : Int} (dg : AtI y pc .i2b 1 nx)  (k : Gj l x y d mc ms nf Q kc ks n w nx L (vI (bB a) :: S)) : Gj l x y d mc ms nf Q kc ks n w pc L (vI a :: S) := by
  intro p e s m args below meth c H locs cells slots ls F X h1 h2 hl
  have kk := k p e s m args below meth c H locs cells slots ls F X h1 h2 hl
  rw [← dg.2] at kk
  exact lv_i2b F.1 F.2.1 dg.1 (iZ_of _).symm kk
theorem gj_i2s {a : Int} (dg : AtI y pc .i2s 1 nx)  (k : Gj l x y d mc ms nf Q kc ks n w nx L (vI (bS a) :: S)) : Gj l x y d mc ms nf Q kc ks n w pc L (vI a :: S) := by
  intro p e s m args below meth c H locs cells slots ls F X h1 h2 hl
  have kk := k p e s m args below meth c H locs cells slots ls F X h1 h2 hl
  rw [← dg.2] at kk
  exact lv_i2s F.1 F.2.1 dg.1 (iZ_of _).symm kk
theorem gj_i2l {a : Int} (dg : AtI y pc .i2l 1 nx) (ha : R32 a) (k : Gj l x y d mc ms nf Q kc ks n w nx L (vL a :: S)) : Gj l x y d mc ms nf Q kc ks n w pc L (vI a :: S) := by
  intro p e s m args below meth c H locs cells slots ls F X h1 h2 hl
  have kk := k p e s m args below meth c H locs cells slots ls F X h1 h2 hl
  rw [← dg.2] at kk
  exact lv_i2l F.1 F.2.1 dg.1 (lZ_i ha) kk
theorem gj_ladd {a b : Int} (dg : AtI y pc .ladd 1 nx)  (k : Gj l x y d mc ms nf Q kc ks n w nx L (vL (a + b) :: S)) : Gj l x y d mc ms nf Q kc ks n w pc L (vL b :: vL a :: S) := by
  intro p e s m args below meth c H locs cells slots ls F X h1 h2 hl
  have kk := k p e s m args below meth c H locs cells slots ls F X h1 h2 hl
  rw [← dg.2] at kk
  exact lv_ladd F.1 F.2.1 dg.1 (by rw [lZ_add a b]; exact kk)
theorem gj_lmul {a b : Int} (dg : AtI y pc .lmul 1 nx)  (k : Gj l x y d mc ms nf Q kc ks n w nx L (vL (a * b) :: S)) : Gj l x y d mc ms nf Q kc ks n w pc L (vL b :: vL a :: S) := by
  intro p e s m args below meth c H locs cells slots ls F X h1 h2 hl
  have kk := k p e s m args below meth c H locs cells slots ls F X h1 h2 hl
  rw [← dg.2] at kk
  exact lv_lmul F.1 F.2.1 dg.1 (by rw [lZ_mul a b]; exact kk)
theorem cmpL_c {a b : Int} (ha : R64 a) (hb : R64 b) : lg_cmp (lZ a) (lZ b) = iZ (cmpL a b) := by
  unfold lg_cmp cmpL
  simp only [gt_iff_lt, lZ_lt hb ha, lZ_eq ha hb]
  split
  · decide
  · split <;> decide
theorem gj_lcmp {a b : Int} (dg : AtI y pc .lcmp 1 nx) (ha : R64 a) (hb : R64 b) (k : Gj l x y d mc ms nf Q kc ks n w nx L (vI (cmpL a b) :: S)) : Gj l x y d mc ms nf Q kc ks n w pc L (vL b :: vL a :: S) := by
  intro p e s m args below meth c H locs cells slots ls F X h1 h2 hl
  have kk := k p e s m args below meth c H locs cells slots ls F X h1 h2 hl
  rw [← dg.2] at kk
  exact W.lcmp F.1 F.2.1 dg.1 (by rw [cmpL_c ha hb]; exact kk)
theorem gj_dupI {z : Int} (dg : AtI y pc .dup 1 nx)  (k : Gj l x y d mc ms nf Q kc ks n w nx L (vI z :: vI z :: S)) : Gj l x y d mc ms nf Q kc ks n w pc L (vI z :: S) := by
  intro p e s m args below meth c H locs cells slots ls F X h1 h2 hl
  have kk := k p e s m args below meth c H locs cells slots ls F X h1 h2 hl
  rw [← dg.2] at kk
  exact lv_dup F.1 F.2.1 dg.1 rfl kk
theorem gj_dupR {z : Nat} (dg : AtI y pc .dup 1 nx)  (k : Gj l x y d mc ms nf Q kc ks n w nx L (vR z :: vR z :: S)) : Gj l x y d mc ms nf Q kc ks n w pc L (vR z :: S) := by
  intro p e s m args below meth c H locs cells slots ls F X h1 h2 hl
  have kk := k p e s m args below meth c H locs cells slots ls F X h1 h2 hl
  rw [← dg.2] at kk
  exact lv_dup F.1 F.2.1 dg.1 rfl kk
theorem gj_popI {z : Int} (dg : AtI y pc .pop 1 nx)  (k : Gj l x y d mc ms nf Q kc ks n w nx L S) : Gj l x y d mc ms nf Q kc ks n w pc L (vI z :: S) := by
  intro p e s m args below meth c H locs cells slots ls F X h1 h2 hl
  have kk := k p e s m args below meth c H locs cells slots ls F X h1 h2 hl
  rw [← dg.2] at kk
  exact lv_pop F.1 F.2.1 dg.1 rfl kk
theorem gj_dup2 {z : Int} {k1 : Nat} (dg : AtI y pc .dup2 1 nx)  (k : Gj l x y d mc ms nf Q kc ks n w nx L (vI z :: vR k1 :: vI z :: vR k1 :: S)) : Gj l x y d mc ms nf Q kc ks n w pc L (vI z :: vR k1 :: S) := by
  intro p e s m args below meth c H locs cells slots ls F X h1 h2 hl
  have kk := k p e s m args below meth c H locs cells slots ls F X h1 h2 hl
  rw [← dg.2] at kk
  exact lv_dup2_11 F.1 F.2.1 dg.1 rfl rfl kk
theorem gj_goto {off : Int} (dg : AtJ y pc (.goto off) off nx tg) (k : Gj l x y d mc ms nf Q kc ks n w tg L S) : Gj l x y d mc ms nf Q kc ks n w pc L S := by
  intro p e s m args below meth c H locs cells slots ls F X h1 h2 hl
  exact lv_goto F.1 F.2.1 dg.1 dg.2.2 (k p e s m args below meth c H locs cells slots ls F X h1 h2 hl)
theorem gj_icmp_eq {a b off : Int} (dg : AtJ y pc (.if_icmp .eq off) off nx tg) (hr : R32 a ∧ R32 b) (kt : a = b → Gj l x y d mc ms nf Q kc ks n w tg L S) (kf : ¬ (a = b) → Gj l x y d mc ms nf Q kc ks n w nx L S) : Gj l x y d mc ms nf Q kc ks n w pc L (vI b :: vI a :: S) := by
  intro p e s m args below meth c H locs cells slots ls F X h1 h2 hl
  have hi := iZ_eq hr.1 hr.2
  refine lv_icmp_eq F.1 F.2.1 dg.1 dg.2.2 (fun h => kt ?_ p e s m args below meth c H locs cells slots ls F X h1 h2 hl) (fun h => ?_)
  · exact hi.mp h
  · have kk := kf (fun e => h (hi.mpr e)) p e s m args below meth c H locs cells slots ls F X h1 h2 hl
    rw [← dg.2.1] at kk
    exact kk
theorem gj_if_eq {a off : Int} (dg : AtJ y pc (.ifCond .eq off) off nx tg) (hr : R32 a) (kt : a = 0 → Gj l x y d mc ms nf Q kc ks n w tg L S) (kf : ¬ (a = 0) → Gj l x y d mc ms nf Q kc ks n w nx L S) : Gj l x y d mc ms nf Q kc ks n w pc L (vI a :: S) := by
  intro p e s m args below meth c H locs cells slots ls F X h1 h2 hl
  have hz : R32 0 := by omega
  have hi := iZ_eq hr hz
  rw [iZ_0] at hi
  refine lv_if_eq F.1 F.2.1 dg.1 dg.2.2 (fun h => kt ?_ p e s m args below meth c H locs cells slots ls F X h1 h2 hl) (fun h => ?_)
  · exact hi.mp h
  · have kk := kf (fun e => h (hi.mpr e)) p e s m args below meth c H locs cells slots ls F X h1 h2 hl
    rw [← dg.2.1] at kk
    exact kk
theorem gj_icmp_ne {a b off : Int} (dg : AtJ y pc (.if_icmp .ne off) off nx tg) (hr : R32 a ∧ R32 b) (kt : a ≠ b → Gj l x y d mc ms nf Q kc ks n w tg L S) (kf : a = b → Gj l x y d mc ms nf Q kc ks n w nx L S) : Gj l x y d mc ms nf Q kc ks n w pc L (vI b :: vI a :: S) := by
  intro p e s m args below meth c H locs cells slots ls F X h1 h2 hl
  have hi := iZ_eq hr.1 hr.2
  refine lv_icmp_ne F.1 F.2.1 dg.1 dg.2.2 (fun h => kt ?_ p e s m args below meth c H locs cells slots ls F X h1 h2 hl) (fun h => ?_)
  · exact fun e => h (hi.mpr e)
  · have kk := kf (hi.mp h) p e s m args below meth c H locs cells slots ls F X h1 h2 hl
    rw [← dg.2.1] at kk
    exact kk
theorem gj_if_ne {a off : Int} (dg : AtJ y pc (.ifCond .ne off) off nx tg) (hr : R32 a) (kt : a ≠ 0 → Gj l x y d mc ms nf Q kc ks n w tg L S) (kf : a = 0 → Gj l x y d mc ms nf Q kc ks n w nx L S) : Gj l x y d mc ms nf Q kc ks n w pc L (vI a :: S) := by
  intro p e s m args below meth c H locs cells slots ls F X h1 h2 hl
  have hz : R32 0 := by omega
  have hi := iZ_eq hr hz
  rw [iZ_0] at hi
  refine lv_if_ne F.1 F.2.1 dg.1 dg.2.2 (fun h => kt ?_ p e s m args below meth c H locs cells slots ls F X h1 h2 hl) (fun h => ?_)
  · exact fun e => h (hi.mpr e)
  · have kk := kf (hi.mp h) p e s m args below meth c H locs cells slots ls F X h1 h2 hl
    rw [← dg.2.1] at kk
    exact kk
theorem gj_icmp_lt {a b off : Int} (dg : AtJ y pc (.if_icmp .lt off) off nx tg) (hr : R32 a ∧ R32 b) (kt : a < b → Gj l x y d mc ms nf Q kc ks n w tg L S) (kf : ¬ (a < b) → Gj l x y d mc ms nf Q kc ks n w nx L S) : Gj l x y d mc ms nf Q kc ks n w pc L (vI b :: vI a :: S) := by
  intro p e s m args below meth c H locs cells slots ls F X h1 h2 hl
  have hi := iZ_lt hr.1 hr.2
  refine lv_icmp_lt F.1 F.2.1 dg.1 dg.2.2 (fun h => kt ?_ p e s m args below meth c H locs cells slots ls F X h1 h2 hl) (fun h => ?_)
  · exact hi.mp h
  · have kk := kf (fun e => h (hi.mpr e)) p e s m args below meth c H locs cells slots ls F X h1 h2 hl
    rw [← dg.2.1] at kk
    exact kk
theorem gj_if_lt {a off : Int} (dg : AtJ y pc (.ifCond .lt off) off nx tg) (hr : R32 a) (kt : a < 0 → Gj l x y d mc ms nf Q kc ks n w tg L S) (kf : ¬ (a < 0) → Gj l x y d mc ms nf Q kc ks n w nx L S) : Gj l x y d mc ms nf Q kc ks n w pc L (vI a :: S) := by
  intro p e s m args below meth c H locs cells slots ls F X h1 h2 hl
  have hz : R32 0 := by omega
  have hi := iZ_lt hr hz
  rw [iZ_0] at hi
  refine lv_if_lt F.1 F.2.1 dg.1 dg.2.2 (fun h => kt ?_ p e s m args below meth c H locs cells slots ls F X h1 h2 hl) (fun h => ?_)
  · exact hi.mp h
  · have kk := kf (fun e => h (hi.mpr e)) p e s m args below meth c H locs cells slots ls F X h1 h2 hl
    rw [← dg.2.1] at kk
    exact kk
theorem gj_icmp_ge {a b off : Int} (dg : AtJ y pc (.if_icmp .ge off) off nx tg) (hr : R32 a ∧ R32 b) (kt : b ≤ a → Gj l x y d mc ms nf Q kc ks n w tg L S) (kf : ¬ (b ≤ a) → Gj l x y d mc ms nf Q kc ks n w nx L S) : Gj l x y d mc ms nf Q kc ks n w pc L (vI b :: vI a :: S) := by
  intro p e s m args below meth c H locs cells slots ls F X h1 h2 hl
  have hi := iZ_le hr.2 hr.1
  refine lv_icmp_ge F.1 F.2.1 dg.1 dg.2.2 (fun h => kt ?_ p e s m args below meth c H locs cells slots ls F X h1 h2 hl) (fun h => ?_)
  · exact hi.mp h
  · have kk := kf (fun e => h (hi.mpr e)) p e s m args below meth c H locs cells slots ls F X h1 h2 hl
    rw [← dg.2.1] at kk
    exact kk
theorem gj_if_ge {a off : Int} (dg : AtJ y pc (.ifCond .ge off) off nx tg) (hr : R32 a) (kt : 0 ≤ a → Gj l x y d mc ms nf Q kc ks n w tg L S) (kf : ¬ (0 ≤ a) → Gj l x y d mc ms nf Q kc ks n w nx L S) : Gj l x y d mc ms nf Q kc ks n w pc L (vI a :: S) := by
  intro p e s m args below meth c H locs cells slots ls F X h1 h2 hl
  have hz : R32 0 := by omega
  have hi := iZ_le hz hr
  rw [iZ_0] at hi
  refine lv_if_ge F.1 F.2.1 dg.1 dg.2.2 (fun h => kt ?_ p e s m args below meth c H locs cells slots ls F X h1 h2 hl) (fun h => ?_)
  · exact hi.mp h
  · have kk := kf (fun e => h (hi.mpr e)) p e s m args below meth c H locs cells slots ls F X h1 h2 hl
    rw [← dg.2.1] at kk
    exact kk
theorem gj_icmp_gt {a b off : Int} (dg : AtJ y pc (.if_icmp .gt off) off nx tg) (hr : R32 a ∧ R32 b) (kt : b < a → Gj l x y d mc ms nf Q kc ks n w tg L S) (kf : ¬ (b < a) → Gj l x y d mc ms nf Q kc ks n w nx L S) : Gj l x y d mc ms nf Q kc ks n w pc L (vI b :: vI a :: S) := by
  intro p e s m args below meth c H locs cells slots ls F X h1 h2 hl
  have hi := iZ_lt hr.2 hr.1
  refine lv_icmp_gt F.1 F.2.1 dg.1 dg.2.2 (fun h => kt ?_ p e s m args below meth c H locs cells slots ls F X h1 h2 hl) (fun h => ?_)
  · exact hi.mp h
  · have kk := kf (fun e => h (hi.mpr e)) p e s m args below meth c H locs cells slots ls F X h1 h2 hl
    rw [← dg.2.1] at kk
    exact kk
theorem gj_if_gt {a off : Int} (dg : AtJ y pc (.ifCond .gt off) off nx tg) (hr : R32 a) (kt : 0 < a → Gj l x y d mc ms nf Q kc ks n w tg L S) (kf : ¬ (0 < a) → Gj l x y d mc ms nf Q kc ks n w nx L S) : Gj l x y d mc ms nf Q kc ks n w pc L (vI a :: S) := by
  intro p e s m args below meth c H locs cells slots ls F X h1 h2 hl
  have hz : R32 0 := by omega
  have hi := iZ_lt hz hr
  rw [iZ_0] at hi
  refine lv_if_gt F.1 F.2.1 dg.1 dg.2.2 (fun h => kt ?_ p e s m args below meth c H locs cells slots ls F X h1 h2 hl) (fun h => ?_)
  · exact hi.mp h
  · have kk := kf (fun e => h (hi.mpr e)) p e s m args below meth c H locs cells slots ls F X h1 h2 hl
    rw [← dg.2.1] at kk
    exact kk
theorem gj_icmp_le {a b off : Int} (dg : AtJ y pc (.if_icmp .le off) off nx tg) (hr : R32 a ∧ R32 b) (kt : a ≤ b → Gj l x y d mc ms nf Q kc ks n w tg L S) (kf : ¬ (a ≤ b) → Gj l x y d mc ms nf Q kc ks n w nx L S) : Gj l x y d mc ms nf Q kc ks n w pc L (vI b :: vI a :: S) := by
  intro p e s m args below meth c H locs cells slots ls F X h1 h2 hl
  have hi := iZ_le hr.1 hr.2
  refine lv_icmp_le F.1 F.2.1 dg.1 dg.2.2 (fun h => kt ?_ p e s m args below meth c H locs cells slots ls F X h1 h2 hl) (fun h => ?_)
  · exact hi.mp h
  · have kk := kf (fun e => h (hi.mpr e)) p e s m args below meth c H locs cells slots ls F X h1 h2 hl
    rw [← dg.2.1] at kk
    exact kk
theorem gj_if_le {a off : Int} (dg : AtJ y pc (.ifCond .le off) off nx tg) (hr : R32 a) (kt : a ≤ 0 → Gj l x y d mc ms nf Q kc ks n w tg L S) (kf : ¬ (a ≤ 0) → Gj l x y d mc ms nf Q kc ks n w nx L S) : Gj l x y d mc ms nf Q kc ks n w pc L (vI a :: S) := by
  intro p e s m args below meth c H locs cells slots ls F X h1 h2 hl
  have hz : R32 0 := by omega
  have hi := iZ_le hr hz
  rw [iZ_0] at hi
  refine lv_if_le F.1 F.2.1 dg.1 dg.2.2 (fun h => kt ?_ p e s m args below meth c H locs cells slots ls F X h1 h2 hl) (fun h => ?_)
  · exact hi.mp h
  · have kk := kf (fun e => h (hi.mpr e)) p e s m args below meth c H locs cells slots ls F X h1 h2 hl
    rw [← dg.2.1] at kk
    exact kk
theorem gj_ifB_eq {P : Prop} [Decidable P] {off : Int} (dg : AtJ y pc (.ifCond .eq off) off nx tg) (kt : ¬ P → Gj l x y d mc ms nf Q kc ks n w tg L S) (kf : P → Gj l x y d mc ms nf Q kc ks n w nx L S) : Gj l x y d mc ms nf Q kc ks n w pc L (vI (b2i P) :: S) :=
  gj_if_eq dg (by rcases b2i_R P with h | h <;> rw [h] <;> omega) (fun h => kt (fun hp => by rw [b2i_t hp] at h; omega)) (fun h => kf (Decidable.byContradiction fun hp => h (b2i_f hp)))
theorem gj_ifB_ne {P : Prop} [Decidable P] {off : Int} (dg : AtJ y pc (.ifCond .ne off) off nx tg) (kt : P → Gj l x y d mc ms nf Q kc ks n w tg L S) (kf : ¬ P → Gj l x y d mc ms nf Q kc ks n w nx L S) : Gj l x y d mc ms nf Q kc ks n w pc L (vI (b2i P) :: S) :=
  gj_if_ne dg (by rcases b2i_R P with h | h <;> rw [h] <;> omega) (fun h => kt (Decidable.byContradiction fun hp => h (b2i_f hp))) (fun h => kf (fun hp => by rw [b2i_t hp] at h; omega))
theorem gj_same_eq {a b off : Int} (dg : AtJ y pc (.if_icmp .eq off) off nx tg) (h : a = b) (kt : Gj l x y d mc ms nf Q kc ks n w tg L S) : Gj l x y d mc ms nf Q kc ks n w pc L (vI b :: vI a :: S) := by
  subst h
  intro p e s m args below meth c H locs cells slots ls F X h1 h2 hl
  exact lv_icmp_eq F.1 F.2.1 dg.1 dg.2.2 (fun _ => kt p e s m args below meth c H locs cells slots ls F X h1 h2 hl) (fun h => absurd rfl h)
theorem gj_tswI {z dflt lo hi off : Int} {offs : Array Int} {len : Nat} (dg : decode y.2.1 pc = .ok (.tableswitch dflt lo hi offs, len)) (j : Nat) (hr : R32 z) (hz : z = lo + j) (hh : lo + j ≤ hi) (ho : offs[j]? = some off) (ht : (pc : Int) + off = (tg : Int)) (k : Gj l x y d mc ms nf Q kc ks n w tg L S) : Gj l x y d mc ms nf Q kc ks n w pc L (vI z :: S) := by
  intro p e s m args below meth c H locs cells slots ls F X h1 h2 hl
  exact lv_tableIn F.1 F.2.1 dg (by rw [iZ_toInt hr]; omega) (by rw [iZ_toInt hr]; omega) (by rw [iZ_toInt hr, show (z - lo).toNat = j by omega]; exact ho) ht (k p e s m args below meth c H locs cells slots ls F X h1 h2 hl)
theorem gj_tswO {z dflt lo hi : Int} {offs : Array Int} {len : Nat} (dg : decode y.2.1 pc = .ok (.tableswitch dflt lo hi offs, len)) (hr : R32 z) (hz : z < lo ∨ hi < z) (ht : (pc : Int) + dflt = (tg : Int)) (k : Gj l x y d mc ms nf Q kc ks n w tg L S) : Gj l x y d mc ms nf Q kc ks n w pc L (vI z :: S) := by
  intro p e s m args below meth c H locs cells slots ls F X h1 h2 hl
  exact lv_tableOut F.1 F.2.1 dg (by rw [iZ_toInt hr]; exact hz) ht (k p e s m args below meth c H locs cells slots ls F X h1 h2 hl)
theorem gj_loc {L2 : List (Option AV)} (h : ∀ i v, lk L2 i = some v → lk L i = some v) (k : Gj l x y d mc ms nf Q kc ks n w pc L2 S) : Gj l x y d mc ms nf Q kc ks n w pc L S := by
  intro p e s m args below meth c H locs cells slots ls F X h1 h2 hl
  exact k p e s m args below meth c H locs cells slots ls F X h1 h2 (hl.weak h)
theorem gj_eq {L2 : List (Option AV)} {S2 : List AV} {w2 : AW} (hL : L = L2) (hS : S = S2) (hw : w = w2) (k : Gj l x y d mc ms nf Q kc ks n w2 pc L2 S2) : Gj l x y d mc ms nf Q kc ks n w pc L S := by
  subst hL; subst hS; subst hw; exact k
end GJ
