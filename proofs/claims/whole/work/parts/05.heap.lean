/-! rows of Gj for fields, arrays and new cells -/
def LF (own : String) (j ci i : Nat) (fin : Bool) (ty : FieldType) : Prop := ∃ (C : String) (T : u_T) (N : Nat), vwCl[ci]? = some (C, T, N) ∧ i < N ∧ Cond.fieldLink own j (T i).1 (T i).2.1 (T i).2.2.1 ∈ lw_g ∧ (T i).2.2.2 = fin ∧ parseFieldDescriptor (T i).2.2.1 = some ty ∧ (T i).1 = C
theorem inX0 : ∀ t ∈ u_ws RX0 TX0 1, t ∈ lw_g := mgs (by decide +kernel) (by decide +kernel)
theorem inX1 : ∀ t ∈ u_ws RX1 TX1 4, t ∈ lw_g := mgs (by decide +kernel) (by decide +kernel)
theorem inX2 : ∀ t ∈ u_ws RX2 TX2 10, t ∈ lw_g := mgs (by decide +kernel) (by decide +kernel)
theorem inX3 : ∀ t ∈ u_ws RX3 TX3 5, t ∈ lw_g := mgs (by decide +kernel) (by decide +kernel)
theorem inX4 : ∀ t ∈ u_ws RX4 TX4 5, t ∈ lw_g := mgs (by decide +kernel) (by decide +kernel)
theorem inX5 : ∀ t ∈ u_ws RX5 TX5 6, t ∈ lw_g := mgs (by decide +kernel) (by decide +kernel)
theorem inX6 : ∀ t ∈ u_ws RX6 TX6 8, t ∈ lw_g := mgs (by decide +kernel) (by decide +kernel)
theorem inX7 : ∀ t ∈ u_ws RX7 TX7 4, t ∈ lw_g := mgs (by decide +kernel) (by decide +kernel)
theorem inX8 : ∀ t ∈ u_ws RX8 TX8 9, t ∈ lw_g := mgs (by decide +kernel) (by decide +kernel)
theorem inX9 : ∀ t ∈ u_ws RX9 TX9 29, t ∈ lw_g := mgs (by decide +kernel) (by decide +kernel)
/-- what the tables say of each class: its fields' words, types and names -/
theorem vwCl_all {ci : Nat} {C : String} {T : u_T} {N : Nat} (h : vwCl[ci]? = some (C, T, N)) : (∀ t ∈ u_ws C T N, t ∈ lw_g) ∧ ∃ ty : Nat → FieldType, (∀ k, k < N → parseFieldDescriptor (T k).2.2.1 = some (ty k)) ∧ ∀ a, a < N → ∀ b, b < N → a ≠ b → (T a).2.1 ≠ (T b).2.1 := by
  match ci, h with
  | 0, h => cases h; exact ⟨inX0, tyX0, tyX0_ok, nmX0⟩
  | 1, h => cases h; exact ⟨inX1, tyX1, tyX1_ok, nmX1⟩
  | 2, h => cases h; exact ⟨inX2, tyX2, tyX2_ok, nmX2⟩
  | 3, h => cases h; exact ⟨inX3, tyX3, tyX3_ok, nmX3⟩
  | 4, h => cases h; exact ⟨inX4, tyX4, tyX4_ok, nmX4⟩
  | 5, h => cases h; exact ⟨inX5, tyX5, tyX5_ok, nmX5⟩
  | 6, h => cases h; exact ⟨inX6, tyX6, tyX6_ok, nmX6⟩
  | 7, h => cases h; exact ⟨inX7, tyX7, tyX7_ok, nmX7⟩
  | 8, h => cases h; exact ⟨inX8, tyX8, tyX8_ok, nmX8⟩
  | 9, h => cases h; exact ⟨inX9, tyX9, tyX9_ok, nmX9⟩
  | k + 10, h => exact absurd h (by simp [vwCl])
theorem HX.size {x : Cx} {n : Nat} {w : AW} {s : State} {H : Heap} {locs : List Loc} {cells : Nat} (X : HX x n w s H locs cells) (hz : H.size ≤ s.heap.size + cells) : H.size = x.1 + n := by
  obtain ⟨-, hP, hc, hS, hb, -⟩ := X
  have h1 : x.1 + n ≤ H.size := by
    cases n with
    | zero => exact Nat.le_trans hb hS.1
    | succ n =>
      have := (hP n _ (cw_at (Nat.lt_succ_self n))).lt
      exact this
  omega
section GH
variable {l : Launch} {x : Cx} {y : MI} {d mc ms nf : Nat} {Q : QT} {kc ks n : Nat} {w : AW} {pc nx tg : Nat} {L : List (Option AV)} {S : List AV}
theorem gj_get {j ci i k : Nat} {fin : Bool} {ty : FieldType} {fs : List AV} {v : AV} (dg : AtI y pc (.getfield j) 3 nx) (hf : LF y.1.cls j ci i fin ty) (hw : w k = cO ci fs) (hk : Nat.blt k n = true) (hv : fs[i]? = some v) (kk : Gj l x y d mc ms nf Q kc ks n w nx L (v :: S)) : Gj l x y d mc ms nf Q kc ks n w pc L (vR k :: S) := by
  intro p e s m args below meth c H locs cells slots ls F X h1 h2 hl
  have kk := kk p e s m args below meth c H locs cells slots ls F X h1 h2 hl
  rw [← dg.2] at kk
  obtain ⟨C, T, N, hc, hi, hin, -, -, -⟩ := hf
  refine va_get (D := x.2.1) (ci := ci) (v := cv x.1 v) (C := C) (T := T) (N := N) F.1 F.2.1 F.2.2.2.2.2.1 (vwCl_all hc).1 F.2.2.2.2.1 X.1 X.2.1 k (fs := fs.map (cv x.1)) ?_ hc i hi (F.2.2.2.2.2.1 _ hin) (fun _ h9 => h9) ?_ dg.1 kk
  · rw [cw_at (Nat.le_of_ble_eq_true hk), hw]; rfl
  · rw [List.getElem?_map, hv]; rfl
theorem gj_put {j ci i k : Nat} {ty : FieldType} {fs : List AV} {v : AV} (hnar : ∀ b, narrow ty (cv b v) = cv b v ∧ fits ty (cv b v) = true) (dg : AtI y pc (.putfield j) 3 nx) (hf : LF y.1.cls j ci i false ty) (hw : w k = cO ci fs) (hk : Nat.blt k n = true) (hi2 : i < fs.length) (kk : Gj l x y d mc ms nf Q kc ks n (upw w k (cO ci (fs.set i v))) nx L S) : Gj l x y d mc ms nf Q kc ks n w pc L (v :: vR k :: S) := by
  intro p e s m args below meth c H locs cells slots ls F X h1 h2 hl
  obtain ⟨C, T, N, hc, hi, hin, hfi, hty, -⟩ := hf
  obtain ⟨hws, ty0, hty0, hnm⟩ := vwCl_all hc
  have hk' : k < n := Nat.le_of_ble_eq_true hk
  refine va_put (D := x.2.1) (ci := ci) (v := cv x.1 v) (C := C) (T := T) (N := N) F.1 F.2.1 F.2.2.2.2.2.1 hws ty0 hty0 hnm F.2.2.2.2.1 X.1 X.2.1 (cw_D x n w) X.2.2.2.1 k (fs := fs.map (cv x.1)) (by rw [cw_at hk', hw]; rfl) hc i hi (F.2.2.2.2.2.1 _ hin) (fun _ h9 => h9) hfi hty (hnar x.1).1 (hnar x.1).2 (by rw [List.length_map]; exact hi2) dg.1 (fun H1 locs1 hP1 hD1 hS1 => ?_)
  rw [dg.2]
  refine kk p e s m args below meth c H1 locs1 cells slots ls F ⟨X.1, ?_, X.2.2.1, hS1, X.2.2.2.2⟩ h1 h2 hl
  rw [← cw_set hk']
  have e1 : cE x (cO ci (fs.set i v)) = .inr (ci, (fs.map (cv x.1)).set i (cv x.1 v)) := by
    show (Sum.inr (ci, (fs.set i v).map (cv x.1)) : va_E) = _
    rw [List.map_set]
  rw [e1]
  exact hP1
theorem gj_putF {j ci i k : Nat} {ty : FieldType} {fs : List AV} {v : AV} (hnar : ∀ b, narrow ty (cv b v) = cv b v ∧ fits ty (cv b v) = true) (dg : AtI y pc (.putfield j) 3 nx) (hf : LF y.1.cls j ci i true ty) (hini : y.1.name = "<init>") (hown : ∃ T N, vwCl[ci]? = some (y.1.cls, T, N)) (hw : w k = cO ci fs) (hk : Nat.blt k n = true) (hi2 : i < fs.length) (kk : Gj l x y d mc ms nf Q kc ks n (upw w k (cO ci (fs.set i v))) nx L S) : Gj l x y d mc ms nf Q kc ks n w pc L (v :: vR k :: S) := by
  intro p e s m args below meth c H locs cells slots ls F X h1 h2 hl
  obtain ⟨C, T, N, hc, hi, hin, hfi, hty, hC⟩ := hf
  obtain ⟨T', N', hc'⟩ := hown
  have hCy : C = y.1.cls := by
    rw [hc] at hc'
    exact congrArg Prod.fst (Option.some.inj hc')
  obtain ⟨hws, ty0, hty0, hnm⟩ := vwCl_all hc
  have hk' : k < n := Nat.le_of_ble_eq_true hk
  refine va_putF (D := x.2.1) (ci := ci) (v := cv x.1 v) (C := C) (T := T) (N := N) F.1 F.2.1 F.2.2.2.2.2.1 hws ty0 hty0 hnm F.2.2.2.2.1 X.1 X.2.1 (cw_D x n w) X.2.2.2.1 k (fs := fs.map (cv x.1)) (by rw [cw_at hk', hw]; rfl) hc i hi (F.2.2.2.2.2.1 _ hin) (fun _ h9 => h9) hfi (F.2.2.2.2.2.2.2.trans hini) (hC.trans hCy) hty (hnar x.1).1 (hnar x.1).2 (by rw [List.length_map]; exact hi2) dg.1 (fun H1 locs1 hP1 hD1 hS1 => ?_)
  rw [dg.2]
  refine kk p e s m args below meth c H1 locs1 cells slots ls F ⟨X.1, ?_, X.2.2.1, hS1, X.2.2.2.2⟩ h1 h2 hl
  rw [← cw_set hk']
  have e1 : cE x (cO ci (fs.set i v)) = .inr (ci, (fs.map (cv x.1)).set i (cv x.1 v)) := by
    show (Sum.inr (ci, (fs.set i v).map (cv x.1)) : va_E) = _
    rw [List.map_set]
  rw [e1]
  exact hP1
theorem nar_I {z : Int} : ∀ b, narrow .int (cv b (vI z)) = cv b (vI z) ∧ fits .int (cv b (vI z)) = true := fun _ => ⟨rfl, rfl⟩
theorem nar_Z {z : Int} (h : z = 0 ∨ z = 1) : ∀ b, narrow .boolean (cv b (vI z)) = cv b (vI z) ∧ fits .boolean (cv b (vI z)) = true := by
  intro b
  rcases h with rfl | rfl
  · exact ⟨(by decide : narrow .boolean (.int (iZ 0)) = .int (iZ 0)), (by decide : fits .boolean (.int (iZ 0)) = true)⟩
  · exact ⟨(by decide : narrow .boolean (.int (iZ 1)) = .int (iZ 1)), (by decide : fits .boolean (.int (iZ 1)) = true)⟩
theorem nar_R {k : Nat} {C : String} : ∀ b, narrow (.object C) (cv b (vR k)) = cv b (vR k) ∧ fits (.object C) (cv b (vR k)) = true := fun _ => ⟨rfl, rfl⟩
theorem nar_A {k : Nat} {t : FieldType} : ∀ b, narrow (.array t) (cv b (vR k)) = cv b (vR k) ∧ fits (.array t) (cv b (vR k)) = true := fun _ => ⟨rfl, rfl⟩
theorem clampI {i : Int} {N : Nat} (hi : 0 ≤ i ∧ i < (N : Int)) (hN : Nat.ble N 4096 = true) : (((iZ i).toNatClampNeg : Nat) : Int) = i ∧ R32 i := by
  have hN := Nat.le_of_ble_eq_true hN
  have hr : R32 i := by omega
  rw [iZ_clamp hr]
  exact ⟨by omega, hr⟩
theorem gj_iald {k N : Nat} {f : Int → Int} {i : Int} (dg : AtI y pc .iaload 1 nx) (hw : w k = cI N f) (hk : Nat.blt k n = true) (hN : Nat.ble N 4096 = true) (hi : 0 ≤ i ∧ i < (N : Int)) (kk : Gj l x y d mc ms nf Q kc ks n w nx L (vI (f i) :: S)) : Gj l x y d mc ms nf Q kc ks n w pc L (vI i :: vR k :: S) := by
  intro p e s m args below meth c H locs cells slots ls F X h1 h2 hl
  have kk := kk p e s m args below meth c H locs cells slots ls F X h1 h2 hl
  rw [← dg.2] at kk
  refine va_iald (D := x.2.1) F.1 F.2.1 X.1 X.2.1 k 0 (cA := x.2.2.1) (n := N) (f := fun j => iZ (f (j : Int))) (by rw [cw_at (Nat.le_of_ble_eq_true hk), hw]; rfl) rfl (iZ_in hi hN) dg.1 ?_
  rw [(clampI hi hN).1]
  exact kk
theorem gj_zald {k N : Nat} {f : Int → Int} {i : Int} (dg : AtI y pc .baload 1 nx) (hw : w k = cZ N f) (hk : Nat.blt k n = true) (hN : Nat.ble N 4096 = true) (hi : 0 ≤ i ∧ i < (N : Int)) (kk : Gj l x y d mc ms nf Q kc ks n w nx L (vI (f i) :: S)) : Gj l x y d mc ms nf Q kc ks n w pc L (vI i :: vR k :: S) := by
  intro p e s m args below meth c H locs cells slots ls F X h1 h2 hl
  have kk := kk p e s m args below meth c H locs cells slots ls F X h1 h2 hl
  rw [← dg.2] at kk
  refine va_zald (D := x.2.1) F.1 F.2.1 X.1 X.2.1 k 1 (cA := x.2.2.2.1) (n := N) (f := fun j => iZ (f (j : Int))) (by rw [cw_at (Nat.le_of_ble_eq_true hk), hw]; rfl) rfl (iZ_in hi hN) dg.1 ?_
  rw [(clampI hi hN).1]
  exact kk
theorem gj_iast {k N : Nat} {f : Int → Int} {i z : Int} (dg : AtI y pc .iastore 1 nx) (hw : w k = cI N f) (hk : Nat.blt k n = true) (hN : Nat.ble N 4096 = true) (hi : 0 ≤ i ∧ i < (N : Int)) (kk : Gj l x y d mc ms nf Q kc ks n (upw w k (cI N (upf f i z))) nx L S) : Gj l x y d mc ms nf Q kc ks n w pc L (vI z :: vI i :: vR k :: S) := by
  intro p e s m args below meth c H locs cells slots ls F X h1 h2 hl
  have hk' : k < n := Nat.le_of_ble_eq_true hk
  refine va_iast (D := x.2.1) F.1 F.2.1 X.1 X.2.1 (cw_D x n w) X.2.2.2.1 k 0 (cA := x.2.2.1) (n := N) (f := fun j => iZ (f (j : Int))) (x := iZ z) (by rw [cw_at hk', hw]; rfl) rfl (iZ_in hi hN) dg.1 (fun H1 locs1 hP1 hD1 hS1 => ?_)
  rw [dg.2]
  refine kk p e s m args below meth c H1 locs1 cells slots ls F ⟨X.1, ?_, X.2.2.1, hS1, X.2.2.2.2⟩ h1 h2 hl
  rw [← cw_set hk']
  rw [upf_c f ⟨(clampI hi hN).2, hi.1⟩] at hP1
  exact hP1
theorem gj_zast {k N : Nat} {f : Int → Int} {i z : Int} (hz : z = 0 ∨ z = 1) (dg : AtI y pc .bastore 1 nx) (hw : w k = cZ N f) (hk : Nat.blt k n = true) (hN : Nat.ble N 4096 = true) (hi : 0 ≤ i ∧ i < (N : Int)) (kk : Gj l x y d mc ms nf Q kc ks n (upw w k (cZ N (upf f i z))) nx L S) : Gj l x y d mc ms nf Q kc ks n w pc L (vI z :: vI i :: vR k :: S) := by
  intro p e s m args below meth c H locs cells slots ls F X h1 h2 hl
  have hk' : k < n := Nat.le_of_ble_eq_true hk
  refine va_zast (D := x.2.1) F.1 F.2.1 X.1 X.2.1 (cw_D x n w) X.2.2.2.1 k 1 (cA := x.2.2.2.1) (n := N) (f := fun j => iZ (f (j : Int))) (x := iZ z) (by rw [cw_at hk', hw]; rfl) rfl (iZ_in hi hN) dg.1 (fun H1 locs1 hP1 hD1 hS1 => ?_)
  rw [dg.2]
  refine kk p e s m args below meth c H1 locs1 cells slots ls F ⟨X.1, ?_, X.2.2.1, hS1, X.2.2.2.2⟩ h1 h2 hl
  rw [← cw_set hk']
  have e2 : vp_nar .boolean (iZ z) = iZ z := by rcases hz with rfl | rfl <;> decide
  rw [e2, upf_c f ⟨(clampI hi hN).2, hi.1⟩] at hP1
  exact hP1
theorem gj_aald {k N k2 : Nat} {f : Int → Option Nat} {i : Int} (dg : AtI y pc .aaload 1 nx) (hw : w k = cR N f) (hk : Nat.blt k n = true) (hN : Nat.ble N 4096 = true) (hi : 0 ≤ i ∧ i < (N : Int)) (hf : f i = some k2) (kk : Gj l x y d mc ms nf Q kc ks n w nx L (vR k2 :: S)) : Gj l x y d mc ms nf Q kc ks n w pc L (vI i :: vR k :: S) := by
  intro p e s m args below meth c H locs cells slots ls F X h1 h2 hl
  have kk := kk p e s m args below meth c H locs cells slots ls F X h1 h2 hl
  rw [← dg.2] at kk
  refine va_aldq (D := x.2.1) F.1 F.2.1 X.1 X.2.1 k 2 (cA := x.2.2.2.2) (C := "BishopsPeace$Sheet") (n := N) (f := fun j => (f (j : Int)).map (fun k => x.1 + k)) (by rw [cw_at (Nat.le_of_ble_eq_true hk), hw]; rfl) rfl (iZ_in hi hN) dg.1 ?_
  rw [(clampI hi hN).1, hf]
  exact kk
theorem gj_aast {k N v : Nat} {f : Int → Option Nat} {i : Int} {fs : List AV} (dg : AtI y pc .aastore 1 nx) (hw : w k = cR N f) (hk : Nat.blt k n = true) (hN : Nat.ble N 4096 = true) (hi : 0 ≤ i ∧ i < (N : Int)) (hv : w v = cO 7 fs) (hvn : Nat.blt v n = true) (kk : Gj l x y d mc ms nf Q kc ks n (upw w k (cR N (upr f i (some v)))) nx L S) : Gj l x y d mc ms nf Q kc ks n w pc L (vR v :: vI i :: vR k :: S) := by
  intro p e s m args below meth c H locs cells slots ls F X h1 h2 hl
  have hk' : k < n := Nat.le_of_ble_eq_true hk
  refine va_astq (D := x.2.1) F.1 F.2.1 X.1 X.2.1 (cw_D x n w) X.2.2.2.1 k 2 v 7 (cA := x.2.2.2.2) (r := (RX7, TX7, 4)) (n := N) (vs := fs.map (cv x.1)) (f := fun j => (f (j : Int)).map (fun k => x.1 + k)) (by rw [cw_at hk', hw]; rfl) rfl (by rw [cw_at (Nat.le_of_ble_eq_true hvn), hv]; rfl) rfl (iZ_in hi hN) dg.1 (fun H1 locs1 hP1 hD1 hS1 => ?_)
  rw [dg.2]
  refine kk p e s m args below meth c H1 locs1 cells slots ls F ⟨X.1, ?_, X.2.2.1, hS1, X.2.2.2.2⟩ h1 h2 hl
  rw [← cw_set hk']
  rw [upr_c f ⟨(clampI hi hN).2, hi.1⟩] at hP1
  exact hP1
theorem gj_alen {k N : Nat} {f : Int → Int} (dg : AtI y pc .arraylength 1 nx) (hw : w k = cI N f) (hk : Nat.blt k n = true) (kk : Gj l x y d mc ms nf Q kc ks n w nx L (vI (N : Int) :: S)) : Gj l x y d mc ms nf Q kc ks n w pc L (vR k :: S) := by
  intro p e s m args below meth c H locs cells slots ls F X h1 h2 hl
  have kk := kk p e s m args below meth c H locs cells slots ls F X h1 h2 hl
  rw [← dg.2] at kk
  exact va_alen (D := x.2.1) F.1 F.2.1 X.1 X.2.1 k 0 (cA := x.2.2.1) (x := (N, .inl (fun j => iZ (f (j : Int))))) (by rw [cw_at (Nat.le_of_ble_eq_true hk), hw]; rfl) rfl (Int32.ofInt_eq_ofNat).symm dg.1 kk
theorem gj_sz {p : Program} {e : Env} {R : Room} {s : State} {m : MethodId} {args : Array Value} {below : List Frame} {meth : Method} {c : Code} {H : Heap} {locs : List Loc} {cells slots : Nat} {Z : State → Prop} {g : JFrame} (h : H.size ≤ s.heap.size + cells → W p l e R s m args below meth c H locs cells slots Z g) : W p l e R s m args below meth c H locs cells slots Z g := fun T hT X => h (by rw [← hT]; exact X.heapSize) T hT X
theorem gj_new {j ci N : Nat} {C : String} {T : u_T} {ty : Nat → FieldType} {fs : List AV} (dg : AtI y pc (.new j) 3 nx) (hcl : Cond.classLink y.1.cls j C ∈ lw_g) (hins : Cond.instantiable C N ∈ lw_g) (hini : Cond.initialized C ∈ lw_g) (hc : vwCl[ci]? = some (C, T, N)) (hty : ∀ k, k < N → parseFieldDescriptor (T k).2.2.1 = some (ty k)) (hfs : ∀ b i, i < N → defaultValue (ty i) = vp_V (fs.map (cv b)) i) (kk : Gj l x y d mc ms nf Q kc ks (n + 1) (upw w n (cO ci fs)) nx L (vR n :: S)) : Gj l x y d mc ms nf Q (kc + 1) (ks + N) n w pc L S := by
  intro p e s m args below meth c H locs cells slots ls F X h1 h2 hl
  refine gj_sz (fun hz0 => ?_)
  have hz : H.size = x.1 + n := X.size hz0
  have hKn := X.1.1 ci _ hc
  refine W.newcK F.1 F.2.1 F.2.2.2.2.1 (F.2.2.2.2.2.1 _ hcl) (F.2.2.2.2.2.1 _ hins) (F.2.2.2.2.2.1 _ hini) rfl dg.1 (show cells + 1 ≤ mc by omega) (show slots + N ≤ ms by omega) hKn.2.1 hz (fun H1 kC hkC e1 z1 o1 => ?_)
  have hx1 : x.1 + n + 1 = x.1 + (n + 1) := Nat.add_assoc _ _ _
  have hh : HX x (n + 1) (upw w n (cO ci fs)) s H1 locs (cells + 1) := by
    refine ⟨X.1, ?_, by have := X.2.2.1; omega, ⟨by have := X.2.2.2.1.1; omega, fun q g1 g2 => (o1 q (by have := X.2.2.2.1.1; omega)).trans (X.2.2.2.1.2.1 q g1 g2), X.2.2.2.1.2.2⟩, X.2.2.2.2⟩
    rw [← cw_push]
    refine (X.2.1.kept (fun k q hq => o1 q.1 (by rw [← hz]; exact (X.2.1 k q hq).lt))).app (fun k q hq => ?_)
    have hk0 : k < 1 := (List.getElem?_eq_some_iff.mp hq).1
    rw [show k = 0 by omega] at hq
    cases hq
    exact ⟨_, hc, (u_born ty F.2.2.2.2.2.1 (vwCl_all hc).1 hKn hkC e1 hty).to (fun i hi => hfs x.1 i hi)⟩
  have k2 := kk p e s m args below meth c H1 locs (cells + 1) (slots + N) ls F hh (by omega) (by omega) hl
  rw [← dg.2] at k2
  exact k2
theorem ac_int : Cond.arrayClass .int ∈ lw_g := List.mem_filter.mpr ⟨by decide +kernel, rfl⟩
theorem ac_bool : Cond.arrayClass .boolean ∈ lw_g := List.mem_filter.mpr ⟨by decide +kernel, rfl⟩
theorem arr_same {cA cB : ClassId} {s : State} {t : String} (h1 : s.vm.findClass t = some cA) (h2 : s.vm.findClass t = some cB) : cA = cB := Option.some.inj (h1.symm.trans h2)
theorem gj_newI {N : Nat} {z : Int} (dg : AtI y pc (.newarray .int) 2 nx) (hz : z = (N : Int)) (hN : Nat.ble N 4096 = true) (kk : Gj l x y d mc ms nf Q kc ks (n + 1) (upw w n (cI N (fun _ => 0))) nx L (vR n :: S)) : Gj l x y d mc ms nf Q (kc + 1) (ks + N) n w pc L (vI z :: S) := by
  intro p e s m args below meth c H locs cells slots ls F X h1 h2 hl
  refine gj_sz (fun hz0 => ?_)
  have hN := Nat.le_of_ble_eq_true hN
  have hR : R32 z := by omega
  have hsz : H.size = x.1 + n := X.size hz0
  have hAK := (X.1.2 0 (x.2.2.1, .int) rfl).2
  refine va_newaK (atype := .int) F.1 F.2.1 (F.2.2.2.2.2.1 (.arrayClass .int) ac_int) rfl dg.1 (n := iZ z) (N := N) rfl (fun h => absurd ((iZ_lt (b := 0) hR (by omega)).mp (by rw [iZ_0]; exact h)) (by omega)) (by rw [iZ_clamp hR]; omega) (show N * 4 ≤ 536870912 by omega) (show cells + 1 ≤ mc by omega) (show slots + N ≤ ms by omega) hsz (fun H1 cA e1 z1 o1 hAr hNm => ?_)
  have hcA : cA = x.2.2.1 := arr_same hNm hAK
  have hh : HX x (n + 1) (upw w n (cI N (fun _ => 0))) s H1 locs (cells + 1) := by
    refine ⟨X.1, ?_, by have := X.2.2.1; omega, ⟨by have := X.2.2.2.1.1; omega, fun q g1 g2 => (o1 q (by have := X.2.2.2.1.1; omega)).trans (X.2.2.2.1.2.1 q g1 g2), X.2.2.2.1.2.2⟩, X.2.2.2.2⟩
    rw [← cw_push]
    refine (X.2.1.kept (fun k q hq => o1 q.1 (by rw [← hsz]; exact (X.2.1 k q hq).lt))).app (fun k q hq => ?_)
    have hk0 : k < 1 := (List.getElem?_eq_some_iff.mp hq).1
    rw [show k = 0 by omega] at hq
    cases hq
    rw [hcA] at e1
    exact e1
  have k2 := kk p e s m args below meth c H1 locs (cells + 1) (slots + N) ls F hh (by omega) (by omega) hl
  rw [← dg.2] at k2
  exact k2
theorem gj_newZ {N : Nat} {z : Int} (dg : AtI y pc (.newarray .boolean) 2 nx) (hz : z = (N : Int)) (hN : Nat.ble N 4096 = true) (kk : Gj l x y d mc ms nf Q kc ks (n + 1) (upw w n (cZ N (fun _ => 0))) nx L (vR n :: S)) : Gj l x y d mc ms nf Q (kc + 1) (ks + N) n w pc L (vI z :: S) := by
  intro p e s m args below meth c H locs cells slots ls F X h1 h2 hl
  refine gj_sz (fun hz0 => ?_)
  have hN := Nat.le_of_ble_eq_true hN
  have hR : R32 z := by omega
  have hsz : H.size = x.1 + n := X.size hz0
  have hAK := (X.1.2 1 (x.2.2.2.1, .boolean) rfl).2
  refine va_newaK (atype := .boolean) F.1 F.2.1 (F.2.2.2.2.2.1 (.arrayClass .boolean) ac_bool) rfl dg.1 (n := iZ z) (N := N) rfl (fun h => absurd ((iZ_lt (b := 0) hR (by omega)).mp (by rw [iZ_0]; exact h)) (by omega)) (by rw [iZ_clamp hR]; omega) (show N * 1 ≤ 536870912 by omega) (show cells + 1 ≤ mc by omega) (show slots + N ≤ ms by omega) hsz (fun H1 cA e1 z1 o1 hAr hNm => ?_)
  have hcA : cA = x.2.2.2.1 := arr_same hNm hAK
  have hh : HX x (n + 1) (upw w n (cZ N (fun _ => 0))) s H1 locs (cells + 1) := by
    refine ⟨X.1, ?_, by have := X.2.2.1; omega, ⟨by have := X.2.2.2.1.1; omega, fun q g1 g2 => (o1 q (by have := X.2.2.2.1.1; omega)).trans (X.2.2.2.1.2.1 q g1 g2), X.2.2.2.1.2.2⟩, X.2.2.2.2⟩
    rw [← cw_push]
    refine (X.2.1.kept (fun k q hq => o1 q.1 (by rw [← hsz]; exact (X.2.1 k q hq).lt))).app (fun k q hq => ?_)
    have hk0 : k < 1 := (List.getElem?_eq_some_iff.mp hq).1
    rw [show k = 0 by omega] at hq
    cases hq
    rw [hcA] at e1
    exact e1
  have k2 := kk p e s m args below meth c H1 locs (cells + 1) (slots + N) ls F hh (by omega) (by omega) hl
  rw [← dg.2] at k2
  exact k2
theorem gj_newR {N j : Nat} {z : Int} (dg : AtI y pc (.anewarray j) 3 nx) (hcl : Cond.classLink y.1.cls j "BishopsPeace$Sheet" ∈ lw_g) (hz : z = (N : Int)) (hN : Nat.ble N 4096 = true) (kk : Gj l x y d mc ms nf Q kc ks (n + 1) (upw w n (cR N (fun _ => none))) nx L (vR n :: S)) : Gj l x y d mc ms nf Q (kc + 1) (ks + N) n w pc L (vI z :: S) := by
  intro p e s m args below meth c H locs cells slots ls F X h1 h2 hl
  refine gj_sz (fun hz0 => ?_)
  have hN := Nat.le_of_ble_eq_true hN
  have hR : R32 z := by omega
  have hcl0 : (iZ z).toNatClampNeg = N := by rw [iZ_clamp hR]; omega
  have hsz : H.size = x.1 + n := X.size hz0
  have hAK := (X.1.2 2 (x.2.2.2.2, .object "BishopsPeace$Sheet") rfl).2
  obtain ⟨kA0, comp0, -, -, -, hfc⟩ := hAK
  refine W.anew F.1 F.2.1 F.2.2.2.2.1 (F.2.2.2.2.2.1 _ hcl) (va_AO.use X.2.2.2.2.2) rfl dg.1 (n := iZ z) rfl (fun h => absurd ((iZ_lt (b := 0) hR (by omega)).mp (by rw [iZ_0]; exact h)) (by omega)) (by rw [hcl0]; omega) (show cells + 1 ≤ mc by omega) (by rw [hcl0]; show slots + N ≤ ms; omega) (fun cA kA comp f1 f2 f3 f4 => ?_)
  have hcA : cA = x.2.2.2.2 := arr_same f1 hfc
  rw [hcl0]
  generalize hH1 : H.push ({ cls := cA, slots := Array.replicate N .null, vm := .none } : Cell) = H1
  have z1 : H1.size = H.size + 1 := by rw [← hH1, Array.size_push]
  have e1 : H1[H.size]? = some (arrV cA N (fun _ => .null)) := by rw [← hH1, Array.getElem?_push_size, ← arrV_new]
  have o1 : ∀ q : Nat, q < H.size → H1[q]? = H[q]? := fun q hq => by rw [← hH1, Array.getElem?_push, if_neg (Nat.ne_of_lt hq)]
  have hh : HX x (n + 1) (upw w n (cR N (fun _ => none))) s H1 locs (cells + 1) := by
    refine ⟨X.1, ?_, by have := X.2.2.1; omega, ⟨by have := X.2.2.2.1.1; omega, fun q g1 g2 => (o1 q (by have := X.2.2.2.1.1; omega)).trans (X.2.2.2.1.2.1 q g1 g2), X.2.2.2.1.2.2⟩, X.2.2.2.2⟩
    rw [← cw_push]
    refine (X.2.1.kept (fun k q hq => o1 q.1 ((X.2.1 k q hq).lt))).app (fun k q hq => ?_)
    have hk0 : k < 1 := (List.getElem?_eq_some_iff.mp hq).1
    rw [show k = 0 by omega] at hq
    cases hq
    rw [hcA, hsz] at e1
    exact e1
  have k2 := kk p e s m args below meth c H1 locs (cells + 1) (slots + N) ls F hh (by omega) (by omega) hl
  rw [← dg.2] at k2
  rw [hsz]
  exact k2
end GH
abbrev dfl0 : List AV := [vN]
theorem dfl0_ok : ∀ (b i : Nat), i < 1 → defaultValue (tyX0 i) = vp_V (dfl0.map (cv b)) i := by
  intro b i hi
  match i, hi with
  | 0, _ => rfl
  | k + 1, h => exact absurd h (by omega)
abbrev dfl1 : List AV := [vN, vI 0, vI 0, vI 0]
theorem dfl1_ok : ∀ (b i : Nat), i < 4 → defaultValue (tyX1 i) = vp_V (dfl1.map (cv b)) i := by
  intro b i hi
  match i, hi with
  | 0, _ => rfl
  | 1, _ => rfl
  | 2, _ => rfl
  | 3, _ => rfl
  | k + 4, h => exact absurd h (by omega)
abbrev dfl2 : List AV := [vN, vN, vN, vN, vI 0, vI 0, vI 0, vI 0, vI 0, vI 0]
theorem dfl2_ok : ∀ (b i : Nat), i < 10 → defaultValue (tyX2 i) = vp_V (dfl2.map (cv b)) i := by
  intro b i hi
  match i, hi with
  | 0, _ => rfl
  | 1, _ => rfl
  | 2, _ => rfl
  | 3, _ => rfl
  | 4, _ => rfl
  | 5, _ => rfl
  | 6, _ => rfl
  | 7, _ => rfl
  | 8, _ => rfl
  | 9, _ => rfl
  | k + 10, h => exact absurd h (by omega)
abbrev dfl3 : List AV := [vN, vN, vN, vN, vI 0]
theorem dfl3_ok : ∀ (b i : Nat), i < 5 → defaultValue (tyX3 i) = vp_V (dfl3.map (cv b)) i := by
  intro b i hi
  match i, hi with
  | 0, _ => rfl
  | 1, _ => rfl
  | 2, _ => rfl
  | 3, _ => rfl
  | 4, _ => rfl
  | k + 5, h => exact absurd h (by omega)
abbrev dfl4 : List AV := [vN, vN, vN, vN, vI 0]
theorem dfl4_ok : ∀ (b i : Nat), i < 5 → defaultValue (tyX4 i) = vp_V (dfl4.map (cv b)) i := by
  intro b i hi
  match i, hi with
  | 0, _ => rfl
  | 1, _ => rfl
  | 2, _ => rfl
  | 3, _ => rfl
  | 4, _ => rfl
  | k + 5, h => exact absurd h (by omega)
abbrev dfl5 : List AV := [vN, vN, vN, vI 0, vI 0, vI 0]
theorem dfl5_ok : ∀ (b i : Nat), i < 6 → defaultValue (tyX5 i) = vp_V (dfl5.map (cv b)) i := by
  intro b i hi
  match i, hi with
  | 0, _ => rfl
  | 1, _ => rfl
  | 2, _ => rfl
  | 3, _ => rfl
  | 4, _ => rfl
  | 5, _ => rfl
  | k + 6, h => exact absurd h (by omega)
abbrev dfl6 : List AV := [vN, vN, vN, vN, vN, vI 0, vI 0, vI 0]
theorem dfl6_ok : ∀ (b i : Nat), i < 8 → defaultValue (tyX6 i) = vp_V (dfl6.map (cv b)) i := by
  intro b i hi
  match i, hi with
  | 0, _ => rfl
  | 1, _ => rfl
  | 2, _ => rfl
  | 3, _ => rfl
  | 4, _ => rfl
  | 5, _ => rfl
  | 6, _ => rfl
  | 7, _ => rfl
  | k + 8, h => exact absurd h (by omega)
abbrev dfl7 : List AV := [vN, vI 0, vI 0, vI 0]
theorem dfl7_ok : ∀ (b i : Nat), i < 4 → defaultValue (tyX7 i) = vp_V (dfl7.map (cv b)) i := by
  intro b i hi
  match i, hi with
  | 0, _ => rfl
  | 1, _ => rfl
  | 2, _ => rfl
  | 3, _ => rfl
  | k + 4, h => exact absurd h (by omega)
abbrev dfl8 : List AV := [vN, vN, vN, vN, vN, vN, vN, vN, vI 0]
theorem dfl8_ok : ∀ (b i : Nat), i < 9 → defaultValue (tyX8 i) = vp_V (dfl8.map (cv b)) i := by
  intro b i hi
  match i, hi with
  | 0, _ => rfl
  | 1, _ => rfl
  | 2, _ => rfl
  | 3, _ => rfl
  | 4, _ => rfl
  | 5, _ => rfl
  | 6, _ => rfl
  | 7, _ => rfl
  | 8, _ => rfl
  | k + 9, h => exact absurd h (by omega)
abbrev dfl9 : List AV := [vN, vN, vN, vN, vI 0, vN, vI 0, vI 0, vI 0, vN, vN, vN, vI 0, vN, vI 0, vN, vN, vI 0, vN, vN, vN, vN, vI 0, vI 0, vI 0, vN, vI 0, vN, vI 0]
theorem dfl9_ok : ∀ (b i : Nat), i < 29 → defaultValue (tyX9 i) = vp_V (dfl9.map (cv b)) i := by
  intro b i hi
  match i, hi with
  | 0, _ => rfl
  | 1, _ => rfl
  | 2, _ => rfl
  | 3, _ => rfl
  | 4, _ => rfl
  | 5, _ => rfl
  | 6, _ => rfl
  | 7, _ => rfl
  | 8, _ => rfl
  | 9, _ => rfl
  | 10, _ => rfl
  | 11, _ => rfl
  | 12, _ => rfl
  | 13, _ => rfl
  | 14, _ => rfl
  | 15, _ => rfl
  | 16, _ => rfl
  | 17, _ => rfl
  | 18, _ => rfl
  | 19, _ => rfl
  | 20, _ => rfl
  | 21, _ => rfl
  | 22, _ => rfl
  | 23, _ => rfl
  | 24, _ => rfl
  | 25, _ => rfl
  | 26, _ => rfl
  | 27, _ => rfl
  | 28, _ => rfl
  | k + 29, h => exact absurd h (by omega)
