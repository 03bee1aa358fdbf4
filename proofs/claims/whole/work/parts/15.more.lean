/-! more rows of Gj: locals forgotten, longs compared, small switches; ends of readers -/
section GM
variable {l : Launch} {x : Cx} {y : MI} {d mc ms nf : Nat} {Q : QT} {kc ks n : Nat} {w : AW} {pc nx tg nx2 : Nat} {t L : List (Option AV)} {S : List AV}
theorem gj_dr0 {a0 : Option AV} (k : Gj l x y d mc ms nf Q kc ks n w pc (none :: t) S) : Gj l x y d mc ms nf Q kc ks n w pc (a0 :: t) S := gj_loc (fun i v h => by
  match i, h with
  | 0, h => exact absurd h (by simp [lk])
  | q + 1, h => exact h) k
theorem gj_dr1 {a0 a1 : Option AV} (k : Gj l x y d mc ms nf Q kc ks n w pc (a0 :: none :: t) S) : Gj l x y d mc ms nf Q kc ks n w pc (a0 :: a1 :: t) S := gj_loc (fun i v h => by
  match i, h with
  | 0, h => exact h
  | 1, h => exact absurd h (by simp [lk])
  | q + 2, h => exact h) k
theorem gj_dr2 {a0 a1 a2 : Option AV} (k : Gj l x y d mc ms nf Q kc ks n w pc (a0 :: a1 :: none :: t) S) : Gj l x y d mc ms nf Q kc ks n w pc (a0 :: a1 :: a2 :: t) S := gj_loc (fun i v h => by
  match i, h with
  | 0, h => exact h
  | 1, h => exact h
  | 2, h => exact absurd h (by simp [lk])
  | q + 3, h => exact h) k
theorem gj_dr3 {a0 a1 a2 a3 : Option AV} (k : Gj l x y d mc ms nf Q kc ks n w pc (a0 :: a1 :: a2 :: none :: t) S) : Gj l x y d mc ms nf Q kc ks n w pc (a0 :: a1 :: a2 :: a3 :: t) S := gj_loc (fun i v h => by
  match i, h with
  | 0, h => exact h
  | 1, h => exact h
  | 2, h => exact h
  | 3, h => exact absurd h (by simp [lk])
  | q + 4, h => exact h) k
theorem gj_dr4 {a0 a1 a2 a3 a4 : Option AV} (k : Gj l x y d mc ms nf Q kc ks n w pc (a0 :: a1 :: a2 :: a3 :: none :: t) S) : Gj l x y d mc ms nf Q kc ks n w pc (a0 :: a1 :: a2 :: a3 :: a4 :: t) S := gj_loc (fun i v h => by
  match i, h with
  | 0, h => exact h
  | 1, h => exact h
  | 2, h => exact h
  | 3, h => exact h
  | 4, h => exact absurd h (by simp [lk])
  | q + 5, h => exact h) k
theorem gj_dr5 {a0 a1 a2 a3 a4 a5 : Option AV} (k : Gj l x y d mc ms nf Q kc ks n w pc (a0 :: a1 :: a2 :: a3 :: a4 :: none :: t) S) : Gj l x y d mc ms nf Q kc ks n w pc (a0 :: a1 :: a2 :: a3 :: a4 :: a5 :: t) S := gj_loc (fun i v h => by
  match i, h with
  | 0, h => exact h
  | 1, h => exact h
  | 2, h => exact h
  | 3, h => exact h
  | 4, h => exact h
  | 5, h => exact absurd h (by simp [lk])
  | q + 6, h => exact h) k
theorem gj_dr6 {a0 a1 a2 a3 a4 a5 a6 : Option AV} (k : Gj l x y d mc ms nf Q kc ks n w pc (a0 :: a1 :: a2 :: a3 :: a4 :: a5 :: none :: t) S) : Gj l x y d mc ms nf Q kc ks n w pc (a0 :: a1 :: a2 :: a3 :: a4 :: a5 :: a6 :: t) S := gj_loc (fun i v h => by
  match i, h with
  | 0, h => exact h
  | 1, h => exact h
  | 2, h => exact h
  | 3, h => exact h
  | 4, h => exact h
  | 5, h => exact h
  | 6, h => exact absurd h (by simp [lk])
  | q + 7, h => exact h) k
theorem gj_dr7 {a0 a1 a2 a3 a4 a5 a6 a7 : Option AV} (k : Gj l x y d mc ms nf Q kc ks n w pc (a0 :: a1 :: a2 :: a3 :: a4 :: a5 :: a6 :: none :: t) S) : Gj l x y d mc ms nf Q kc ks n w pc (a0 :: a1 :: a2 :: a3 :: a4 :: a5 :: a6 :: a7 :: t) S := gj_loc (fun i v h => by
  match i, h with
  | 0, h => exact h
  | 1, h => exact h
  | 2, h => exact h
  | 3, h => exact h
  | 4, h => exact h
  | 5, h => exact h
  | 6, h => exact h
  | 7, h => exact absurd h (by simp [lk])
  | q + 8, h => exact h) k
theorem gj_dr8 {a0 a1 a2 a3 a4 a5 a6 a7 a8 : Option AV} (k : Gj l x y d mc ms nf Q kc ks n w pc (a0 :: a1 :: a2 :: a3 :: a4 :: a5 :: a6 :: a7 :: none :: t) S) : Gj l x y d mc ms nf Q kc ks n w pc (a0 :: a1 :: a2 :: a3 :: a4 :: a5 :: a6 :: a7 :: a8 :: t) S := gj_loc (fun i v h => by
  match i, h with
  | 0, h => exact h
  | 1, h => exact h
  | 2, h => exact h
  | 3, h => exact h
  | 4, h => exact h
  | 5, h => exact h
  | 6, h => exact h
  | 7, h => exact h
  | 8, h => exact absurd h (by simp [lk])
  | q + 9, h => exact h) k
theorem gj_dr9 {a0 a1 a2 a3 a4 a5 a6 a7 a8 a9 : Option AV} (k : Gj l x y d mc ms nf Q kc ks n w pc (a0 :: a1 :: a2 :: a3 :: a4 :: a5 :: a6 :: a7 :: a8 :: none :: t) S) : Gj l x y d mc ms nf Q kc ks n w pc (a0 :: a1 :: a2 :: a3 :: a4 :: a5 :: a6 :: a7 :: a8 :: a9 :: t) S := gj_loc (fun i v h => by
  match i, h with
  | 0, h => exact h
  | 1, h => exact h
  | 2, h => exact h
  | 3, h => exact h
  | 4, h => exact h
  | 5, h => exact h
  | 6, h => exact h
  | 7, h => exact h
  | 8, h => exact h
  | 9, h => exact absurd h (by simp [lk])
  | q + 10, h => exact h) k
theorem gj_dr10 {a0 a1 a2 a3 a4 a5 a6 a7 a8 a9 a10 : Option AV} (k : Gj l x y d mc ms nf Q kc ks n w pc (a0 :: a1 :: a2 :: a3 :: a4 :: a5 :: a6 :: a7 :: a8 :: a9 :: none :: t) S) : Gj l x y d mc ms nf Q kc ks n w pc (a0 :: a1 :: a2 :: a3 :: a4 :: a5 :: a6 :: a7 :: a8 :: a9 :: a10 :: t) S := gj_loc (fun i v h => by
  match i, h with
  | 0, h => exact h
  | 1, h => exact h
  | 2, h => exact h
  | 3, h => exact h
  | 4, h => exact h
  | 5, h => exact h
  | 6, h => exact h
  | 7, h => exact h
  | 8, h => exact h
  | 9, h => exact h
  | 10, h => exact absurd h (by simp [lk])
  | q + 11, h => exact h) k
theorem gj_dr11 {a0 a1 a2 a3 a4 a5 a6 a7 a8 a9 a10 a11 : Option AV} (k : Gj l x y d mc ms nf Q kc ks n w pc (a0 :: a1 :: a2 :: a3 :: a4 :: a5 :: a6 :: a7 :: a8 :: a9 :: a10 :: none :: t) S) : Gj l x y d mc ms nf Q kc ks n w pc (a0 :: a1 :: a2 :: a3 :: a4 :: a5 :: a6 :: a7 :: a8 :: a9 :: a10 :: a11 :: t) S := gj_loc (fun i v h => by
  match i, h with
  | 0, h => exact h
  | 1, h => exact h
  | 2, h => exact h
  | 3, h => exact h
  | 4, h => exact h
  | 5, h => exact h
  | 6, h => exact h
  | 7, h => exact h
  | 8, h => exact h
  | 9, h => exact h
  | 10, h => exact h
  | 11, h => exact absurd h (by simp [lk])
  | q + 12, h => exact h) k
theorem gj_dr12 {a0 a1 a2 a3 a4 a5 a6 a7 a8 a9 a10 a11 a12 : Option AV} (k : Gj l x y d mc ms nf Q kc ks n w pc (a0 :: a1 :: a2 :: a3 :: a4 :: a5 :: a6 :: a7 :: a8 :: a9 :: a10 :: a11 :: none :: t) S) : Gj l x y d mc ms nf Q kc ks n w pc (a0 :: a1 :: a2 :: a3 :: a4 :: a5 :: a6 :: a7 :: a8 :: a9 :: a10 :: a11 :: a12 :: t) S := gj_loc (fun i v h => by
  match i, h with
  | 0, h => exact h
  | 1, h => exact h
  | 2, h => exact h
  | 3, h => exact h
  | 4, h => exact h
  | 5, h => exact h
  | 6, h => exact h
  | 7, h => exact h
  | 8, h => exact h
  | 9, h => exact h
  | 10, h => exact h
  | 11, h => exact h
  | 12, h => exact absurd h (by simp [lk])
  | q + 13, h => exact h) k
theorem gj_lc_lt {a b off : Int} (dg : AtI y pc .lcmp 1 nx) (dh : AtJ y nx (.ifCond .lt off) off nx2 tg) (ha : R64 a) (hb : R64 b) (kt : a < b → Gj l x y d mc ms nf Q kc ks n w tg L S) (kf : ¬ (a < b) → Gj l x y d mc ms nf Q kc ks n w nx2 L S) : Gj l x y d mc ms nf Q kc ks n w pc L (vL b :: vL a :: S) := by
  have e : (cmpL a b < 0) ↔ (a < b) := by unfold cmpL; (repeat' split) <;> constructor <;> intro h <;> omega
  exact gj_lcmp dg ha hb (gj_if_lt dh (by unfold cmpL; (repeat' split) <;> omega) (fun h => kt (e.mp h)) (fun h => kf (fun q => h (e.mpr q))))
theorem gj_lc_gt {a b off : Int} (dg : AtI y pc .lcmp 1 nx) (dh : AtJ y nx (.ifCond .gt off) off nx2 tg) (ha : R64 a) (hb : R64 b) (kt : b < a → Gj l x y d mc ms nf Q kc ks n w tg L S) (kf : ¬ (b < a) → Gj l x y d mc ms nf Q kc ks n w nx2 L S) : Gj l x y d mc ms nf Q kc ks n w pc L (vL b :: vL a :: S) := by
  have e : (0 < cmpL a b) ↔ (b < a) := by unfold cmpL; (repeat' split) <;> constructor <;> intro h <;> omega
  exact gj_lcmp dg ha hb (gj_if_gt dh (by unfold cmpL; (repeat' split) <;> omega) (fun h => kt (e.mp h)) (fun h => kf (fun q => h (e.mpr q))))
theorem gj_lc_le {a b off : Int} (dg : AtI y pc .lcmp 1 nx) (dh : AtJ y nx (.ifCond .le off) off nx2 tg) (ha : R64 a) (hb : R64 b) (kt : a ≤ b → Gj l x y d mc ms nf Q kc ks n w tg L S) (kf : ¬ (a ≤ b) → Gj l x y d mc ms nf Q kc ks n w nx2 L S) : Gj l x y d mc ms nf Q kc ks n w pc L (vL b :: vL a :: S) := by
  have e : (cmpL a b ≤ 0) ↔ (a ≤ b) := by unfold cmpL; (repeat' split) <;> constructor <;> intro h <;> omega
  exact gj_lcmp dg ha hb (gj_if_le dh (by unfold cmpL; (repeat' split) <;> omega) (fun h => kt (e.mp h)) (fun h => kf (fun q => h (e.mpr q))))
theorem gj_lc_ge {a b off : Int} (dg : AtI y pc .lcmp 1 nx) (dh : AtJ y nx (.ifCond .ge off) off nx2 tg) (ha : R64 a) (hb : R64 b) (kt : b ≤ a → Gj l x y d mc ms nf Q kc ks n w tg L S) (kf : ¬ (b ≤ a) → Gj l x y d mc ms nf Q kc ks n w nx2 L S) : Gj l x y d mc ms nf Q kc ks n w pc L (vL b :: vL a :: S) := by
  have e : (0 ≤ cmpL a b) ↔ (b ≤ a) := by unfold cmpL; (repeat' split) <;> constructor <;> intro h <;> omega
  exact gj_lcmp dg ha hb (gj_if_ge dh (by unfold cmpL; (repeat' split) <;> omega) (fun h => kt (e.mp h)) (fun h => kf (fun q => h (e.mpr q))))
theorem gj_tsw3 {z dflt o0 o1 o2 : Int} {t0 t1 t2 td len : Nat} (dg : decode y.2.1 pc = .ok (.tableswitch dflt 0 2 #[o0, o1, o2], len)) (hr : R32 z) (h0 : (pc : Int) + o0 = (t0 : Int)) (h1 : (pc : Int) + o1 = (t1 : Int)) (h2 : (pc : Int) + o2 = (t2 : Int)) (hd : (pc : Int) + dflt = (td : Int)) (k0 : z = 0 → Gj l x y d mc ms nf Q kc ks n w t0 L S) (k1 : z = 1 → Gj l x y d mc ms nf Q kc ks n w t1 L S) (k2 : z = 2 → Gj l x y d mc ms nf Q kc ks n w t2 L S) (kd : z < 0 ∨ 2 < z → Gj l x y d mc ms nf Q kc ks n w td L S) : Gj l x y d mc ms nf Q kc ks n w pc L (vI z :: S) := by
  by_cases c0 : z = 0
  · exact gj_tswI dg 0 hr (by omega) (by omega) rfl h0 (k0 c0)
  by_cases c1 : z = 1
  · exact gj_tswI dg 1 hr (by omega) (by omega) rfl h1 (k1 c1)
  by_cases c2 : z = 2
  · exact gj_tswI dg 2 hr (by omega) (by omega) rfl h2 (k2 c2)
  exact gj_tswO dg hr (by omega) hd (kd (by omega))
theorem gj_tsw9 {z dflt o0 o1 o2 o3 o4 o5 o6 o7 o8 : Int} {t0 t1 t2 t3 t4 t5 t6 t7 t8 td len : Nat} (dg : decode y.2.1 pc = .ok (.tableswitch dflt 0 8 #[o0, o1, o2, o3, o4, o5, o6, o7, o8], len)) (hr : R32 z) (h0 : (pc : Int) + o0 = (t0 : Int)) (h1 : (pc : Int) + o1 = (t1 : Int)) (h2 : (pc : Int) + o2 = (t2 : Int)) (h3 : (pc : Int) + o3 = (t3 : Int)) (h4 : (pc : Int) + o4 = (t4 : Int)) (h5 : (pc : Int) + o5 = (t5 : Int)) (h6 : (pc : Int) + o6 = (t6 : Int)) (h7 : (pc : Int) + o7 = (t7 : Int)) (h8 : (pc : Int) + o8 = (t8 : Int)) (hd : (pc : Int) + dflt = (td : Int)) (k0 : z = 0 → Gj l x y d mc ms nf Q kc ks n w t0 L S) (k1 : z = 1 → Gj l x y d mc ms nf Q kc ks n w t1 L S) (k2 : z = 2 → Gj l x y d mc ms nf Q kc ks n w t2 L S) (k3 : z = 3 → Gj l x y d mc ms nf Q kc ks n w t3 L S) (k4 : z = 4 → Gj l x y d mc ms nf Q kc ks n w t4 L S) (k5 : z = 5 → Gj l x y d mc ms nf Q kc ks n w t5 L S) (k6 : z = 6 → Gj l x y d mc ms nf Q kc ks n w t6 L S) (k7 : z = 7 → Gj l x y d mc ms nf Q kc ks n w t7 L S) (k8 : z = 8 → Gj l x y d mc ms nf Q kc ks n w t8 L S) (kd : z < 0 ∨ 8 < z → Gj l x y d mc ms nf Q kc ks n w td L S) : Gj l x y d mc ms nf Q kc ks n w pc L (vI z :: S) := by
  by_cases c0 : z = 0
  · exact gj_tswI dg 0 hr (by omega) (by omega) rfl h0 (k0 c0)
  by_cases c1 : z = 1
  · exact gj_tswI dg 1 hr (by omega) (by omega) rfl h1 (k1 c1)
  by_cases c2 : z = 2
  · exact gj_tswI dg 2 hr (by omega) (by omega) rfl h2 (k2 c2)
  by_cases c3 : z = 3
  · exact gj_tswI dg 3 hr (by omega) (by omega) rfl h3 (k3 c3)
  by_cases c4 : z = 4
  · exact gj_tswI dg 4 hr (by omega) (by omega) rfl h4 (k4 c4)
  by_cases c5 : z = 5
  · exact gj_tswI dg 5 hr (by omega) (by omega) rfl h5 (k5 c5)
  by_cases c6 : z = 6
  · exact gj_tswI dg 6 hr (by omega) (by omega) rfl h6 (k6 c6)
  by_cases c7 : z = 7
  · exact gj_tswI dg 7 hr (by omega) (by omega) rfl h7 (k7 c7)
  by_cases c8 : z = 8
  · exact gj_tswI dg 8 hr (by omega) (by omega) rfl h8 (k8 c8)
  exact gj_tswO dg hr (by omega) hd (kd (by omega))
theorem rd_i {a b : Int} (h : a = b) : Rd (vI b) w (some (vI a)) w := ⟨by rw [h], rfl⟩
theorem rd_l {a b : Int} (h : a = b) : Rd (vL b) w (some (vL a)) w := ⟨by rw [h], rfl⟩
theorem wr_i {a b : Int} {P : AW → Prop} (h : a = b) (hp : P w) : Wr (vI b) P (some (vI a)) w := ⟨by rw [h], hp⟩
theorem wr_l {a b : Int} {P : AW → Prop} (h : a = b) (hp : P w) : Wr (vL b) P (some (vL a)) w := ⟨by rw [h], hp⟩
theorem wv_v {P : AW → Prop} (hp : P w) : Wv P none w := ⟨rfl, hp⟩
theorem Mt.weak {As : List AV} {Q2 : QT} (h : Mt l x y d mc ms n w As Q) (hq : ∀ v w2, Q v w2 → Q2 v w2) : Mt l x y d mc ms n w As Q2 := by
  intro p e ha hc hk s m args below hf happ hP hK
  obtain ⟨k, o, h1, h2, h3, ⟨⟨v, w2, e1, e2, e3, e4⟩, hF⟩, h5⟩ := h p e ha hc hk s m args below hf happ hP hK
  exact ⟨k, o, h1, h2, h3, ⟨⟨v, w2, e1, hq v w2 e2, e3, e4⟩, hF⟩, h5⟩
end GM
