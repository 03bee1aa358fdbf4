/-! rows of Gj: calls whose answer and world are told by cases; worlds -/
section GX
variable {l : Launch} {x : Cx} {y : MI} {d mc ms nf : Nat} {Q : QT} {kc ks n : Nat} {w : AW} {pc nx tg : Nat} {t : List (Option AV)} {S : List AV}
theorem gj_cV0x {L : List (Option AV)} {j ci k0 : Nat} {y2 : MI} {fs : List AV} {Q2 : QT} (dg : AtI y pc (.invokevirtual j) 3 nx) (hl : Cond.methodLink y.1.cls j y2.1 ∈ lw_g) (hc : CV y2 0 ci) (hw : w k0 = cO ci fs) (hk : Nat.blt k0 n = true) (hd : 1 ≤ d) (hst : Nat.ble (wS S) 8 = true) (hM : Mt l x y2 (d - 1) 0 0 n w (vR k0 :: []) Q2) (kk : ∀ v w2, Q2 v w2 → Gj l x y d mc ms nf Q kc ks n w2 nx L (v.toList ++ S)) : Gj l x y d mc ms nf Q kc ks n w pc L (vR k0 :: S) := gj_callV (As := []) (mc2 := 0) (ms2 := 0) dg hl hc hw hk hd hst rfl hM kk
theorem gj_cS0x {L : List (Option AV)} {j : Nat} {y2 : MI} {Q2 : QT} (dg : AtI y pc (.invokestatic j) 3 nx) (hl : Cond.methodLink y.1.cls j y2.1 ∈ lw_g) (hc : CS y2 0) (hd : 1 ≤ d) (hst : Nat.ble (wS S) 8 = true) (hM : Mt l x y2 (d - 1) 0 0 n w [] Q2) (kk : ∀ v w2, Q2 v w2 → Gj l x y d mc ms nf Q kc ks n w2 nx L (v.toList ++ S)) : Gj l x y d mc ms nf Q kc ks n w pc L S := gj_callS (mc2 := 0) (ms2 := 0) (As := []) dg hl hc hd hst rfl hM kk
theorem gj_cV1x {a1 : AV} {L : List (Option AV)} {j ci k0 : Nat} {y2 : MI} {fs : List AV} {Q2 : QT} (dg : AtI y pc (.invokevirtual j) 3 nx) (hl : Cond.methodLink y.1.cls j y2.1 ∈ lw_g) (hc : CV y2 1 ci) (hw : w k0 = cO ci fs) (hk : Nat.blt k0 n = true) (hd : 1 ≤ d) (hst : Nat.ble (wS S) 8 = true) (hM : Mt l x y2 (d - 1) 0 0 n w (vR k0 :: [a1]) Q2) (kk : ∀ v w2, Q2 v w2 → Gj l x y d mc ms nf Q kc ks n w2 nx L (v.toList ++ S)) : Gj l x y d mc ms nf Q kc ks n w pc L (a1 :: vR k0 :: S) := gj_callV (As := [a1]) (mc2 := 0) (ms2 := 0) dg hl hc hw hk hd hst rfl hM kk
theorem gj_cS1x {a1 : AV} {L : List (Option AV)} {j : Nat} {y2 : MI} {Q2 : QT} (dg : AtI y pc (.invokestatic j) 3 nx) (hl : Cond.methodLink y.1.cls j y2.1 ∈ lw_g) (hc : CS y2 1) (hd : 1 ≤ d) (hst : Nat.ble (wS S) 8 = true) (hM : Mt l x y2 (d - 1) 0 0 n w [a1] Q2) (kk : ∀ v w2, Q2 v w2 → Gj l x y d mc ms nf Q kc ks n w2 nx L (v.toList ++ S)) : Gj l x y d mc ms nf Q kc ks n w pc L (a1 :: S) := gj_callS (mc2 := 0) (ms2 := 0) (As := [a1]) dg hl hc hd hst rfl hM kk
theorem gj_cV2x {a1 a2 : AV} {L : List (Option AV)} {j ci k0 : Nat} {y2 : MI} {fs : List AV} {Q2 : QT} (dg : AtI y pc (.invokevirtual j) 3 nx) (hl : Cond.methodLink y.1.cls j y2.1 ∈ lw_g) (hc : CV y2 2 ci) (hw : w k0 = cO ci fs) (hk : Nat.blt k0 n = true) (hd : 1 ≤ d) (hst : Nat.ble (wS S) 8 = true) (hM : Mt l x y2 (d - 1) 0 0 n w (vR k0 :: [a1, a2]) Q2) (kk : ∀ v w2, Q2 v w2 → Gj l x y d mc ms nf Q kc ks n w2 nx L (v.toList ++ S)) : Gj l x y d mc ms nf Q kc ks n w pc L (a2 :: a1 :: vR k0 :: S) := gj_callV (As := [a1, a2]) (mc2 := 0) (ms2 := 0) dg hl hc hw hk hd hst rfl hM kk
theorem gj_cS2x {a1 a2 : AV} {L : List (Option AV)} {j : Nat} {y2 : MI} {Q2 : QT} (dg : AtI y pc (.invokestatic j) 3 nx) (hl : Cond.methodLink y.1.cls j y2.1 ∈ lw_g) (hc : CS y2 2) (hd : 1 ≤ d) (hst : Nat.ble (wS S) 8 = true) (hM : Mt l x y2 (d - 1) 0 0 n w [a1, a2] Q2) (kk : ∀ v w2, Q2 v w2 → Gj l x y d mc ms nf Q kc ks n w2 nx L (v.toList ++ S)) : Gj l x y d mc ms nf Q kc ks n w pc L (a2 :: a1 :: S) := gj_callS (mc2 := 0) (ms2 := 0) (As := [a1, a2]) dg hl hc hd hst rfl hM kk
theorem gj_cV3x {a1 a2 a3 : AV} {L : List (Option AV)} {j ci k0 : Nat} {y2 : MI} {fs : List AV} {Q2 : QT} (dg : AtI y pc (.invokevirtual j) 3 nx) (hl : Cond.methodLink y.1.cls j y2.1 ∈ lw_g) (hc : CV y2 3 ci) (hw : w k0 = cO ci fs) (hk : Nat.blt k0 n = true) (hd : 1 ≤ d) (hst : Nat.ble (wS S) 8 = true) (hM : Mt l x y2 (d - 1) 0 0 n w (vR k0 :: [a1, a2, a3]) Q2) (kk : ∀ v w2, Q2 v w2 → Gj l x y d mc ms nf Q kc ks n w2 nx L (v.toList ++ S)) : Gj l x y d mc ms nf Q kc ks n w pc L (a3 :: a2 :: a1 :: vR k0 :: S) := gj_callV (As := [a1, a2, a3]) (mc2 := 0) (ms2 := 0) dg hl hc hw hk hd hst rfl hM kk
theorem gj_cS3x {a1 a2 a3 : AV} {L : List (Option AV)} {j : Nat} {y2 : MI} {Q2 : QT} (dg : AtI y pc (.invokestatic j) 3 nx) (hl : Cond.methodLink y.1.cls j y2.1 ∈ lw_g) (hc : CS y2 3) (hd : 1 ≤ d) (hst : Nat.ble (wS S) 8 = true) (hM : Mt l x y2 (d - 1) 0 0 n w [a1, a2, a3] Q2) (kk : ∀ v w2, Q2 v w2 → Gj l x y d mc ms nf Q kc ks n w2 nx L (v.toList ++ S)) : Gj l x y d mc ms nf Q kc ks n w pc L (a3 :: a2 :: a1 :: S) := gj_callS (mc2 := 0) (ms2 := 0) (As := [a1, a2, a3]) dg hl hc hd hst rfl hM kk
theorem gj_cV4x {a1 a2 a3 a4 : AV} {L : List (Option AV)} {j ci k0 : Nat} {y2 : MI} {fs : List AV} {Q2 : QT} (dg : AtI y pc (.invokevirtual j) 3 nx) (hl : Cond.methodLink y.1.cls j y2.1 ∈ lw_g) (hc : CV y2 4 ci) (hw : w k0 = cO ci fs) (hk : Nat.blt k0 n = true) (hd : 1 ≤ d) (hst : Nat.ble (wS S) 8 = true) (hM : Mt l x y2 (d - 1) 0 0 n w (vR k0 :: [a1, a2, a3, a4]) Q2) (kk : ∀ v w2, Q2 v w2 → Gj l x y d mc ms nf Q kc ks n w2 nx L (v.toList ++ S)) : Gj l x y d mc ms nf Q kc ks n w pc L (a4 :: a3 :: a2 :: a1 :: vR k0 :: S) := gj_callV (As := [a1, a2, a3, a4]) (mc2 := 0) (ms2 := 0) dg hl hc hw hk hd hst rfl hM kk
theorem gj_cS4x {a1 a2 a3 a4 : AV} {L : List (Option AV)} {j : Nat} {y2 : MI} {Q2 : QT} (dg : AtI y pc (.invokestatic j) 3 nx) (hl : Cond.methodLink y.1.cls j y2.1 ∈ lw_g) (hc : CS y2 4) (hd : 1 ≤ d) (hst : Nat.ble (wS S) 8 = true) (hM : Mt l x y2 (d - 1) 0 0 n w [a1, a2, a3, a4] Q2) (kk : ∀ v w2, Q2 v w2 → Gj l x y d mc ms nf Q kc ks n w2 nx L (v.toList ++ S)) : Gj l x y d mc ms nf Q kc ks n w pc L (a4 :: a3 :: a2 :: a1 :: S) := gj_callS (mc2 := 0) (ms2 := 0) (As := [a1, a2, a3, a4]) dg hl hc hd hst rfl hM kk
theorem gj_cV5x {a1 a2 a3 a4 a5 : AV} {L : List (Option AV)} {j ci k0 : Nat} {y2 : MI} {fs : List AV} {Q2 : QT} (dg : AtI y pc (.invokevirtual j) 3 nx) (hl : Cond.methodLink y.1.cls j y2.1 ∈ lw_g) (hc : CV y2 5 ci) (hw : w k0 = cO ci fs) (hk : Nat.blt k0 n = true) (hd : 1 ≤ d) (hst : Nat.ble (wS S) 8 = true) (hM : Mt l x y2 (d - 1) 0 0 n w (vR k0 :: [a1, a2, a3, a4, a5]) Q2) (kk : ∀ v w2, Q2 v w2 → Gj l x y d mc ms nf Q kc ks n w2 nx L (v.toList ++ S)) : Gj l x y d mc ms nf Q kc ks n w pc L (a5 :: a4 :: a3 :: a2 :: a1 :: vR k0 :: S) := gj_callV (As := [a1, a2, a3, a4, a5]) (mc2 := 0) (ms2 := 0) dg hl hc hw hk hd hst rfl hM kk
theorem gj_cS5x {a1 a2 a3 a4 a5 : AV} {L : List (Option AV)} {j : Nat} {y2 : MI} {Q2 : QT} (dg : AtI y pc (.invokestatic j) 3 nx) (hl : Cond.methodLink y.1.cls j y2.1 ∈ lw_g) (hc : CS y2 5) (hd : 1 ≤ d) (hst : Nat.ble (wS S) 8 = true) (hM : Mt l x y2 (d - 1) 0 0 n w [a1, a2, a3, a4, a5] Q2) (kk : ∀ v w2, Q2 v w2 → Gj l x y d mc ms nf Q kc ks n w2 nx L (v.toList ++ S)) : Gj l x y d mc ms nf Q kc ks n w pc L (a5 :: a4 :: a3 :: a2 :: a1 :: S) := gj_callS (mc2 := 0) (ms2 := 0) (As := [a1, a2, a3, a4, a5]) dg hl hc hd hst rfl hM kk
end GX
theorem upw_upw (w : AW) (k : Nat) (a b : AC) : upw (upw w k a) k b = upw w k b := by
  funext j
  unfold upw
  by_cases h : j = k <;> simp [h]
theorem upw_comm (w : AW) {j k : Nat} (a b : AC) (h : j ≠ k) : upw (upw w j a) k b = upw (upw w k b) j a := by
  funext i
  unfold upw
  by_cases h1 : i = k
  · subst h1
    simp [Ne.symm h]
  · by_cases h2 : i = j <;> simp [h1, h2, h]
theorem upw_same {w : AW} {k : Nat} {c : AC} (h : w k = c) : upw w k c = w := by
  funext j
  unfold upw
  by_cases h1 : j = k
  · subst h1; simp [h]
  · simp [h1]
theorem upf_s (f : Int → Int) (i v : Int) : upf f i v i = v := by simp [upf]
theorem upf_o (f : Int → Int) {i j : Int} (v : Int) (h : j ≠ i) : upf f i v j = f j := by simp [upf, h]
theorem upf_upf (f : Int → Int) (i a b : Int) : upf (upf f i a) i b = upf f i b := by
  funext j
  unfold upf
  by_cases h : j = i <;> simp [h]
