/-! CONTRACTS of methods (printed by wip/gen/emit.py). -/
/- MixStageModel.stampOf (I)I -/
noncomputable def s_286 : vM := ([(3, 12, 285, 0), (0, 0, 19, 0)], (0, -2147483648, 2147483647, 0), 1, 0, [])
def preb_286 (a0 a1 : Int) (h : gH) : Prop := a1 < hV h 285 64 ∧ SO h
def pre_286 : List Int → gH → Prop := fun xs h => match xs with
  | [a0, a1] => preb_286 a0 a1 h
  | _ => False
def postb_286 (r a0 a1 : Int) (h0 h : gH) : Prop := ∃ j : Nat, STq (hV h 285 64) (NXp (hV h 328) (hV h 332) (hV h 335) (hV h 296) (hV h 298) (hV h 300)) (hV h 333) (a1).toNat j r
def post_286 : List Int → gH → gH → Prop := fun xs h0 h => match xs with
  | [r, a0, a1] => postb_286 r a0 a1 h0 h
  | _ => True
noncomputable def e_286 : vE := (286, s_286, pre_286, post_286)
noncomputable def L_286 : List vE := []
def cs_286 : List vC := [(9, [(0, (3, 12, 285, 0)), (1, (0, 0, 19, 0)), (2, (0, 0, 2147483647, 0)), (3, (0, 0, 19, 0))])]
def Ab_286_9 (a0 a1 x0 x1 x2 x3 : Int) (h0 h : gH) : Prop := x1 = a1 ∧ x3 < hV h 285 64 ∧ STq (hV h 285 64) (NXp (hV h 328) (hV h 332) (hV h 335) (hV h 296) (hV h 298) (hV h 300)) (hV h 333) (a1).toNat (x3).toNat x2
def mub_286_9 (a0 a1 x0 x1 x2 x3 : Int) (h0 h : gH) : Nat := (x3).toNat
def A_286 : Int → List Int → gH → gH → Prop := fun c xs h0 h => match c.toNat with
  | 9 => (match xs with
    | [a0, a1, x0, x1, x2, x3] => Ab_286_9 a0 a1 x0 x1 x2 x3 h0 h
    | _ => False)
  | _ => True
def mu_286 : Int → List Int → gH → gH → Nat := fun c xs h0 h => match c.toNat with
  | 9 => (match xs with
    | [a0, a1, x0, x1, x2, x3] => mub_286_9 a0 a1 x0 x1 x2 x3 h0 h
    | _ => 0)
  | _ => 0
theorem q_286_0 {n0 n1 n2 n3 : Int} {H0 : gH} (f0 : n0 ≤ 19) (f1 : 0 ≤ n0) (f2 : n1 = 285) (f3 : hWt T0 H0 ∧ preb_286 n1 n0 H0) (f4 : n2 = 333) (f5 : n2 = hV H0 (n1).toNat 71) (f6 : n3 ≤ 2147483647) (f7 : 0 ≤ n3) (f8 : n3 = hV H0 (n2).toNat (n0).toNat) : Ab_286_9 n1 n0 n1 n0 n3 n0 H0 H0 ∧ ∀ q, none = some q → mub_286_9 n1 n0 n1 n0 n3 n0 H0 H0 < q := by
  unfold preb_286 at f3
  unfold Ab_286_9
  have e0 : n3 = hV H0 333 (n0).toNat := (by rw [f4] at f8; exact f8 : n3 = hV H0 333 (n0).toNat)
  have e1 : (0 : Int) ≤ hV H0 285 64 ∧ hV H0 285 64 ≤ 20 := f3.1 285 64 _ _ kW_285_64
  have p0 := f3.2.1
  have p1 := f3.2.2
  clear f5 f8
  clear f3
  subst e0

  refine ⟨?_, fun q hq => ?_⟩
  · exact ⟨by first | omega | trivial, by omega, ST_first (by omega)⟩
  · exact nomatch hq
def g_286_s_0 : vG := ([(22, [3, 2, 1], [0], 0), (90, [3], [], 0), (91, [3], [], 2147483647), (20, [2, 0], [0], 71), (0, [2], [], 333), (6000, [0, 1], [0], 0), (0, [0], [], 285), (90, [1], [], 0), (91, [1], [], 19)], (4000, [0, 1, 3, 1], [0], 9))
theorem c_286_s_0 : vOkm T0 (eP e_286 L_286 A_286 mu_286 none) 2 g_286_s_0 := vOk_inI fun ρ η f0 f1 f2 f3 f4 f5 f6 f7 f8 => q_286_0 (n0 := ρ 1) (n1 := ρ 0) (n2 := ρ 2) (n3 := ρ 3) (H0 := η 0) f8 f7 f6 f5 f4 f3 f2 f1 f0
def p_286_s : List vG := [g_286_s_0]
theorem r_286_s : vCovO false (eR0 e_286 L_286 cs_286 2000) p_286_s = true := by decide +kernel
theorem kR_286_328 : vFreeR s_286.2.2.2.2 328 = true := by decide +kernel
theorem kR_286_332 : vFreeR s_286.2.2.2.2 332 = true := by decide +kernel
theorem kR_286_296 : vFreeR s_286.2.2.2.2 296 = true := by decide +kernel
theorem kR_286_298 : vFreeR s_286.2.2.2.2 298 = true := by decide +kernel
theorem kR_286_300 : vFreeR s_286.2.2.2.2 300 = true := by decide +kernel
theorem kR_286_333 : vFreeR s_286.2.2.2.2 333 = true := by decide +kernel
theorem kR_286_335 : vFreeR s_286.2.2.2.2 335 = true := by decide +kernel
theorem kF_286_285_64 : vFree s_286.2.2.2.2 285 64 = true := by decide +kernel
theorem q_286_1 {q0 : Nat} {n0 n1 n2 n3 n4 n5 n6 n7 n8 n9 n10 : Int} {H0 H1 : gH} (f0 : n0 ≤ 19) (f1 : 0 ≤ n0) (f2 : n1 ≤ 2147483647) (f3 : 0 ≤ n1) (f4 : n2 ≤ 19) (f5 : 0 ≤ n2) (f6 : n3 = 285) (f7 : n4 ≤ 19) (f8 : 0 ≤ n4) (f9 : n5 = 285) (f10 : (hLe T0 H0 H1 ∧ hFr s_286.2.2.2.2 H0 H1 ∧ hWt T0 H1) ∧ (Ab_286_9 n5 n4 n3 n2 n1 n0 H0 H1 ∧ preb_286 n5 n4 H0) ∧ some q0 = some (mub_286_9 n5 n4 n3 n2 n1 n0 H0 H1)) (f11 : n6 = 328) (f12 : n6 = hV H1 (n3).toNat 66) (f13 : n7 ≤ 6) (f14 : 0 ≤ n7) (f15 : n7 = hV H1 (n6).toNat (n0).toNat) (f16 : n8 = 4) (f17 : n7 = n8) (f18 : n9 = 332) (f19 : n9 = hV H1 (n3).toNat 70) (f20 : n10 ≤ 19) (f21 : (-1) ≤ n10) (f22 : n10 = hV H1 (n9).toNat (n0).toNat) : 0 ≤ n10 ∧ n10 < 20 := by
  have g4 := f10.2.1.1
  unfold Ab_286_9 at g4
  have g3 := f10.2.1.2
  unfold preb_286 at g3
  have e0 : hV H1 328 = hV H0 328 := fRow f10.1.2.1 328 kR_286_328
  have e1 : n7 = hV H0 328 (n0).toNat := (by rw [f11] at f15; exact f15 : n7 = hV H1 328 (n0).toNat).trans ((congrFun e0 _))
  have e2 : hV H1 332 = hV H0 332 := fRow f10.1.2.1 332 kR_286_332
  have e3 : n10 = hV H0 332 (n0).toNat := (by rw [f18] at f22; exact f22 : n10 = hV H1 332 (n0).toNat).trans ((congrFun e2 _))
  have e5 : hV H1 285 64 = hV H0 285 64 := (f10.1.2.1.1 285 64 kF_286_285_64)
  have e6 : hV H1 296 = hV H0 296 := fRow f10.1.2.1 296 kR_286_296
  have e7 : hV H1 298 = hV H0 298 := fRow f10.1.2.1 298 kR_286_298
  have e8 : hV H1 300 = hV H0 300 := fRow f10.1.2.1 300 kR_286_300
  have e9 : hV H1 333 = hV H0 333 := fRow f10.1.2.1 333 kR_286_333
  have e10 : hV H1 335 = hV H0 335 := fRow f10.1.2.1 335 kR_286_335
  have e11 : (0 : Int) ≤ hV H0 285 64 ∧ hV H0 285 64 ≤ 20 := bTo e5 (f10.1.2.2 285 64 _ _ kW_285_64)
  have k0 := g4.1
  have y0 := g4.2.1
  have y1 := g4.2.2
  have p0 := g3.1
  have p1 := g3.2
  try simp only [e5] at y0
  try simp only [e5, e6, e7, e8, e0, e2, e9, e10] at y1
  clear g3
  clear g4
  clear f12 f15 f19 f22 e0 e2 e5 e6 e7 e8 e9 e10
  clear f10
  subst e1
  subst e3
  try have t4 := SO4 p1 (s := (n0).toNat) (by omega) (by omega)
  try have t5 := SO5 p1 (s := (n0).toNat) (by omega) (by omega)
  try subst k0
  omega
def g_286_9_0 : vG := ([(22, [10, 9, 5], [1], 0), (90, [10], [], -1), (91, [10], [], 19), (20, [9, 2], [1], 70), (0, [9], [], 332), (40, [7, 8], [], 0), (0, [8], [], 4), (22, [7, 6, 5], [1], 0), (90, [7], [], 0), (91, [7], [], 6), (20, [6, 2], [1], 66), (0, [6], [], 328), (5000, [0, 1, 2, 3, 4, 5], [0, 1], 9), (0, [0], [], 285), (90, [1], [], 0), (91, [1], [], 19), (0, [2], [], 285), (90, [3], [], 0), (91, [3], [], 19), (90, [4], [], 0), (91, [4], [], 2147483647), (90, [5], [], 0), (91, [5], [], 19)], (70, [10], [], 20))
theorem c_286_9_0 {q0 : Nat} : vOkm T0 (eP e_286 L_286 A_286 mu_286 (some q0)) 2 g_286_9_0 := vOk_inI fun ρ η f0 f1 f2 f3 f4 f5 f6 f7 f8 f9 f10 f11 f12 f13 f14 f15 f16 f17 f18 f19 f20 f21 f22 => q_286_1 (q0 := q0) (n0 := ρ 5) (n1 := ρ 4) (n2 := ρ 3) (n3 := ρ 2) (n4 := ρ 1) (n5 := ρ 0) (n6 := ρ 6) (n7 := ρ 7) (n8 := ρ 8) (n9 := ρ 9) (n10 := ρ 10) (H0 := η 0) (H1 := η 1) f22 f21 f20 f19 f18 f17 f16 f15 f14 f13 f12 f11 f10 f9 f8 f7 f6 f5 f4 f3 f2 f1 f0
theorem q_286_2 {q0 : Nat} {n0 n1 n2 n3 n4 n5 n6 n7 n8 n9 n10 n11 n12 : Int} {H0 H1 : gH} (f0 : n0 ≤ 19) (f1 : 0 ≤ n0) (f2 : n1 ≤ 2147483647) (f3 : 0 ≤ n1) (f4 : n2 ≤ 19) (f5 : 0 ≤ n2) (f6 : n3 = 285) (f7 : n4 ≤ 19) (f8 : 0 ≤ n4) (f9 : n5 = 285) (f10 : (hLe T0 H0 H1 ∧ hFr s_286.2.2.2.2 H0 H1 ∧ hWt T0 H1) ∧ (Ab_286_9 n5 n4 n3 n2 n1 n0 H0 H1 ∧ preb_286 n5 n4 H0) ∧ some q0 = some (mub_286_9 n5 n4 n3 n2 n1 n0 H0 H1)) (f11 : n6 = 328) (f12 : n6 = hV H1 (n3).toNat 66) (f13 : n7 ≤ 6) (f14 : 0 ≤ n7) (f15 : n7 = hV H1 (n6).toNat (n0).toNat) (f16 : n8 = 4) (f17 : n7 = n8) (f18 : n9 = 332) (f19 : n9 = hV H1 (n3).toNat 70) (f20 : n10 ≤ 19) (f21 : (-1) ≤ n10) (f22 : n10 = hV H1 (n9).toNat (n0).toNat) (f23 : n11 = 333) (f24 : n11 = hV H1 (n3).toNat 71) (f25 : n12 ≤ 2147483647) (f26 : 0 ≤ n12) (f27 : n12 = hV H1 (n11).toNat (n10).toNat) (f28 : n12 ≤ n1) : 0 ≤ n10 := by
  have g4 := f10.2.1.1
  unfold Ab_286_9 at g4
  have g3 := f10.2.1.2
  unfold preb_286 at g3
  have e0 : hV H1 328 = hV H0 328 := fRow f10.1.2.1 328 kR_286_328
  have e1 : n7 = hV H0 328 (n0).toNat := (by rw [f11] at f15; exact f15 : n7 = hV H1 328 (n0).toNat).trans ((congrFun e0 _))
  have e2 : hV H1 332 = hV H0 332 := fRow f10.1.2.1 332 kR_286_332
  have e3 : n10 = hV H0 332 (n0).toNat := (by rw [f18] at f22; exact f22 : n10 = hV H1 332 (n0).toNat).trans ((congrFun e2 _))
  have e4 : hV H1 333 = hV H0 333 := fRow f10.1.2.1 333 kR_286_333
  have e5 : n12 = hV H0 333 (n10).toNat := (by rw [f23] at f27; exact f27 : n12 = hV H1 333 (n10).toNat).trans ((congrFun e4 _))
  have e7 : hV H1 285 64 = hV H0 285 64 := (f10.1.2.1.1 285 64 kF_286_285_64)
  have e8 : hV H1 296 = hV H0 296 := fRow f10.1.2.1 296 kR_286_296
  have e9 : hV H1 298 = hV H0 298 := fRow f10.1.2.1 298 kR_286_298
  have e10 : hV H1 300 = hV H0 300 := fRow f10.1.2.1 300 kR_286_300
  have e11 : hV H1 335 = hV H0 335 := fRow f10.1.2.1 335 kR_286_335
  have e12 : (0 : Int) ≤ hV H0 285 64 ∧ hV H0 285 64 ≤ 20 := bTo e7 (f10.1.2.2 285 64 _ _ kW_285_64)
  have k0 := g4.1
  have y0 := g4.2.1
  have y1 := g4.2.2
  have p0 := g3.1
  have p1 := g3.2
  try simp only [e7] at y0
  try simp only [e7, e8, e9, e10, e0, e2, e4, e11] at y1
  clear g3
  clear g4
  clear f12 f15 f19 f22 f24 f27 e0 e2 e4 e7 e8 e9 e10 e11
  clear f10
  subst e1
  subst e3
  subst e5
  try have t4 := SO4 p1 (s := (n0).toNat) (by omega) (by omega)
  try have t5 := SO5 p1 (s := (n0).toNat) (by omega) (by omega)
  try subst k0
  omega
def g_286_9_1 : vG := ([(45, [12, 4], [], 0), (22, [12, 11, 10], [1], 0), (90, [12], [], 0), (91, [12], [], 2147483647), (20, [11, 2], [1], 71), (0, [11], [], 333), (22, [10, 9, 5], [1], 0), (90, [10], [], -1), (91, [10], [], 19), (20, [9, 2], [1], 70), (0, [9], [], 332), (40, [7, 8], [], 0), (0, [8], [], 4), (22, [7, 6, 5], [1], 0), (90, [7], [], 0), (91, [7], [], 6), (20, [6, 2], [1], 66), (0, [6], [], 328), (5000, [0, 1, 2, 3, 4, 5], [0, 1], 9), (0, [0], [], 285), (90, [1], [], 0), (91, [1], [], 19), (0, [2], [], 285), (90, [3], [], 0), (91, [3], [], 19), (90, [4], [], 0), (91, [4], [], 2147483647), (90, [5], [], 0), (91, [5], [], 19)], (90, [10], [], 0))
theorem c_286_9_1 {q0 : Nat} : vOkm T0 (eP e_286 L_286 A_286 mu_286 (some q0)) 2 g_286_9_1 := vOk_inI fun ρ η f0 f1 f2 f3 f4 f5 f6 f7 f8 f9 f10 f11 f12 f13 f14 f15 f16 f17 f18 f19 f20 f21 f22 f23 f24 f25 f26 f27 f28 => q_286_2 (q0 := q0) (n0 := ρ 5) (n1 := ρ 4) (n2 := ρ 3) (n3 := ρ 2) (n4 := ρ 1) (n5 := ρ 0) (n6 := ρ 6) (n7 := ρ 7) (n8 := ρ 8) (n9 := ρ 9) (n10 := ρ 10) (n11 := ρ 11) (n12 := ρ 12) (H0 := η 0) (H1 := η 1) f28 f27 f26 f25 f24 f23 f22 f21 f20 f19 f18 f17 f16 f15 f14 f13 f12 f11 f10 f9 f8 f7 f6 f5 f4 f3 f2 f1 f0
theorem q_286_3 {q0 : Nat} {n0 n1 n2 n3 n4 n5 n6 n7 n8 n9 n10 n11 n12 : Int} {H0 H1 : gH} (f0 : n0 ≤ 19) (f1 : 0 ≤ n0) (f2 : n1 ≤ 2147483647) (f3 : 0 ≤ n1) (f4 : n2 ≤ 19) (f5 : 0 ≤ n2) (f6 : n3 = 285) (f7 : n4 ≤ 19) (f8 : 0 ≤ n4) (f9 : n5 = 285) (f10 : (hLe T0 H0 H1 ∧ hFr s_286.2.2.2.2 H0 H1 ∧ hWt T0 H1) ∧ (Ab_286_9 n5 n4 n3 n2 n1 n0 H0 H1 ∧ preb_286 n5 n4 H0) ∧ some q0 = some (mub_286_9 n5 n4 n3 n2 n1 n0 H0 H1)) (f11 : n6 = 328) (f12 : n6 = hV H1 (n3).toNat 66) (f13 : n7 ≤ 6) (f14 : 0 ≤ n7) (f15 : n7 = hV H1 (n6).toNat (n0).toNat) (f16 : n8 = 4) (f17 : n7 = n8) (f18 : n9 = 332) (f19 : n9 = hV H1 (n3).toNat 70) (f20 : n10 ≤ 19) (f21 : (-1) ≤ n10) (f22 : n10 = hV H1 (n9).toNat (n0).toNat) (f23 : n11 = 333) (f24 : n11 = hV H1 (n3).toNat 71) (f25 : n12 ≤ 2147483647) (f26 : 0 ≤ n12) (f27 : n12 = hV H1 (n11).toNat (n10).toNat) (f28 : n12 ≤ n1) : Ab_286_9 n5 n4 n3 n2 n1 n10 H0 H1 ∧ ∀ q, some q0 = some q → mub_286_9 n5 n4 n3 n2 n1 n10 H0 H1 < q := by
  have g4 := f10.2.1.1
  unfold Ab_286_9 at g4
  have g3 := f10.2.1.2
  unfold preb_286 at g3
  have g5 := Option.some.inj f10.2.2
  unfold mub_286_9 at g5
  unfold Ab_286_9
  unfold mub_286_9
  have e0 : hV H1 328 = hV H0 328 := fRow f10.1.2.1 328 kR_286_328
  have e1 : n7 = hV H0 328 (n0).toNat := (by rw [f11] at f15; exact f15 : n7 = hV H1 328 (n0).toNat).trans ((congrFun e0 _))
  have e2 : hV H1 332 = hV H0 332 := fRow f10.1.2.1 332 kR_286_332
  have e3 : n10 = hV H0 332 (n0).toNat := (by rw [f18] at f22; exact f22 : n10 = hV H1 332 (n0).toNat).trans ((congrFun e2 _))
  have e4 : hV H1 333 = hV H0 333 := fRow f10.1.2.1 333 kR_286_333
  have e5 : n12 = hV H0 333 (n10).toNat := (by rw [f23] at f27; exact f27 : n12 = hV H1 333 (n10).toNat).trans ((congrFun e4 _))
  have e7 : hV H1 285 64 = hV H0 285 64 := (f10.1.2.1.1 285 64 kF_286_285_64)
  have e8 : hV H1 296 = hV H0 296 := fRow f10.1.2.1 296 kR_286_296
  have e9 : hV H1 298 = hV H0 298 := fRow f10.1.2.1 298 kR_286_298
  have e10 : hV H1 300 = hV H0 300 := fRow f10.1.2.1 300 kR_286_300
  have e11 : hV H1 335 = hV H0 335 := fRow f10.1.2.1 335 kR_286_335
  have e12 : (0 : Int) ≤ hV H0 285 64 ∧ hV H0 285 64 ≤ 20 := bTo e7 (f10.1.2.2 285 64 _ _ kW_285_64)
  try simp only [e7, e8, e9, e10, e0, e2, e4, e11]
  have k0 := g4.1
  have y0 := g4.2.1
  have y1 := g4.2.2
  have p0 := g3.1
  have p1 := g3.2
  try simp only [e7] at y0
  try simp only [e7, e8, e9, e10, e0, e2, e4, e11] at y1
  clear g3
  clear g4
  clear f12 f15 f19 f22 f24 f27 e0 e2 e4 e7 e8 e9 e10 e11
  clear f10
  subst e1
  subst e3
  subst e5
  try have t4 := SO4 p1 (s := (n0).toNat) (by omega) (by omega)
  try have t5 := SO5 p1 (s := (n0).toNat) (by omega) (by omega)

  refine ⟨?_, fun q hq => ?_⟩
  · exact ⟨by first | omega | trivial, by omega, ST_next y1 (by omega) (.inl ⟨by omega, by omega⟩) (by omega)⟩
  · have g6 := Option.some.inj hq
    subst g6
    omega
def g_286_9_2 : vG := ([(45, [12, 4], [], 0), (22, [12, 11, 10], [1], 0), (90, [12], [], 0), (91, [12], [], 2147483647), (20, [11, 2], [1], 71), (0, [11], [], 333), (22, [10, 9, 5], [1], 0), (90, [10], [], -1), (91, [10], [], 19), (20, [9, 2], [1], 70), (0, [9], [], 332), (40, [7, 8], [], 0), (0, [8], [], 4), (22, [7, 6, 5], [1], 0), (90, [7], [], 0), (91, [7], [], 6), (20, [6, 2], [1], 66), (0, [6], [], 328), (5000, [0, 1, 2, 3, 4, 5], [0, 1], 9), (0, [0], [], 285), (90, [1], [], 0), (91, [1], [], 19), (0, [2], [], 285), (90, [3], [], 0), (91, [3], [], 19), (90, [4], [], 0), (91, [4], [], 2147483647), (90, [5], [], 0), (91, [5], [], 19)], (4000, [2, 3, 4, 10], [1], 9))
theorem c_286_9_2 {q0 : Nat} : vOkm T0 (eP e_286 L_286 A_286 mu_286 (some q0)) 2 g_286_9_2 := vOk_inI fun ρ η f0 f1 f2 f3 f4 f5 f6 f7 f8 f9 f10 f11 f12 f13 f14 f15 f16 f17 f18 f19 f20 f21 f22 f23 f24 f25 f26 f27 f28 => q_286_3 (q0 := q0) (n0 := ρ 5) (n1 := ρ 4) (n2 := ρ 3) (n3 := ρ 2) (n4 := ρ 1) (n5 := ρ 0) (n6 := ρ 6) (n7 := ρ 7) (n8 := ρ 8) (n9 := ρ 9) (n10 := ρ 10) (n11 := ρ 11) (n12 := ρ 12) (H0 := η 0) (H1 := η 1) f28 f27 f26 f25 f24 f23 f22 f21 f20 f19 f18 f17 f16 f15 f14 f13 f12 f11 f10 f9 f8 f7 f6 f5 f4 f3 f2 f1 f0
theorem q_286_4 {q0 : Nat} {n0 n1 n2 n3 n4 n5 n6 n7 n8 n9 n10 n11 n12 n13 : Int} {H0 H1 : gH} (f0 : n0 ≤ 19) (f1 : 0 ≤ n0) (f2 : n1 ≤ 2147483647) (f3 : 0 ≤ n1) (f4 : n2 ≤ 19) (f5 : 0 ≤ n2) (f6 : n3 = 285) (f7 : n4 ≤ 19) (f8 : 0 ≤ n4) (f9 : n5 = 285) (f10 : (hLe T0 H0 H1 ∧ hFr s_286.2.2.2.2 H0 H1 ∧ hWt T0 H1) ∧ (Ab_286_9 n5 n4 n3 n2 n1 n0 H0 H1 ∧ preb_286 n5 n4 H0) ∧ some q0 = some (mub_286_9 n5 n4 n3 n2 n1 n0 H0 H1)) (f11 : n6 = 328) (f12 : n6 = hV H1 (n3).toNat 66) (f13 : n7 ≤ 6) (f14 : 0 ≤ n7) (f15 : n7 = hV H1 (n6).toNat (n0).toNat) (f16 : n8 = 4) (f17 : n7 = n8) (f18 : n9 = 332) (f19 : n9 = hV H1 (n3).toNat 70) (f20 : n10 ≤ 19) (f21 : (-1) ≤ n10) (f22 : n10 = hV H1 (n9).toNat (n0).toNat) (f23 : n11 = 333) (f24 : n11 = hV H1 (n3).toNat 71) (f25 : n12 ≤ 2147483647) (f26 : 0 ≤ n12) (f27 : n12 = hV H1 (n11).toNat (n10).toNat) (f28 : n1 < n12) (f29 : n13 = 333) (f30 : n13 = hV H1 (n3).toNat 71) : 0 ≤ n10 ∧ n10 < 20 := by
  have g4 := f10.2.1.1
  unfold Ab_286_9 at g4
  have g3 := f10.2.1.2
  unfold preb_286 at g3
  have e0 : hV H1 328 = hV H0 328 := fRow f10.1.2.1 328 kR_286_328
  have e1 : n7 = hV H0 328 (n0).toNat := (by rw [f11] at f15; exact f15 : n7 = hV H1 328 (n0).toNat).trans ((congrFun e0 _))
  have e2 : hV H1 332 = hV H0 332 := fRow f10.1.2.1 332 kR_286_332
  have e3 : n10 = hV H0 332 (n0).toNat := (by rw [f18] at f22; exact f22 : n10 = hV H1 332 (n0).toNat).trans ((congrFun e2 _))
  have e4 : hV H1 333 = hV H0 333 := fRow f10.1.2.1 333 kR_286_333
  have e5 : n12 = hV H0 333 (n10).toNat := (by rw [f23] at f27; exact f27 : n12 = hV H1 333 (n10).toNat).trans ((congrFun e4 _))
  have e7 : hV H1 285 64 = hV H0 285 64 := (f10.1.2.1.1 285 64 kF_286_285_64)
  have e8 : hV H1 296 = hV H0 296 := fRow f10.1.2.1 296 kR_286_296
  have e9 : hV H1 298 = hV H0 298 := fRow f10.1.2.1 298 kR_286_298
  have e10 : hV H1 300 = hV H0 300 := fRow f10.1.2.1 300 kR_286_300
  have e11 : hV H1 335 = hV H0 335 := fRow f10.1.2.1 335 kR_286_335
  have e12 : (0 : Int) ≤ hV H0 285 64 ∧ hV H0 285 64 ≤ 20 := bTo e7 (f10.1.2.2 285 64 _ _ kW_285_64)
  have k0 := g4.1
  have y0 := g4.2.1
  have y1 := g4.2.2
  have p0 := g3.1
  have p1 := g3.2
  try simp only [e7] at y0
  try simp only [e7, e8, e9, e10, e0, e2, e4, e11] at y1
  clear g3
  clear g4
  clear f12 f15 f19 f22 f24 f27 f30 e0 e2 e4 e7 e8 e9 e10 e11
  clear f10
  subst e1
  subst e3
  subst e5
  try have t4 := SO4 p1 (s := (n0).toNat) (by omega) (by omega)
  try have t5 := SO5 p1 (s := (n0).toNat) (by omega) (by omega)
  try subst k0
  omega
def g_286_9_3 : vG := ([(20, [13, 2], [1], 71), (0, [13], [], 333), (44, [12, 4], [], 0), (22, [12, 11, 10], [1], 0), (90, [12], [], 0), (91, [12], [], 2147483647), (20, [11, 2], [1], 71), (0, [11], [], 333), (22, [10, 9, 5], [1], 0), (90, [10], [], -1), (91, [10], [], 19), (20, [9, 2], [1], 70), (0, [9], [], 332), (40, [7, 8], [], 0), (0, [8], [], 4), (22, [7, 6, 5], [1], 0), (90, [7], [], 0), (91, [7], [], 6), (20, [6, 2], [1], 66), (0, [6], [], 328), (5000, [0, 1, 2, 3, 4, 5], [0, 1], 9), (0, [0], [], 285), (90, [1], [], 0), (91, [1], [], 19), (0, [2], [], 285), (90, [3], [], 0), (91, [3], [], 19), (90, [4], [], 0), (91, [4], [], 2147483647), (90, [5], [], 0), (91, [5], [], 19)], (70, [10], [], 20))
theorem c_286_9_3 {q0 : Nat} : vOkm T0 (eP e_286 L_286 A_286 mu_286 (some q0)) 2 g_286_9_3 := vOk_inI fun ρ η f0 f1 f2 f3 f4 f5 f6 f7 f8 f9 f10 f11 f12 f13 f14 f15 f16 f17 f18 f19 f20 f21 f22 f23 f24 f25 f26 f27 f28 f29 f30 => q_286_4 (q0 := q0) (n0 := ρ 5) (n1 := ρ 4) (n2 := ρ 3) (n3 := ρ 2) (n4 := ρ 1) (n5 := ρ 0) (n6 := ρ 6) (n7 := ρ 7) (n8 := ρ 8) (n9 := ρ 9) (n10 := ρ 10) (n11 := ρ 11) (n12 := ρ 12) (n13 := ρ 13) (H0 := η 0) (H1 := η 1) f30 f29 f28 f27 f26 f25 f24 f23 f22 f21 f20 f19 f18 f17 f16 f15 f14 f13 f12 f11 f10 f9 f8 f7 f6 f5 f4 f3 f2 f1 f0
theorem q_286_5 {q0 : Nat} {n0 n1 n2 n3 n4 n5 n6 n7 n8 n9 n10 n11 n12 n13 n14 : Int} {H0 H1 : gH} (f0 : n0 ≤ 19) (f1 : 0 ≤ n0) (f2 : n1 ≤ 2147483647) (f3 : 0 ≤ n1) (f4 : n2 ≤ 19) (f5 : 0 ≤ n2) (f6 : n3 = 285) (f7 : n4 ≤ 19) (f8 : 0 ≤ n4) (f9 : n5 = 285) (f10 : (hLe T0 H0 H1 ∧ hFr s_286.2.2.2.2 H0 H1 ∧ hWt T0 H1) ∧ (Ab_286_9 n5 n4 n3 n2 n1 n0 H0 H1 ∧ preb_286 n5 n4 H0) ∧ some q0 = some (mub_286_9 n5 n4 n3 n2 n1 n0 H0 H1)) (f11 : n6 = 328) (f12 : n6 = hV H1 (n3).toNat 66) (f13 : n7 ≤ 6) (f14 : 0 ≤ n7) (f15 : n7 = hV H1 (n6).toNat (n0).toNat) (f16 : n8 = 4) (f17 : n7 = n8) (f18 : n9 = 332) (f19 : n9 = hV H1 (n3).toNat 70) (f20 : n10 ≤ 19) (f21 : (-1) ≤ n10) (f22 : n10 = hV H1 (n9).toNat (n0).toNat) (f23 : n11 = 333) (f24 : n11 = hV H1 (n3).toNat 71) (f25 : n12 ≤ 2147483647) (f26 : 0 ≤ n12) (f27 : n12 = hV H1 (n11).toNat (n10).toNat) (f28 : n1 < n12) (f29 : n13 = 333) (f30 : n13 = hV H1 (n3).toNat 71) (f31 : n14 ≤ 2147483647) (f32 : 0 ≤ n14) (f33 : n14 = hV H1 (n13).toNat (n10).toNat) : 0 ≤ n10 := by
  have g4 := f10.2.1.1
  unfold Ab_286_9 at g4
  have g3 := f10.2.1.2
  unfold preb_286 at g3
  have e0 : hV H1 328 = hV H0 328 := fRow f10.1.2.1 328 kR_286_328
  have e1 : n7 = hV H0 328 (n0).toNat := (by rw [f11] at f15; exact f15 : n7 = hV H1 328 (n0).toNat).trans ((congrFun e0 _))
  have e2 : hV H1 332 = hV H0 332 := fRow f10.1.2.1 332 kR_286_332
  have e3 : n10 = hV H0 332 (n0).toNat := (by rw [f18] at f22; exact f22 : n10 = hV H1 332 (n0).toNat).trans ((congrFun e2 _))
  have e4 : hV H1 333 = hV H0 333 := fRow f10.1.2.1 333 kR_286_333
  have e5 : n12 = hV H0 333 (n10).toNat := (by rw [f23] at f27; exact f27 : n12 = hV H1 333 (n10).toNat).trans ((congrFun e4 _))
  have e6 : n14 = hV H0 333 (n10).toNat := (by rw [f29] at f33; exact f33 : n14 = hV H1 333 (n10).toNat).trans ((congrFun e4 _))
  have e8 : hV H1 285 64 = hV H0 285 64 := (f10.1.2.1.1 285 64 kF_286_285_64)
  have e9 : hV H1 296 = hV H0 296 := fRow f10.1.2.1 296 kR_286_296
  have e10 : hV H1 298 = hV H0 298 := fRow f10.1.2.1 298 kR_286_298
  have e11 : hV H1 300 = hV H0 300 := fRow f10.1.2.1 300 kR_286_300
  have e12 : hV H1 335 = hV H0 335 := fRow f10.1.2.1 335 kR_286_335
  have e13 : (0 : Int) ≤ hV H0 285 64 ∧ hV H0 285 64 ≤ 20 := bTo e8 (f10.1.2.2 285 64 _ _ kW_285_64)
  have k0 := g4.1
  have y0 := g4.2.1
  have y1 := g4.2.2
  have p0 := g3.1
  have p1 := g3.2
  try simp only [e8] at y0
  try simp only [e8, e9, e10, e11, e0, e2, e4, e12] at y1
  clear g3
  clear g4
  clear f12 f15 f19 f22 f24 f27 f30 f33 e0 e2 e4 e8 e9 e10 e11 e12
  clear f10
  subst e1
  subst e3
  subst e5
  subst e6
  try have t4 := SO4 p1 (s := (n0).toNat) (by omega) (by omega)
  try have t5 := SO5 p1 (s := (n0).toNat) (by omega) (by omega)
  try subst k0
  omega
def g_286_9_4 : vG := ([(22, [14, 13, 10], [1], 0), (90, [14], [], 0), (91, [14], [], 2147483647), (20, [13, 2], [1], 71), (0, [13], [], 333), (44, [12, 4], [], 0), (22, [12, 11, 10], [1], 0), (90, [12], [], 0), (91, [12], [], 2147483647), (20, [11, 2], [1], 71), (0, [11], [], 333), (22, [10, 9, 5], [1], 0), (90, [10], [], -1), (91, [10], [], 19), (20, [9, 2], [1], 70), (0, [9], [], 332), (40, [7, 8], [], 0), (0, [8], [], 4), (22, [7, 6, 5], [1], 0), (90, [7], [], 0), (91, [7], [], 6), (20, [6, 2], [1], 66), (0, [6], [], 328), (5000, [0, 1, 2, 3, 4, 5], [0, 1], 9), (0, [0], [], 285), (90, [1], [], 0), (91, [1], [], 19), (0, [2], [], 285), (90, [3], [], 0), (91, [3], [], 19), (90, [4], [], 0), (91, [4], [], 2147483647), (90, [5], [], 0), (91, [5], [], 19)], (90, [10], [], 0))
theorem c_286_9_4 {q0 : Nat} : vOkm T0 (eP e_286 L_286 A_286 mu_286 (some q0)) 2 g_286_9_4 := vOk_inI fun ρ η f0 f1 f2 f3 f4 f5 f6 f7 f8 f9 f10 f11 f12 f13 f14 f15 f16 f17 f18 f19 f20 f21 f22 f23 f24 f25 f26 f27 f28 f29 f30 f31 f32 f33 => q_286_5 (q0 := q0) (n0 := ρ 5) (n1 := ρ 4) (n2 := ρ 3) (n3 := ρ 2) (n4 := ρ 1) (n5 := ρ 0) (n6 := ρ 6) (n7 := ρ 7) (n8 := ρ 8) (n9 := ρ 9) (n10 := ρ 10) (n11 := ρ 11) (n12 := ρ 12) (n13 := ρ 13) (n14 := ρ 14) (H0 := η 0) (H1 := η 1) f33 f32 f31 f30 f29 f28 f27 f26 f25 f24 f23 f22 f21 f20 f19 f18 f17 f16 f15 f14 f13 f12 f11 f10 f9 f8 f7 f6 f5 f4 f3 f2 f1 f0
theorem q_286_6 {q0 : Nat} {n0 n1 n2 n3 n4 n5 n6 n7 n8 n9 n10 n11 n12 n13 n14 : Int} {H0 H1 : gH} (f0 : n0 ≤ 19) (f1 : 0 ≤ n0) (f2 : n1 ≤ 2147483647) (f3 : 0 ≤ n1) (f4 : n2 ≤ 19) (f5 : 0 ≤ n2) (f6 : n3 = 285) (f7 : n4 ≤ 19) (f8 : 0 ≤ n4) (f9 : n5 = 285) (f10 : (hLe T0 H0 H1 ∧ hFr s_286.2.2.2.2 H0 H1 ∧ hWt T0 H1) ∧ (Ab_286_9 n5 n4 n3 n2 n1 n0 H0 H1 ∧ preb_286 n5 n4 H0) ∧ some q0 = some (mub_286_9 n5 n4 n3 n2 n1 n0 H0 H1)) (f11 : n6 = 328) (f12 : n6 = hV H1 (n3).toNat 66) (f13 : n7 ≤ 6) (f14 : 0 ≤ n7) (f15 : n7 = hV H1 (n6).toNat (n0).toNat) (f16 : n8 = 4) (f17 : n7 = n8) (f18 : n9 = 332) (f19 : n9 = hV H1 (n3).toNat 70) (f20 : n10 ≤ 19) (f21 : (-1) ≤ n10) (f22 : n10 = hV H1 (n9).toNat (n0).toNat) (f23 : n11 = 333) (f24 : n11 = hV H1 (n3).toNat 71) (f25 : n12 ≤ 2147483647) (f26 : 0 ≤ n12) (f27 : n12 = hV H1 (n11).toNat (n10).toNat) (f28 : n1 < n12) (f29 : n13 = 333) (f30 : n13 = hV H1 (n3).toNat 71) (f31 : n14 ≤ 2147483647) (f32 : 0 ≤ n14) (f33 : n14 = hV H1 (n13).toNat (n10).toNat) : Ab_286_9 n5 n4 n3 n2 n14 n10 H0 H1 ∧ ∀ q, some q0 = some q → mub_286_9 n5 n4 n3 n2 n14 n10 H0 H1 < q := by
  have g4 := f10.2.1.1
  unfold Ab_286_9 at g4
  have g3 := f10.2.1.2
  unfold preb_286 at g3
  have g5 := Option.some.inj f10.2.2
  unfold mub_286_9 at g5
  unfold Ab_286_9
  unfold mub_286_9
  have e0 : hV H1 328 = hV H0 328 := fRow f10.1.2.1 328 kR_286_328
  have e1 : n7 = hV H0 328 (n0).toNat := (by rw [f11] at f15; exact f15 : n7 = hV H1 328 (n0).toNat).trans ((congrFun e0 _))
  have e2 : hV H1 332 = hV H0 332 := fRow f10.1.2.1 332 kR_286_332
  have e3 : n10 = hV H0 332 (n0).toNat := (by rw [f18] at f22; exact f22 : n10 = hV H1 332 (n0).toNat).trans ((congrFun e2 _))
  have e4 : hV H1 333 = hV H0 333 := fRow f10.1.2.1 333 kR_286_333
  have e5 : n12 = hV H0 333 (n10).toNat := (by rw [f23] at f27; exact f27 : n12 = hV H1 333 (n10).toNat).trans ((congrFun e4 _))
  have e6 : n14 = hV H0 333 (n10).toNat := (by rw [f29] at f33; exact f33 : n14 = hV H1 333 (n10).toNat).trans ((congrFun e4 _))
  have e8 : hV H1 285 64 = hV H0 285 64 := (f10.1.2.1.1 285 64 kF_286_285_64)
  have e9 : hV H1 296 = hV H0 296 := fRow f10.1.2.1 296 kR_286_296
  have e10 : hV H1 298 = hV H0 298 := fRow f10.1.2.1 298 kR_286_298
  have e11 : hV H1 300 = hV H0 300 := fRow f10.1.2.1 300 kR_286_300
  have e12 : hV H1 335 = hV H0 335 := fRow f10.1.2.1 335 kR_286_335
  have e13 : (0 : Int) ≤ hV H0 285 64 ∧ hV H0 285 64 ≤ 20 := bTo e8 (f10.1.2.2 285 64 _ _ kW_285_64)
  try simp only [e8, e9, e10, e11, e0, e2, e4, e12]
  have k0 := g4.1
  have y0 := g4.2.1
  have y1 := g4.2.2
  have p0 := g3.1
  have p1 := g3.2
  try simp only [e8] at y0
  try simp only [e8, e9, e10, e11, e0, e2, e4, e12] at y1
  clear g3
  clear g4
  clear f12 f15 f19 f22 f24 f27 f30 f33 e0 e2 e4 e8 e9 e10 e11 e12
  clear f10
  subst e1
  subst e3
  subst e5
  subst e6
  try have t4 := SO4 p1 (s := (n0).toNat) (by omega) (by omega)
  try have t5 := SO5 p1 (s := (n0).toNat) (by omega) (by omega)

  refine ⟨?_, fun q hq => ?_⟩
  · exact ⟨by first | omega | trivial, by omega, ST_next y1 (by omega) (.inl ⟨by omega, by omega⟩) (by omega)⟩
  · have g6 := Option.some.inj hq
    subst g6
    omega
def g_286_9_5 : vG := ([(22, [14, 13, 10], [1], 0), (90, [14], [], 0), (91, [14], [], 2147483647), (20, [13, 2], [1], 71), (0, [13], [], 333), (44, [12, 4], [], 0), (22, [12, 11, 10], [1], 0), (90, [12], [], 0), (91, [12], [], 2147483647), (20, [11, 2], [1], 71), (0, [11], [], 333), (22, [10, 9, 5], [1], 0), (90, [10], [], -1), (91, [10], [], 19), (20, [9, 2], [1], 70), (0, [9], [], 332), (40, [7, 8], [], 0), (0, [8], [], 4), (22, [7, 6, 5], [1], 0), (90, [7], [], 0), (91, [7], [], 6), (20, [6, 2], [1], 66), (0, [6], [], 328), (5000, [0, 1, 2, 3, 4, 5], [0, 1], 9), (0, [0], [], 285), (90, [1], [], 0), (91, [1], [], 19), (0, [2], [], 285), (90, [3], [], 0), (91, [3], [], 19), (90, [4], [], 0), (91, [4], [], 2147483647), (90, [5], [], 0), (91, [5], [], 19)], (4000, [2, 3, 14, 10], [1], 9))
theorem c_286_9_5 {q0 : Nat} : vOkm T0 (eP e_286 L_286 A_286 mu_286 (some q0)) 2 g_286_9_5 := vOk_inI fun ρ η f0 f1 f2 f3 f4 f5 f6 f7 f8 f9 f10 f11 f12 f13 f14 f15 f16 f17 f18 f19 f20 f21 f22 f23 f24 f25 f26 f27 f28 f29 f30 f31 f32 f33 => q_286_6 (q0 := q0) (n0 := ρ 5) (n1 := ρ 4) (n2 := ρ 3) (n3 := ρ 2) (n4 := ρ 1) (n5 := ρ 0) (n6 := ρ 6) (n7 := ρ 7) (n8 := ρ 8) (n9 := ρ 9) (n10 := ρ 10) (n11 := ρ 11) (n12 := ρ 12) (n13 := ρ 13) (n14 := ρ 14) (H0 := η 0) (H1 := η 1) f33 f32 f31 f30 f29 f28 f27 f26 f25 f24 f23 f22 f21 f20 f19 f18 f17 f16 f15 f14 f13 f12 f11 f10 f9 f8 f7 f6 f5 f4 f3 f2 f1 f0
theorem q_286_7 {q0 : Nat} {n0 n1 n2 n3 n4 n5 n6 n7 n8 n9 n10 n11 : Int} {H0 H1 : gH} (f0 : n0 ≤ 19) (f1 : 0 ≤ n0) (f2 : n1 ≤ 2147483647) (f3 : 0 ≤ n1) (f4 : n2 ≤ 19) (f5 : 0 ≤ n2) (f6 : n3 = 285) (f7 : n4 ≤ 19) (f8 : 0 ≤ n4) (f9 : n5 = 285) (f10 : (hLe T0 H0 H1 ∧ hFr s_286.2.2.2.2 H0 H1 ∧ hWt T0 H1) ∧ (Ab_286_9 n5 n4 n3 n2 n1 n0 H0 H1 ∧ preb_286 n5 n4 H0) ∧ some q0 = some (mub_286_9 n5 n4 n3 n2 n1 n0 H0 H1)) (f11 : n6 = 328) (f12 : n6 = hV H1 (n3).toNat 66) (f13 : n7 ≤ 6) (f14 : 0 ≤ n7) (f15 : n7 = hV H1 (n6).toNat (n0).toNat) (f16 : n8 = 4) (f17 : n7 ≠ n8) (f18 : n9 = 328) (f19 : n9 = hV H1 (n3).toNat 66) (f20 : n10 ≤ 6) (f21 : 0 ≤ n10) (f22 : n10 = hV H1 (n9).toNat (n0).toNat) (f23 : n11 = 5) (f24 : n10 ≠ n11) : postb_286 n1 n5 n4 H0 H1 := by
  have g4 := f10.2.1.1
  unfold Ab_286_9 at g4
  have g3 := f10.2.1.2
  unfold preb_286 at g3
  unfold postb_286
  have e0 : hV H1 328 = hV H0 328 := fRow f10.1.2.1 328 kR_286_328
  have e1 : n7 = hV H0 328 (n0).toNat := (by rw [f11] at f15; exact f15 : n7 = hV H1 328 (n0).toNat).trans ((congrFun e0 _))
  have e2 : n10 = hV H0 328 (n0).toNat := (by rw [f18] at f22; exact f22 : n10 = hV H1 328 (n0).toNat).trans ((congrFun e0 _))
  have e4 : hV H1 285 64 = hV H0 285 64 := (f10.1.2.1.1 285 64 kF_286_285_64)
  have e5 : hV H1 296 = hV H0 296 := fRow f10.1.2.1 296 kR_286_296
  have e6 : hV H1 298 = hV H0 298 := fRow f10.1.2.1 298 kR_286_298
  have e7 : hV H1 300 = hV H0 300 := fRow f10.1.2.1 300 kR_286_300
  have e8 : hV H1 332 = hV H0 332 := fRow f10.1.2.1 332 kR_286_332
  have e9 : hV H1 333 = hV H0 333 := fRow f10.1.2.1 333 kR_286_333
  have e10 : hV H1 335 = hV H0 335 := fRow f10.1.2.1 335 kR_286_335
  have e11 : (0 : Int) ≤ hV H0 285 64 ∧ hV H0 285 64 ≤ 20 := bTo e4 (f10.1.2.2 285 64 _ _ kW_285_64)
  try simp only [e4, e5, e6, e7, e0, e8, e9, e10]
  have k0 := g4.1
  have y0 := g4.2.1
  have y1 := g4.2.2
  have p0 := g3.1
  have p1 := g3.2
  try simp only [e4] at y0
  try simp only [e4, e5, e6, e7, e0, e8, e9, e10] at y1
  clear g3
  clear g4
  clear f12 f15 f19 f22 e0 e4 e5 e6 e7 e8 e9 e10
  clear f10
  subst e1
  subst e2
  try have t4 := SO4 p1 (s := (n0).toNat) (by omega) (by omega)
  try have t5 := SO5 p1 (s := (n0).toNat) (by omega) (by omega)

  exact ⟨_, y1⟩
def g_286_9_6 : vG := ([(41, [10, 11], [], 0), (0, [11], [], 5), (22, [10, 9, 5], [1], 0), (90, [10], [], 0), (91, [10], [], 6), (20, [9, 2], [1], 66), (0, [9], [], 328), (41, [7, 8], [], 0), (0, [8], [], 4), (22, [7, 6, 5], [1], 0), (90, [7], [], 0), (91, [7], [], 6), (20, [6, 2], [1], 66), (0, [6], [], 328), (5000, [0, 1, 2, 3, 4, 5], [0, 1], 9), (0, [0], [], 285), (90, [1], [], 0), (91, [1], [], 19), (0, [2], [], 285), (90, [3], [], 0), (91, [3], [], 19), (90, [4], [], 0), (91, [4], [], 2147483647), (90, [5], [], 0), (91, [5], [], 19)], (3000, [4], [1], 57))
theorem c_286_9_6 {q0 : Nat} : vOkm T0 (eP e_286 L_286 A_286 mu_286 (some q0)) 2 g_286_9_6 := vOk_inI fun ρ η f0 f1 f2 f3 f4 f5 f6 f7 f8 f9 f10 f11 f12 f13 f14 f15 f16 f17 f18 f19 f20 f21 f22 f23 f24 => q_286_7 (q0 := q0) (n0 := ρ 5) (n1 := ρ 4) (n2 := ρ 3) (n3 := ρ 2) (n4 := ρ 1) (n5 := ρ 0) (n6 := ρ 6) (n7 := ρ 7) (n8 := ρ 8) (n9 := ρ 9) (n10 := ρ 10) (n11 := ρ 11) (H0 := η 0) (H1 := η 1) f24 f23 f22 f21 f20 f19 f18 f17 f16 f15 f14 f13 f12 f11 f10 f9 f8 f7 f6 f5 f4 f3 f2 f1 f0
theorem q_286_8 {q0 : Nat} {n0 n1 n2 n3 n4 n5 n6 n7 n8 n9 n10 n11 n12 n13 : Int} {H0 H1 : gH} (f0 : n0 ≤ 19) (f1 : 0 ≤ n0) (f2 : n1 ≤ 2147483647) (f3 : 0 ≤ n1) (f4 : n2 ≤ 19) (f5 : 0 ≤ n2) (f6 : n3 = 285) (f7 : n4 ≤ 19) (f8 : 0 ≤ n4) (f9 : n5 = 285) (f10 : (hLe T0 H0 H1 ∧ hFr s_286.2.2.2.2 H0 H1 ∧ hWt T0 H1) ∧ (Ab_286_9 n5 n4 n3 n2 n1 n0 H0 H1 ∧ preb_286 n5 n4 H0) ∧ some q0 = some (mub_286_9 n5 n4 n3 n2 n1 n0 H0 H1)) (f11 : n6 = 328) (f12 : n6 = hV H1 (n3).toNat 66) (f13 : n7 ≤ 6) (f14 : 0 ≤ n7) (f15 : n7 = hV H1 (n6).toNat (n0).toNat) (f16 : n8 = 4) (f17 : n7 ≠ n8) (f18 : n9 = 328) (f19 : n9 = hV H1 (n3).toNat 66) (f20 : n10 ≤ 6) (f21 : 0 ≤ n10) (f22 : n10 = hV H1 (n9).toNat (n0).toNat) (f23 : n11 = 5) (f24 : n10 = n11) (f25 : n12 = 332) (f26 : n12 = hV H1 (n3).toNat 70) (f27 : n13 ≤ 19) (f28 : (-1) ≤ n13) (f29 : n13 = hV H1 (n12).toNat (n0).toNat) : 0 ≤ n13 ∧ n13 < 20 := by
  have g4 := f10.2.1.1
  unfold Ab_286_9 at g4
  have g3 := f10.2.1.2
  unfold preb_286 at g3
  have e0 : hV H1 328 = hV H0 328 := fRow f10.1.2.1 328 kR_286_328
  have e1 : n7 = hV H0 328 (n0).toNat := (by rw [f11] at f15; exact f15 : n7 = hV H1 328 (n0).toNat).trans ((congrFun e0 _))
  have e2 : n10 = hV H0 328 (n0).toNat := (by rw [f18] at f22; exact f22 : n10 = hV H1 328 (n0).toNat).trans ((congrFun e0 _))
  have e3 : hV H1 332 = hV H0 332 := fRow f10.1.2.1 332 kR_286_332
  have e4 : n13 = hV H0 332 (n0).toNat := (by rw [f25] at f29; exact f29 : n13 = hV H1 332 (n0).toNat).trans ((congrFun e3 _))
  have e6 : hV H1 285 64 = hV H0 285 64 := (f10.1.2.1.1 285 64 kF_286_285_64)
  have e7 : hV H1 296 = hV H0 296 := fRow f10.1.2.1 296 kR_286_296
  have e8 : hV H1 298 = hV H0 298 := fRow f10.1.2.1 298 kR_286_298
  have e9 : hV H1 300 = hV H0 300 := fRow f10.1.2.1 300 kR_286_300
  have e10 : hV H1 333 = hV H0 333 := fRow f10.1.2.1 333 kR_286_333
  have e11 : hV H1 335 = hV H0 335 := fRow f10.1.2.1 335 kR_286_335
  have e12 : (0 : Int) ≤ hV H0 285 64 ∧ hV H0 285 64 ≤ 20 := bTo e6 (f10.1.2.2 285 64 _ _ kW_285_64)
  have k0 := g4.1
  have y0 := g4.2.1
  have y1 := g4.2.2
  have p0 := g3.1
  have p1 := g3.2
  try simp only [e6] at y0
  try simp only [e6, e7, e8, e9, e0, e3, e10, e11] at y1
  clear g3
  clear g4
  clear f12 f15 f19 f22 f26 f29 e0 e3 e6 e7 e8 e9 e10 e11
  clear f10
  subst e1
  subst e2
  subst e4
  try have t4 := SO4 p1 (s := (n0).toNat) (by omega) (by omega)
  try have t5 := SO5 p1 (s := (n0).toNat) (by omega) (by omega)
  try subst k0
  omega
def g_286_9_7 : vG := ([(22, [13, 12, 5], [1], 0), (90, [13], [], -1), (91, [13], [], 19), (20, [12, 2], [1], 70), (0, [12], [], 332), (40, [10, 11], [], 0), (0, [11], [], 5), (22, [10, 9, 5], [1], 0), (90, [10], [], 0), (91, [10], [], 6), (20, [9, 2], [1], 66), (0, [9], [], 328), (41, [7, 8], [], 0), (0, [8], [], 4), (22, [7, 6, 5], [1], 0), (90, [7], [], 0), (91, [7], [], 6), (20, [6, 2], [1], 66), (0, [6], [], 328), (5000, [0, 1, 2, 3, 4, 5], [0, 1], 9), (0, [0], [], 285), (90, [1], [], 0), (91, [1], [], 19), (0, [2], [], 285), (90, [3], [], 0), (91, [3], [], 19), (90, [4], [], 0), (91, [4], [], 2147483647), (90, [5], [], 0), (91, [5], [], 19)], (70, [13], [], 20))
theorem c_286_9_7 {q0 : Nat} : vOkm T0 (eP e_286 L_286 A_286 mu_286 (some q0)) 2 g_286_9_7 := vOk_inI fun ρ η f0 f1 f2 f3 f4 f5 f6 f7 f8 f9 f10 f11 f12 f13 f14 f15 f16 f17 f18 f19 f20 f21 f22 f23 f24 f25 f26 f27 f28 f29 => q_286_8 (q0 := q0) (n0 := ρ 5) (n1 := ρ 4) (n2 := ρ 3) (n3 := ρ 2) (n4 := ρ 1) (n5 := ρ 0) (n6 := ρ 6) (n7 := ρ 7) (n8 := ρ 8) (n9 := ρ 9) (n10 := ρ 10) (n11 := ρ 11) (n12 := ρ 12) (n13 := ρ 13) (H0 := η 0) (H1 := η 1) f29 f28 f27 f26 f25 f24 f23 f22 f21 f20 f19 f18 f17 f16 f15 f14 f13 f12 f11 f10 f9 f8 f7 f6 f5 f4 f3 f2 f1 f0
theorem q_286_9 {q0 : Nat} {n0 n1 n2 n3 n4 n5 n6 n7 n8 n9 n10 n11 n12 n13 n14 n15 : Int} {H0 H1 : gH} (f0 : n0 ≤ 19) (f1 : 0 ≤ n0) (f2 : n1 ≤ 2147483647) (f3 : 0 ≤ n1) (f4 : n2 ≤ 19) (f5 : 0 ≤ n2) (f6 : n3 = 285) (f7 : n4 ≤ 19) (f8 : 0 ≤ n4) (f9 : n5 = 285) (f10 : (hLe T0 H0 H1 ∧ hFr s_286.2.2.2.2 H0 H1 ∧ hWt T0 H1) ∧ (Ab_286_9 n5 n4 n3 n2 n1 n0 H0 H1 ∧ preb_286 n5 n4 H0) ∧ some q0 = some (mub_286_9 n5 n4 n3 n2 n1 n0 H0 H1)) (f11 : n6 = 328) (f12 : n6 = hV H1 (n3).toNat 66) (f13 : n7 ≤ 6) (f14 : 0 ≤ n7) (f15 : n7 = hV H1 (n6).toNat (n0).toNat) (f16 : n8 = 4) (f17 : n7 ≠ n8) (f18 : n9 = 328) (f19 : n9 = hV H1 (n3).toNat 66) (f20 : n10 ≤ 6) (f21 : 0 ≤ n10) (f22 : n10 = hV H1 (n9).toNat (n0).toNat) (f23 : n11 = 5) (f24 : n10 = n11) (f25 : n12 = 332) (f26 : n12 = hV H1 (n3).toNat 70) (f27 : n13 ≤ 19) (f28 : (-1) ≤ n13) (f29 : n13 = hV H1 (n12).toNat (n0).toNat) (f30 : n14 = 333) (f31 : n14 = hV H1 (n3).toNat 71) (f32 : n15 ≤ 2147483647) (f33 : 0 ≤ n15) (f34 : n15 = hV H1 (n14).toNat (n13).toNat) (f35 : n15 ≤ n1) : 0 ≤ n13 := by
  have g4 := f10.2.1.1
  unfold Ab_286_9 at g4
  have g3 := f10.2.1.2
  unfold preb_286 at g3
  have e0 : hV H1 328 = hV H0 328 := fRow f10.1.2.1 328 kR_286_328
  have e1 : n7 = hV H0 328 (n0).toNat := (by rw [f11] at f15; exact f15 : n7 = hV H1 328 (n0).toNat).trans ((congrFun e0 _))
  have e2 : n10 = hV H0 328 (n0).toNat := (by rw [f18] at f22; exact f22 : n10 = hV H1 328 (n0).toNat).trans ((congrFun e0 _))
  have e3 : hV H1 332 = hV H0 332 := fRow f10.1.2.1 332 kR_286_332
  have e4 : n13 = hV H0 332 (n0).toNat := (by rw [f25] at f29; exact f29 : n13 = hV H1 332 (n0).toNat).trans ((congrFun e3 _))
  have e5 : hV H1 333 = hV H0 333 := fRow f10.1.2.1 333 kR_286_333
  have e6 : n15 = hV H0 333 (n13).toNat := (by rw [f30] at f34; exact f34 : n15 = hV H1 333 (n13).toNat).trans ((congrFun e5 _))
  have e8 : hV H1 285 64 = hV H0 285 64 := (f10.1.2.1.1 285 64 kF_286_285_64)
  have e9 : hV H1 296 = hV H0 296 := fRow f10.1.2.1 296 kR_286_296
  have e10 : hV H1 298 = hV H0 298 := fRow f10.1.2.1 298 kR_286_298
  have e11 : hV H1 300 = hV H0 300 := fRow f10.1.2.1 300 kR_286_300
  have e12 : hV H1 335 = hV H0 335 := fRow f10.1.2.1 335 kR_286_335
  have e13 : (0 : Int) ≤ hV H0 285 64 ∧ hV H0 285 64 ≤ 20 := bTo e8 (f10.1.2.2 285 64 _ _ kW_285_64)
  have k0 := g4.1
  have y0 := g4.2.1
  have y1 := g4.2.2
  have p0 := g3.1
  have p1 := g3.2
  try simp only [e8] at y0
  try simp only [e8, e9, e10, e11, e0, e3, e5, e12] at y1
  clear g3
  clear g4
  clear f12 f15 f19 f22 f26 f29 f31 f34 e0 e3 e5 e8 e9 e10 e11 e12
  clear f10
  subst e1
  subst e2
  subst e4
  subst e6
  try have t4 := SO4 p1 (s := (n0).toNat) (by omega) (by omega)
  try have t5 := SO5 p1 (s := (n0).toNat) (by omega) (by omega)
  try subst k0
  omega
def g_286_9_8 : vG := ([(45, [15, 4], [], 0), (22, [15, 14, 13], [1], 0), (90, [15], [], 0), (91, [15], [], 2147483647), (20, [14, 2], [1], 71), (0, [14], [], 333), (22, [13, 12, 5], [1], 0), (90, [13], [], -1), (91, [13], [], 19), (20, [12, 2], [1], 70), (0, [12], [], 332), (40, [10, 11], [], 0), (0, [11], [], 5), (22, [10, 9, 5], [1], 0), (90, [10], [], 0), (91, [10], [], 6), (20, [9, 2], [1], 66), (0, [9], [], 328), (41, [7, 8], [], 0), (0, [8], [], 4), (22, [7, 6, 5], [1], 0), (90, [7], [], 0), (91, [7], [], 6), (20, [6, 2], [1], 66), (0, [6], [], 328), (5000, [0, 1, 2, 3, 4, 5], [0, 1], 9), (0, [0], [], 285), (90, [1], [], 0), (91, [1], [], 19), (0, [2], [], 285), (90, [3], [], 0), (91, [3], [], 19), (90, [4], [], 0), (91, [4], [], 2147483647), (90, [5], [], 0), (91, [5], [], 19)], (90, [13], [], 0))
theorem c_286_9_8 {q0 : Nat} : vOkm T0 (eP e_286 L_286 A_286 mu_286 (some q0)) 2 g_286_9_8 := vOk_inI fun ρ η f0 f1 f2 f3 f4 f5 f6 f7 f8 f9 f10 f11 f12 f13 f14 f15 f16 f17 f18 f19 f20 f21 f22 f23 f24 f25 f26 f27 f28 f29 f30 f31 f32 f33 f34 f35 => q_286_9 (q0 := q0) (n0 := ρ 5) (n1 := ρ 4) (n2 := ρ 3) (n3 := ρ 2) (n4 := ρ 1) (n5 := ρ 0) (n6 := ρ 6) (n7 := ρ 7) (n8 := ρ 8) (n9 := ρ 9) (n10 := ρ 10) (n11 := ρ 11) (n12 := ρ 12) (n13 := ρ 13) (n14 := ρ 14) (n15 := ρ 15) (H0 := η 0) (H1 := η 1) f35 f34 f33 f32 f31 f30 f29 f28 f27 f26 f25 f24 f23 f22 f21 f20 f19 f18 f17 f16 f15 f14 f13 f12 f11 f10 f9 f8 f7 f6 f5 f4 f3 f2 f1 f0
theorem q_286_10 {q0 : Nat} {n0 n1 n2 n3 n4 n5 n6 n7 n8 n9 n10 n11 n12 n13 n14 n15 : Int} {H0 H1 : gH} (f0 : n0 ≤ 19) (f1 : 0 ≤ n0) (f2 : n1 ≤ 2147483647) (f3 : 0 ≤ n1) (f4 : n2 ≤ 19) (f5 : 0 ≤ n2) (f6 : n3 = 285) (f7 : n4 ≤ 19) (f8 : 0 ≤ n4) (f9 : n5 = 285) (f10 : (hLe T0 H0 H1 ∧ hFr s_286.2.2.2.2 H0 H1 ∧ hWt T0 H1) ∧ (Ab_286_9 n5 n4 n3 n2 n1 n0 H0 H1 ∧ preb_286 n5 n4 H0) ∧ some q0 = some (mub_286_9 n5 n4 n3 n2 n1 n0 H0 H1)) (f11 : n6 = 328) (f12 : n6 = hV H1 (n3).toNat 66) (f13 : n7 ≤ 6) (f14 : 0 ≤ n7) (f15 : n7 = hV H1 (n6).toNat (n0).toNat) (f16 : n8 = 4) (f17 : n7 ≠ n8) (f18 : n9 = 328) (f19 : n9 = hV H1 (n3).toNat 66) (f20 : n10 ≤ 6) (f21 : 0 ≤ n10) (f22 : n10 = hV H1 (n9).toNat (n0).toNat) (f23 : n11 = 5) (f24 : n10 = n11) (f25 : n12 = 332) (f26 : n12 = hV H1 (n3).toNat 70) (f27 : n13 ≤ 19) (f28 : (-1) ≤ n13) (f29 : n13 = hV H1 (n12).toNat (n0).toNat) (f30 : n14 = 333) (f31 : n14 = hV H1 (n3).toNat 71) (f32 : n15 ≤ 2147483647) (f33 : 0 ≤ n15) (f34 : n15 = hV H1 (n14).toNat (n13).toNat) (f35 : n15 ≤ n1) : Ab_286_9 n5 n4 n3 n2 n1 n13 H0 H1 ∧ ∀ q, some q0 = some q → mub_286_9 n5 n4 n3 n2 n1 n13 H0 H1 < q := by
  have g4 := f10.2.1.1
  unfold Ab_286_9 at g4
  have g3 := f10.2.1.2
  unfold preb_286 at g3
  have g5 := Option.some.inj f10.2.2
  unfold mub_286_9 at g5
  unfold Ab_286_9
  unfold mub_286_9
  have e0 : hV H1 328 = hV H0 328 := fRow f10.1.2.1 328 kR_286_328
  have e1 : n7 = hV H0 328 (n0).toNat := (by rw [f11] at f15; exact f15 : n7 = hV H1 328 (n0).toNat).trans ((congrFun e0 _))
  have e2 : n10 = hV H0 328 (n0).toNat := (by rw [f18] at f22; exact f22 : n10 = hV H1 328 (n0).toNat).trans ((congrFun e0 _))
  have e3 : hV H1 332 = hV H0 332 := fRow f10.1.2.1 332 kR_286_332
  have e4 : n13 = hV H0 332 (n0).toNat := (by rw [f25] at f29; exact f29 : n13 = hV H1 332 (n0).toNat).trans ((congrFun e3 _))
  have e5 : hV H1 333 = hV H0 333 := fRow f10.1.2.1 333 kR_286_333
  have e6 : n15 = hV H0 333 (n13).toNat := (by rw [f30] at f34; exact f34 : n15 = hV H1 333 (n13).toNat).trans ((congrFun e5 _))
  have e8 : hV H1 285 64 = hV H0 285 64 := (f10.1.2.1.1 285 64 kF_286_285_64)
  have e9 : hV H1 296 = hV H0 296 := fRow f10.1.2.1 296 kR_286_296
  have e10 : hV H1 298 = hV H0 298 := fRow f10.1.2.1 298 kR_286_298
  have e11 : hV H1 300 = hV H0 300 := fRow f10.1.2.1 300 kR_286_300
  have e12 : hV H1 335 = hV H0 335 := fRow f10.1.2.1 335 kR_286_335
  have e13 : (0 : Int) ≤ hV H0 285 64 ∧ hV H0 285 64 ≤ 20 := bTo e8 (f10.1.2.2 285 64 _ _ kW_285_64)
  try simp only [e8, e9, e10, e11, e0, e3, e5, e12]
  have k0 := g4.1
  have y0 := g4.2.1
  have y1 := g4.2.2
  have p0 := g3.1
  have p1 := g3.2
  try simp only [e8] at y0
  try simp only [e8, e9, e10, e11, e0, e3, e5, e12] at y1
  clear g3
  clear g4
  clear f12 f15 f19 f22 f26 f29 f31 f34 e0 e3 e5 e8 e9 e10 e11 e12
  clear f10
  subst e1
  subst e2
  subst e4
  subst e6
  try have t4 := SO4 p1 (s := (n0).toNat) (by omega) (by omega)
  try have t5 := SO5 p1 (s := (n0).toNat) (by omega) (by omega)

  refine ⟨?_, fun q hq => ?_⟩
  · exact ⟨by first | omega | trivial, by omega, ST_next y1 (by omega) (.inl ⟨by omega, by omega⟩) (by omega)⟩
  · have g6 := Option.some.inj hq
    subst g6
    omega
def g_286_9_9 : vG := ([(45, [15, 4], [], 0), (22, [15, 14, 13], [1], 0), (90, [15], [], 0), (91, [15], [], 2147483647), (20, [14, 2], [1], 71), (0, [14], [], 333), (22, [13, 12, 5], [1], 0), (90, [13], [], -1), (91, [13], [], 19), (20, [12, 2], [1], 70), (0, [12], [], 332), (40, [10, 11], [], 0), (0, [11], [], 5), (22, [10, 9, 5], [1], 0), (90, [10], [], 0), (91, [10], [], 6), (20, [9, 2], [1], 66), (0, [9], [], 328), (41, [7, 8], [], 0), (0, [8], [], 4), (22, [7, 6, 5], [1], 0), (90, [7], [], 0), (91, [7], [], 6), (20, [6, 2], [1], 66), (0, [6], [], 328), (5000, [0, 1, 2, 3, 4, 5], [0, 1], 9), (0, [0], [], 285), (90, [1], [], 0), (91, [1], [], 19), (0, [2], [], 285), (90, [3], [], 0), (91, [3], [], 19), (90, [4], [], 0), (91, [4], [], 2147483647), (90, [5], [], 0), (91, [5], [], 19)], (4000, [2, 3, 4, 13], [1], 9))
theorem c_286_9_9 {q0 : Nat} : vOkm T0 (eP e_286 L_286 A_286 mu_286 (some q0)) 2 g_286_9_9 := vOk_inI fun ρ η f0 f1 f2 f3 f4 f5 f6 f7 f8 f9 f10 f11 f12 f13 f14 f15 f16 f17 f18 f19 f20 f21 f22 f23 f24 f25 f26 f27 f28 f29 f30 f31 f32 f33 f34 f35 => q_286_10 (q0 := q0) (n0 := ρ 5) (n1 := ρ 4) (n2 := ρ 3) (n3 := ρ 2) (n4 := ρ 1) (n5 := ρ 0) (n6 := ρ 6) (n7 := ρ 7) (n8 := ρ 8) (n9 := ρ 9) (n10 := ρ 10) (n11 := ρ 11) (n12 := ρ 12) (n13 := ρ 13) (n14 := ρ 14) (n15 := ρ 15) (H0 := η 0) (H1 := η 1) f35 f34 f33 f32 f31 f30 f29 f28 f27 f26 f25 f24 f23 f22 f21 f20 f19 f18 f17 f16 f15 f14 f13 f12 f11 f10 f9 f8 f7 f6 f5 f4 f3 f2 f1 f0
theorem q_286_11 {q0 : Nat} {n0 n1 n2 n3 n4 n5 n6 n7 n8 n9 n10 n11 n12 n13 n14 n15 n16 : Int} {H0 H1 : gH} (f0 : n0 ≤ 19) (f1 : 0 ≤ n0) (f2 : n1 ≤ 2147483647) (f3 : 0 ≤ n1) (f4 : n2 ≤ 19) (f5 : 0 ≤ n2) (f6 : n3 = 285) (f7 : n4 ≤ 19) (f8 : 0 ≤ n4) (f9 : n5 = 285) (f10 : (hLe T0 H0 H1 ∧ hFr s_286.2.2.2.2 H0 H1 ∧ hWt T0 H1) ∧ (Ab_286_9 n5 n4 n3 n2 n1 n0 H0 H1 ∧ preb_286 n5 n4 H0) ∧ some q0 = some (mub_286_9 n5 n4 n3 n2 n1 n0 H0 H1)) (f11 : n6 = 328) (f12 : n6 = hV H1 (n3).toNat 66) (f13 : n7 ≤ 6) (f14 : 0 ≤ n7) (f15 : n7 = hV H1 (n6).toNat (n0).toNat) (f16 : n8 = 4) (f17 : n7 ≠ n8) (f18 : n9 = 328) (f19 : n9 = hV H1 (n3).toNat 66) (f20 : n10 ≤ 6) (f21 : 0 ≤ n10) (f22 : n10 = hV H1 (n9).toNat (n0).toNat) (f23 : n11 = 5) (f24 : n10 = n11) (f25 : n12 = 332) (f26 : n12 = hV H1 (n3).toNat 70) (f27 : n13 ≤ 19) (f28 : (-1) ≤ n13) (f29 : n13 = hV H1 (n12).toNat (n0).toNat) (f30 : n14 = 333) (f31 : n14 = hV H1 (n3).toNat 71) (f32 : n15 ≤ 2147483647) (f33 : 0 ≤ n15) (f34 : n15 = hV H1 (n14).toNat (n13).toNat) (f35 : n1 < n15) (f36 : n16 = 333) (f37 : n16 = hV H1 (n3).toNat 71) : 0 ≤ n13 ∧ n13 < 20 := by
  have g4 := f10.2.1.1
  unfold Ab_286_9 at g4
  have g3 := f10.2.1.2
  unfold preb_286 at g3
  have e0 : hV H1 328 = hV H0 328 := fRow f10.1.2.1 328 kR_286_328
  have e1 : n7 = hV H0 328 (n0).toNat := (by rw [f11] at f15; exact f15 : n7 = hV H1 328 (n0).toNat).trans ((congrFun e0 _))
  have e2 : n10 = hV H0 328 (n0).toNat := (by rw [f18] at f22; exact f22 : n10 = hV H1 328 (n0).toNat).trans ((congrFun e0 _))
  have e3 : hV H1 332 = hV H0 332 := fRow f10.1.2.1 332 kR_286_332
  have e4 : n13 = hV H0 332 (n0).toNat := (by rw [f25] at f29; exact f29 : n13 = hV H1 332 (n0).toNat).trans ((congrFun e3 _))
  have e5 : hV H1 333 = hV H0 333 := fRow f10.1.2.1 333 kR_286_333
  have e6 : n15 = hV H0 333 (n13).toNat := (by rw [f30] at f34; exact f34 : n15 = hV H1 333 (n13).toNat).trans ((congrFun e5 _))
  have e8 : hV H1 285 64 = hV H0 285 64 := (f10.1.2.1.1 285 64 kF_286_285_64)
  have e9 : hV H1 296 = hV H0 296 := fRow f10.1.2.1 296 kR_286_296
  have e10 : hV H1 298 = hV H0 298 := fRow f10.1.2.1 298 kR_286_298
  have e11 : hV H1 300 = hV H0 300 := fRow f10.1.2.1 300 kR_286_300
  have e12 : hV H1 335 = hV H0 335 := fRow f10.1.2.1 335 kR_286_335
  have e13 : (0 : Int) ≤ hV H0 285 64 ∧ hV H0 285 64 ≤ 20 := bTo e8 (f10.1.2.2 285 64 _ _ kW_285_64)
  have k0 := g4.1
  have y0 := g4.2.1
  have y1 := g4.2.2
  have p0 := g3.1
  have p1 := g3.2
  try simp only [e8] at y0
  try simp only [e8, e9, e10, e11, e0, e3, e5, e12] at y1
  clear g3
  clear g4
  clear f12 f15 f19 f22 f26 f29 f31 f34 f37 e0 e3 e5 e8 e9 e10 e11 e12
  clear f10
  subst e1
  subst e2
  subst e4
  subst e6
  try have t4 := SO4 p1 (s := (n0).toNat) (by omega) (by omega)
  try have t5 := SO5 p1 (s := (n0).toNat) (by omega) (by omega)
  try subst k0
  omega
def g_286_9_10 : vG := ([(20, [16, 2], [1], 71), (0, [16], [], 333), (44, [15, 4], [], 0), (22, [15, 14, 13], [1], 0), (90, [15], [], 0), (91, [15], [], 2147483647), (20, [14, 2], [1], 71), (0, [14], [], 333), (22, [13, 12, 5], [1], 0), (90, [13], [], -1), (91, [13], [], 19), (20, [12, 2], [1], 70), (0, [12], [], 332), (40, [10, 11], [], 0), (0, [11], [], 5), (22, [10, 9, 5], [1], 0), (90, [10], [], 0), (91, [10], [], 6), (20, [9, 2], [1], 66), (0, [9], [], 328), (41, [7, 8], [], 0), (0, [8], [], 4), (22, [7, 6, 5], [1], 0), (90, [7], [], 0), (91, [7], [], 6), (20, [6, 2], [1], 66), (0, [6], [], 328), (5000, [0, 1, 2, 3, 4, 5], [0, 1], 9), (0, [0], [], 285), (90, [1], [], 0), (91, [1], [], 19), (0, [2], [], 285), (90, [3], [], 0), (91, [3], [], 19), (90, [4], [], 0), (91, [4], [], 2147483647), (90, [5], [], 0), (91, [5], [], 19)], (70, [13], [], 20))
theorem c_286_9_10 {q0 : Nat} : vOkm T0 (eP e_286 L_286 A_286 mu_286 (some q0)) 2 g_286_9_10 := vOk_inI fun ρ η f0 f1 f2 f3 f4 f5 f6 f7 f8 f9 f10 f11 f12 f13 f14 f15 f16 f17 f18 f19 f20 f21 f22 f23 f24 f25 f26 f27 f28 f29 f30 f31 f32 f33 f34 f35 f36 f37 => q_286_11 (q0 := q0) (n0 := ρ 5) (n1 := ρ 4) (n2 := ρ 3) (n3 := ρ 2) (n4 := ρ 1) (n5 := ρ 0) (n6 := ρ 6) (n7 := ρ 7) (n8 := ρ 8) (n9 := ρ 9) (n10 := ρ 10) (n11 := ρ 11) (n12 := ρ 12) (n13 := ρ 13) (n14 := ρ 14) (n15 := ρ 15) (n16 := ρ 16) (H0 := η 0) (H1 := η 1) f37 f36 f35 f34 f33 f32 f31 f30 f29 f28 f27 f26 f25 f24 f23 f22 f21 f20 f19 f18 f17 f16 f15 f14 f13 f12 f11 f10 f9 f8 f7 f6 f5 f4 f3 f2 f1 f0
theorem q_286_12 {q0 : Nat} {n0 n1 n2 n3 n4 n5 n6 n7 n8 n9 n10 n11 n12 n13 n14 n15 n16 n17 : Int} {H0 H1 : gH} (f0 : n0 ≤ 19) (f1 : 0 ≤ n0) (f2 : n1 ≤ 2147483647) (f3 : 0 ≤ n1) (f4 : n2 ≤ 19) (f5 : 0 ≤ n2) (f6 : n3 = 285) (f7 : n4 ≤ 19) (f8 : 0 ≤ n4) (f9 : n5 = 285) (f10 : (hLe T0 H0 H1 ∧ hFr s_286.2.2.2.2 H0 H1 ∧ hWt T0 H1) ∧ (Ab_286_9 n5 n4 n3 n2 n1 n0 H0 H1 ∧ preb_286 n5 n4 H0) ∧ some q0 = some (mub_286_9 n5 n4 n3 n2 n1 n0 H0 H1)) (f11 : n6 = 328) (f12 : n6 = hV H1 (n3).toNat 66) (f13 : n7 ≤ 6) (f14 : 0 ≤ n7) (f15 : n7 = hV H1 (n6).toNat (n0).toNat) (f16 : n8 = 4) (f17 : n7 ≠ n8) (f18 : n9 = 328) (f19 : n9 = hV H1 (n3).toNat 66) (f20 : n10 ≤ 6) (f21 : 0 ≤ n10) (f22 : n10 = hV H1 (n9).toNat (n0).toNat) (f23 : n11 = 5) (f24 : n10 = n11) (f25 : n12 = 332) (f26 : n12 = hV H1 (n3).toNat 70) (f27 : n13 ≤ 19) (f28 : (-1) ≤ n13) (f29 : n13 = hV H1 (n12).toNat (n0).toNat) (f30 : n14 = 333) (f31 : n14 = hV H1 (n3).toNat 71) (f32 : n15 ≤ 2147483647) (f33 : 0 ≤ n15) (f34 : n15 = hV H1 (n14).toNat (n13).toNat) (f35 : n1 < n15) (f36 : n16 = 333) (f37 : n16 = hV H1 (n3).toNat 71) (f38 : n17 ≤ 2147483647) (f39 : 0 ≤ n17) (f40 : n17 = hV H1 (n16).toNat (n13).toNat) : 0 ≤ n13 := by
  have g4 := f10.2.1.1
  unfold Ab_286_9 at g4
  have g3 := f10.2.1.2
  unfold preb_286 at g3
  have e0 : hV H1 328 = hV H0 328 := fRow f10.1.2.1 328 kR_286_328
  have e1 : n7 = hV H0 328 (n0).toNat := (by rw [f11] at f15; exact f15 : n7 = hV H1 328 (n0).toNat).trans ((congrFun e0 _))
  have e2 : n10 = hV H0 328 (n0).toNat := (by rw [f18] at f22; exact f22 : n10 = hV H1 328 (n0).toNat).trans ((congrFun e0 _))
  have e3 : hV H1 332 = hV H0 332 := fRow f10.1.2.1 332 kR_286_332
  have e4 : n13 = hV H0 332 (n0).toNat := (by rw [f25] at f29; exact f29 : n13 = hV H1 332 (n0).toNat).trans ((congrFun e3 _))
  have e5 : hV H1 333 = hV H0 333 := fRow f10.1.2.1 333 kR_286_333
  have e6 : n15 = hV H0 333 (n13).toNat := (by rw [f30] at f34; exact f34 : n15 = hV H1 333 (n13).toNat).trans ((congrFun e5 _))
  have e7 : n17 = hV H0 333 (n13).toNat := (by rw [f36] at f40; exact f40 : n17 = hV H1 333 (n13).toNat).trans ((congrFun e5 _))
  have e9 : hV H1 285 64 = hV H0 285 64 := (f10.1.2.1.1 285 64 kF_286_285_64)
  have e10 : hV H1 296 = hV H0 296 := fRow f10.1.2.1 296 kR_286_296
  have e11 : hV H1 298 = hV H0 298 := fRow f10.1.2.1 298 kR_286_298
  have e12 : hV H1 300 = hV H0 300 := fRow f10.1.2.1 300 kR_286_300
  have e13 : hV H1 335 = hV H0 335 := fRow f10.1.2.1 335 kR_286_335
  have e14 : (0 : Int) ≤ hV H0 285 64 ∧ hV H0 285 64 ≤ 20 := bTo e9 (f10.1.2.2 285 64 _ _ kW_285_64)
  have k0 := g4.1
  have y0 := g4.2.1
  have y1 := g4.2.2
  have p0 := g3.1
  have p1 := g3.2
  try simp only [e9] at y0
  try simp only [e9, e10, e11, e12, e0, e3, e5, e13] at y1
  clear g3
  clear g4
  clear f12 f15 f19 f22 f26 f29 f31 f34 f37 f40 e0 e3 e5 e9 e10 e11 e12 e13
  clear f10
  subst e1
  subst e2
  subst e4
  subst e6
  subst e7
  try have t4 := SO4 p1 (s := (n0).toNat) (by omega) (by omega)
  try have t5 := SO5 p1 (s := (n0).toNat) (by omega) (by omega)
  try subst k0
  omega
def g_286_9_11 : vG := ([(22, [17, 16, 13], [1], 0), (90, [17], [], 0), (91, [17], [], 2147483647), (20, [16, 2], [1], 71), (0, [16], [], 333), (44, [15, 4], [], 0), (22, [15, 14, 13], [1], 0), (90, [15], [], 0), (91, [15], [], 2147483647), (20, [14, 2], [1], 71), (0, [14], [], 333), (22, [13, 12, 5], [1], 0), (90, [13], [], -1), (91, [13], [], 19), (20, [12, 2], [1], 70), (0, [12], [], 332), (40, [10, 11], [], 0), (0, [11], [], 5), (22, [10, 9, 5], [1], 0), (90, [10], [], 0), (91, [10], [], 6), (20, [9, 2], [1], 66), (0, [9], [], 328), (41, [7, 8], [], 0), (0, [8], [], 4), (22, [7, 6, 5], [1], 0), (90, [7], [], 0), (91, [7], [], 6), (20, [6, 2], [1], 66), (0, [6], [], 328), (5000, [0, 1, 2, 3, 4, 5], [0, 1], 9), (0, [0], [], 285), (90, [1], [], 0), (91, [1], [], 19), (0, [2], [], 285), (90, [3], [], 0), (91, [3], [], 19), (90, [4], [], 0), (91, [4], [], 2147483647), (90, [5], [], 0), (91, [5], [], 19)], (90, [13], [], 0))
theorem c_286_9_11 {q0 : Nat} : vOkm T0 (eP e_286 L_286 A_286 mu_286 (some q0)) 2 g_286_9_11 := vOk_inI fun ρ η f0 f1 f2 f3 f4 f5 f6 f7 f8 f9 f10 f11 f12 f13 f14 f15 f16 f17 f18 f19 f20 f21 f22 f23 f24 f25 f26 f27 f28 f29 f30 f31 f32 f33 f34 f35 f36 f37 f38 f39 f40 => q_286_12 (q0 := q0) (n0 := ρ 5) (n1 := ρ 4) (n2 := ρ 3) (n3 := ρ 2) (n4 := ρ 1) (n5 := ρ 0) (n6 := ρ 6) (n7 := ρ 7) (n8 := ρ 8) (n9 := ρ 9) (n10 := ρ 10) (n11 := ρ 11) (n12 := ρ 12) (n13 := ρ 13) (n14 := ρ 14) (n15 := ρ 15) (n16 := ρ 16) (n17 := ρ 17) (H0 := η 0) (H1 := η 1) f40 f39 f38 f37 f36 f35 f34 f33 f32 f31 f30 f29 f28 f27 f26 f25 f24 f23 f22 f21 f20 f19 f18 f17 f16 f15 f14 f13 f12 f11 f10 f9 f8 f7 f6 f5 f4 f3 f2 f1 f0
theorem q_286_13 {q0 : Nat} {n0 n1 n2 n3 n4 n5 n6 n7 n8 n9 n10 n11 n12 n13 n14 n15 n16 n17 : Int} {H0 H1 : gH} (f0 : n0 ≤ 19) (f1 : 0 ≤ n0) (f2 : n1 ≤ 2147483647) (f3 : 0 ≤ n1) (f4 : n2 ≤ 19) (f5 : 0 ≤ n2) (f6 : n3 = 285) (f7 : n4 ≤ 19) (f8 : 0 ≤ n4) (f9 : n5 = 285) (f10 : (hLe T0 H0 H1 ∧ hFr s_286.2.2.2.2 H0 H1 ∧ hWt T0 H1) ∧ (Ab_286_9 n5 n4 n3 n2 n1 n0 H0 H1 ∧ preb_286 n5 n4 H0) ∧ some q0 = some (mub_286_9 n5 n4 n3 n2 n1 n0 H0 H1)) (f11 : n6 = 328) (f12 : n6 = hV H1 (n3).toNat 66) (f13 : n7 ≤ 6) (f14 : 0 ≤ n7) (f15 : n7 = hV H1 (n6).toNat (n0).toNat) (f16 : n8 = 4) (f17 : n7 ≠ n8) (f18 : n9 = 328) (f19 : n9 = hV H1 (n3).toNat 66) (f20 : n10 ≤ 6) (f21 : 0 ≤ n10) (f22 : n10 = hV H1 (n9).toNat (n0).toNat) (f23 : n11 = 5) (f24 : n10 = n11) (f25 : n12 = 332) (f26 : n12 = hV H1 (n3).toNat 70) (f27 : n13 ≤ 19) (f28 : (-1) ≤ n13) (f29 : n13 = hV H1 (n12).toNat (n0).toNat) (f30 : n14 = 333) (f31 : n14 = hV H1 (n3).toNat 71) (f32 : n15 ≤ 2147483647) (f33 : 0 ≤ n15) (f34 : n15 = hV H1 (n14).toNat (n13).toNat) (f35 : n1 < n15) (f36 : n16 = 333) (f37 : n16 = hV H1 (n3).toNat 71) (f38 : n17 ≤ 2147483647) (f39 : 0 ≤ n17) (f40 : n17 = hV H1 (n16).toNat (n13).toNat) : Ab_286_9 n5 n4 n3 n2 n17 n13 H0 H1 ∧ ∀ q, some q0 = some q → mub_286_9 n5 n4 n3 n2 n17 n13 H0 H1 < q := by
  have g4 := f10.2.1.1
  unfold Ab_286_9 at g4
  have g3 := f10.2.1.2
  unfold preb_286 at g3
  have g5 := Option.some.inj f10.2.2
  unfold mub_286_9 at g5
  unfold Ab_286_9
  unfold mub_286_9
  have e0 : hV H1 328 = hV H0 328 := fRow f10.1.2.1 328 kR_286_328
  have e1 : n7 = hV H0 328 (n0).toNat := (by rw [f11] at f15; exact f15 : n7 = hV H1 328 (n0).toNat).trans ((congrFun e0 _))
  have e2 : n10 = hV H0 328 (n0).toNat := (by rw [f18] at f22; exact f22 : n10 = hV H1 328 (n0).toNat).trans ((congrFun e0 _))
  have e3 : hV H1 332 = hV H0 332 := fRow f10.1.2.1 332 kR_286_332
  have e4 : n13 = hV H0 332 (n0).toNat := (by rw [f25] at f29; exact f29 : n13 = hV H1 332 (n0).toNat).trans ((congrFun e3 _))
  have e5 : hV H1 333 = hV H0 333 := fRow f10.1.2.1 333 kR_286_333
  have e6 : n15 = hV H0 333 (n13).toNat := (by rw [f30] at f34; exact f34 : n15 = hV H1 333 (n13).toNat).trans ((congrFun e5 _))
  have e7 : n17 = hV H0 333 (n13).toNat := (by rw [f36] at f40; exact f40 : n17 = hV H1 333 (n13).toNat).trans ((congrFun e5 _))
  have e9 : hV H1 285 64 = hV H0 285 64 := (f10.1.2.1.1 285 64 kF_286_285_64)
  have e10 : hV H1 296 = hV H0 296 := fRow f10.1.2.1 296 kR_286_296
  have e11 : hV H1 298 = hV H0 298 := fRow f10.1.2.1 298 kR_286_298
  have e12 : hV H1 300 = hV H0 300 := fRow f10.1.2.1 300 kR_286_300
  have e13 : hV H1 335 = hV H0 335 := fRow f10.1.2.1 335 kR_286_335
  have e14 : (0 : Int) ≤ hV H0 285 64 ∧ hV H0 285 64 ≤ 20 := bTo e9 (f10.1.2.2 285 64 _ _ kW_285_64)
  try simp only [e9, e10, e11, e12, e0, e3, e5, e13]
  have k0 := g4.1
  have y0 := g4.2.1
  have y1 := g4.2.2
  have p0 := g3.1
  have p1 := g3.2
  try simp only [e9] at y0
  try simp only [e9, e10, e11, e12, e0, e3, e5, e13] at y1
  clear g3
  clear g4
  clear f12 f15 f19 f22 f26 f29 f31 f34 f37 f40 e0 e3 e5 e9 e10 e11 e12 e13
  clear f10
  subst e1
  subst e2
  subst e4
  subst e6
  subst e7
  try have t4 := SO4 p1 (s := (n0).toNat) (by omega) (by omega)
  try have t5 := SO5 p1 (s := (n0).toNat) (by omega) (by omega)

  refine ⟨?_, fun q hq => ?_⟩
  · exact ⟨by first | omega | trivial, by omega, ST_next y1 (by omega) (.inl ⟨by omega, by omega⟩) (by omega)⟩
  · have g6 := Option.some.inj hq
    subst g6
    omega
def g_286_9_12 : vG := ([(22, [17, 16, 13], [1], 0), (90, [17], [], 0), (91, [17], [], 2147483647), (20, [16, 2], [1], 71), (0, [16], [], 333), (44, [15, 4], [], 0), (22, [15, 14, 13], [1], 0), (90, [15], [], 0), (91, [15], [], 2147483647), (20, [14, 2], [1], 71), (0, [14], [], 333), (22, [13, 12, 5], [1], 0), (90, [13], [], -1), (91, [13], [], 19), (20, [12, 2], [1], 70), (0, [12], [], 332), (40, [10, 11], [], 0), (0, [11], [], 5), (22, [10, 9, 5], [1], 0), (90, [10], [], 0), (91, [10], [], 6), (20, [9, 2], [1], 66), (0, [9], [], 328), (41, [7, 8], [], 0), (0, [8], [], 4), (22, [7, 6, 5], [1], 0), (90, [7], [], 0), (91, [7], [], 6), (20, [6, 2], [1], 66), (0, [6], [], 328), (5000, [0, 1, 2, 3, 4, 5], [0, 1], 9), (0, [0], [], 285), (90, [1], [], 0), (91, [1], [], 19), (0, [2], [], 285), (90, [3], [], 0), (91, [3], [], 19), (90, [4], [], 0), (91, [4], [], 2147483647), (90, [5], [], 0), (91, [5], [], 19)], (4000, [2, 3, 17, 13], [1], 9))
theorem c_286_9_12 {q0 : Nat} : vOkm T0 (eP e_286 L_286 A_286 mu_286 (some q0)) 2 g_286_9_12 := vOk_inI fun ρ η f0 f1 f2 f3 f4 f5 f6 f7 f8 f9 f10 f11 f12 f13 f14 f15 f16 f17 f18 f19 f20 f21 f22 f23 f24 f25 f26 f27 f28 f29 f30 f31 f32 f33 f34 f35 f36 f37 f38 f39 f40 => q_286_13 (q0 := q0) (n0 := ρ 5) (n1 := ρ 4) (n2 := ρ 3) (n3 := ρ 2) (n4 := ρ 1) (n5 := ρ 0) (n6 := ρ 6) (n7 := ρ 7) (n8 := ρ 8) (n9 := ρ 9) (n10 := ρ 10) (n11 := ρ 11) (n12 := ρ 12) (n13 := ρ 13) (n14 := ρ 14) (n15 := ρ 15) (n16 := ρ 16) (n17 := ρ 17) (H0 := η 0) (H1 := η 1) f40 f39 f38 f37 f36 f35 f34 f33 f32 f31 f30 f29 f28 f27 f26 f25 f24 f23 f22 f21 f20 f19 f18 f17 f16 f15 f14 f13 f12 f11 f10 f9 f8 f7 f6 f5 f4 f3 f2 f1 f0
def p_286_9 : List vG := [g_286_9_0,
  g_286_9_1,
  g_286_9_2,
  g_286_9_3,
  g_286_9_4,
  g_286_9_5,
  g_286_9_6,
  g_286_9_7,
  g_286_9_8,
  g_286_9_9,
  g_286_9_10,
  g_286_9_11,
  g_286_9_12]
theorem r_286_9 : vCovO false (eRc e_286 L_286 cs_286 2000 (9, [(0, (3, 12, 285, 0)), (1, (0, 0, 19, 0)), (2, (0, 0, 2147483647, 0)), (3, (0, 0, 19, 0))])) p_286_9 = true := by decide +kernel
theorem m_286 (d : Nat) : eC e_286 (d + 1) := eC_ok (e := e_286) (L := L_286) (cs := cs_286) (n := 2000) (d := d + 0) (A := A_286) (μ := mu_286) (tp := false) (p0 := p_286_s) rfl trivial rfl (.inl rfl) (by decide +kernel) (fun z => nomatch z) r_286_s (allC c_286_s_0 allN) (allC (.inl ⟨p_286_9, r_286_9, fun q0 => (allC c_286_9_0 (allC c_286_9_1 (allC c_286_9_2 (allC c_286_9_3 (allC c_286_9_4 (allC c_286_9_5 (allC c_286_9_6 (allC c_286_9_7 (allC c_286_9_8 (allC c_286_9_9 (allC c_286_9_10 (allC c_286_9_11 (allC c_286_9_12 allN)))))))))))))⟩) allN)
/- MixStageModel.leansOnStale (I)Z -/
noncomputable def s_289 : vM := ([(3, 12, 285, 0), (0, 0, 19, 0)], (0, 0, 1, 0), 1, 0, [(12, 82), (580, 0), (588, 0), (596, 0), (604, 0), (612, 0)])
def preb_289 (a0 a1 : Int) (h : gH) : Prop := a1 < hV h 285 64 ∧ SO h ∧ PG h
def pre_289 : List Int → gH → Prop := fun xs h => match xs with
  | [a0, a1] => preb_289 a0 a1 h
  | _ => False
def postb_289 (r a0 a1 : Int) (h0 h : gH) : Prop := (¬ r = 0 → ∃ k : Nat, (k : Int) < hV h 285 64 ∧ LSp (hV h 285 64) (NXp (hV h 328) (hV h 332) (hV h 335) (hV h 296) (hV h 298) (hV h 300)) (a1).toNat k ∧ ¬ hV h 354 (k) = 0) ∧ (r = 0 → NOp (hV h 285 64) (NXp (hV h 328) (hV h 332) (hV h 335) (hV h 296) (hV h 298) (hV h 300)) (hV h 354) (a1).toNat (hV h 285 64))
def post_289 : List Int → gH → gH → Prop := fun xs h0 h => match xs with
  | [r, a0, a1] => postb_289 r a0 a1 h0 h
  | _ => True
noncomputable def e_289 : vE := (289, s_289, pre_289, post_289)
noncomputable def L_289 : List vE := [e_280]
def cs_289 : List vC := [(8, [(0, (3, 12, 285, 0)), (1, (0, 0, 19, 0)), (2, (0, -2147483648, 2147483647, 0)), (3, (0, 0, 20, 0))])]
def Ab_289_8 (a0 a1 x0 x1 x2 x3 : Int) (h0 h : gH) : Prop := x1 = a1 ∧ BTS x2 (LSp (hV h 285 64) (NXp (hV h 328) (hV h 332) (hV h 335) (hV h 296) (hV h 298) (hV h 300)) (a1).toNat) ∧ NOp (hV h 285 64) (NXp (hV h 328) (hV h 332) (hV h 335) (hV h 296) (hV h 298) (hV h 300)) (hV h 354) (a1).toNat x3
def mub_289_8 (a0 a1 x0 x1 x2 x3 : Int) (h0 h : gH) : Nat := (2147483648 - x3).toNat
def A_289 : Int → List Int → gH → gH → Prop := fun c xs h0 h => match c.toNat with
  | 8 => (match xs with
    | [a0, a1, x0, x1, x2, x3] => Ab_289_8 a0 a1 x0 x1 x2 x3 h0 h
    | _ => False)
  | _ => True
def mu_289 : Int → List Int → gH → gH → Nat := fun c xs h0 h => match c.toNat with
  | 8 => (match xs with
    | [a0, a1, x0, x1, x2, x3] => mub_289_8 a0 a1 x0 x1 x2 x3 h0 h
    | _ => 0)
  | _ => 0
theorem q_289_0 {n0 n1 : Int} {H0 : gH} (f0 : n0 ≤ 19) (f1 : 0 ≤ n0) (f2 : n1 = 285) (f3 : hWt T0 H0 ∧ preb_289 n1 n0 H0) : preb_280 n1 n0 H0 := by
  unfold preb_289 at f3
  unfold preb_280
  have e0 : (0 : Int) ≤ hV H0 285 64 ∧ hV H0 285 64 ≤ 20 := f3.1 285 64 _ _ kW_285_64
  have p0 := f3.2.1
  have p1 := f3.2.2.1
  have p2 := f3.2.2.2
  clear f3
  refine ⟨?_, ?_, ?_⟩ <;> first | assumption | omega | trivial
def g_289_s_0 : vG := ([(6000, [0, 1], [0], 0), (0, [0], [], 285), (90, [1], [], 0), (91, [1], [], 19)], (2280, [0, 1], [0], 0))
theorem c_289_s_0 : vOkm T0 (eP e_289 L_289 A_289 mu_289 none) 2 g_289_s_0 := vOk_inI fun ρ η f0 f1 f2 f3 => q_289_0 (n0 := ρ 1) (n1 := ρ 0) (H0 := η 0) f3 f2 f1 f0
theorem kR_280_354 : vFreeR s_280.2.2.2.2 354 = true := by decide +kernel
theorem q_289_1 {n0 n1 n2 n3 : Int} {H0 H1 : gH} (f0 : n0 ≤ 19) (f1 : 0 ≤ n0) (f2 : n1 = 285) (f3 : hWt T0 H0 ∧ preb_289 n1 n0 H0) (f4 : n2 ≤ 2147483647) (f5 : (-2147483648) ≤ n2) (f6 : (hLe T0 H0 H1 ∧ hFr s_280.2.2.2.2 H0 H1 ∧ ((0 : Int) = 0 → H1.length = H0.length) ∧ hWt T0 H1) ∧ postb_280 n2 n1 n0 H0 H1) (f7 : n3 = 0) : Ab_289_8 n1 n0 n1 n0 n2 n3 H0 H1 ∧ ∀ q, none = some q → mub_289_8 n1 n0 n1 n0 n2 n3 H0 H1 < q := by
  unfold preb_289 at f3
  unfold postb_280 at f6
  unfold Ab_289_8
  have e1 : hV H1 285 64 = hV H0 285 64 := (f6.1.2.1.1 285 64 kF_280_285_64)
  have e2 : hV H1 296 = hV H0 296 := fRow f6.1.2.1 296 kR_280_296
  have e3 : hV H1 298 = hV H0 298 := fRow f6.1.2.1 298 kR_280_298
  have e4 : hV H1 300 = hV H0 300 := fRow f6.1.2.1 300 kR_280_300
  have e5 : hV H1 328 = hV H0 328 := fRow f6.1.2.1 328 kR_280_328
  have e6 : hV H1 332 = hV H0 332 := fRow f6.1.2.1 332 kR_280_332
  have e7 : hV H1 335 = hV H0 335 := fRow f6.1.2.1 335 kR_280_335
  have e8 : hV H1 354 = hV H0 354 := fRow f6.1.2.1 354 kR_280_354
  have e9 : (0 : Int) ≤ hV H0 285 64 ∧ hV H0 285 64 ≤ 20 := f3.1 285 64 _ _ kW_285_64
  try simp only [e1, e2, e3, e4, e5, e6, e7, e8]
  have p0 := f3.2.1
  have p1 := f3.2.2.1
  have p2 := f3.2.2.2
  have r0_0 := f6.2
  try simp only [e1, e2, e3, e4, e5, e6, e7] at r0_0
  clear e1 e2 e3 e4 e5 e6 e7 e8
  clear f3 f6

  refine ⟨?_, fun q hq => ?_⟩
  · exact ⟨by first | omega | trivial, r0_0, (fun k hk _ => by omega)⟩
  · exact nomatch hq
def g_289_s_1 : vG := ([(0, [3], [], 0), (1280, [2, 0, 1], [0, 1], 0), (90, [2], [], -2147483648), (91, [2], [], 2147483647), (6000, [0, 1], [0], 0), (0, [0], [], 285), (90, [1], [], 0), (91, [1], [], 19)], (4000, [0, 1, 2, 3], [1], 8))
theorem c_289_s_1 : vOkm T0 (eP e_289 L_289 A_289 mu_289 none) 2 g_289_s_1 := vOk_inI fun ρ η f0 f1 f2 f3 f4 f5 f6 f7 => q_289_1 (n0 := ρ 1) (n1 := ρ 0) (n2 := ρ 2) (n3 := ρ 3) (H0 := η 0) (H1 := η 1) f7 f6 f5 f4 f3 f2 f1 f0
def p_289_s : List vG := [g_289_s_0,
  g_289_s_1]
theorem r_289_s : vCovO false (eR0 e_289 L_289 cs_289 2000) p_289_s = true := by decide +kernel
theorem kR_289_296 : vFreeR s_289.2.2.2.2 296 = true := by decide +kernel
theorem kR_289_298 : vFreeR s_289.2.2.2.2 298 = true := by decide +kernel
theorem kR_289_300 : vFreeR s_289.2.2.2.2 300 = true := by decide +kernel
theorem kR_289_328 : vFreeR s_289.2.2.2.2 328 = true := by decide +kernel
theorem kR_289_332 : vFreeR s_289.2.2.2.2 332 = true := by decide +kernel
theorem kR_289_335 : vFreeR s_289.2.2.2.2 335 = true := by decide +kernel
theorem kR_289_354 : vFreeR s_289.2.2.2.2 354 = true := by decide +kernel
theorem kF_289_285_64 : vFree s_289.2.2.2.2 285 64 = true := by decide +kernel
theorem q_289_2 {q0 : Nat} {n0 n1 n2 n3 n4 n5 n6 n7 : Int} {H0 H1 : gH} (f0 : n0 ≤ 20) (f1 : 0 ≤ n0) (f2 : n1 ≤ 2147483647) (f3 : (-2147483648) ≤ n1) (f4 : n2 ≤ 19) (f5 : 0 ≤ n2) (f6 : n3 = 285) (f7 : n4 ≤ 19) (f8 : 0 ≤ n4) (f9 : n5 = 285) (f10 : (hLe T0 H0 H1 ∧ hFr s_289.2.2.2.2 H0 H1 ∧ hWt T0 H1) ∧ (Ab_289_8 n5 n4 n3 n2 n1 n0 H0 H1 ∧ preb_289 n5 n4 H0) ∧ some q0 = some (mub_289_8 n5 n4 n3 n2 n1 n0 H0 H1)) (f11 : n6 ≤ 20) (f12 : 0 ≤ n6) (f13 : n6 = hV H1 (n3).toNat 64) (f14 : n6 ≤ n0) (f15 : n7 = 0) : postb_289 n7 n5 n4 H0 H1 := by
  have g4 := f10.2.1.1
  unfold Ab_289_8 at g4
  have g3 := f10.2.1.2
  unfold preb_289 at g3
  unfold postb_289
  have e1 : n6 = hV H0 285 64 := (by rw [f6] at f13; exact f13 : n6 = hV H1 285 64).trans ((f10.1.2.1.1 285 64 kF_289_285_64))
  have e2 : hV H1 285 64 = hV H0 285 64 := (f10.1.2.1.1 285 64 kF_289_285_64)
  have e3 : hV H1 296 = hV H0 296 := fRow f10.1.2.1 296 kR_289_296
  have e4 : hV H1 298 = hV H0 298 := fRow f10.1.2.1 298 kR_289_298
  have e5 : hV H1 300 = hV H0 300 := fRow f10.1.2.1 300 kR_289_300
  have e6 : hV H1 328 = hV H0 328 := fRow f10.1.2.1 328 kR_289_328
  have e7 : hV H1 332 = hV H0 332 := fRow f10.1.2.1 332 kR_289_332
  have e8 : hV H1 335 = hV H0 335 := fRow f10.1.2.1 335 kR_289_335
  have e9 : hV H1 354 = hV H0 354 := fRow f10.1.2.1 354 kR_289_354
  have e10 : (0 : Int) ≤ hV H0 285 64 ∧ hV H0 285 64 ≤ 20 := bTo e2 (f10.1.2.2 285 64 _ _ kW_285_64)
  try simp only [e2, e3, e4, e5, e6, e7, e8, e9]
  have k0 := g4.1
  have y0 := g4.2.1
  have y1 := g4.2.2
  have p0 := g3.1
  have p1 := g3.2.1
  have p2 := g3.2.2
  try simp only [e2, e3, e4, e5, e6, e7, e8] at y0
  try simp only [e2, e3, e4, e5, e6, e7, e8, e9] at y1
  clear g3
  clear g4
  clear f13 e2 e3 e4 e5 e6 e7 e8 e9
  clear f10
  subst e1

  exact ⟨fun z => by omega, fun _ => NO_le y1 (by omega)⟩
def g_289_8_0 : vG := ([(0, [7], [], 0), (43, [5, 6], [], 0), (20, [6, 2], [1], 64), (90, [6], [], 0), (91, [6], [], 20), (5000, [0, 1, 2, 3, 4, 5], [0, 1], 8), (0, [0], [], 285), (90, [1], [], 0), (91, [1], [], 19), (0, [2], [], 285), (90, [3], [], 0), (91, [3], [], 19), (90, [4], [], -2147483648), (91, [4], [], 2147483647), (90, [5], [], 0), (91, [5], [], 20)], (3000, [7], [1], 43))
theorem c_289_8_0 {q0 : Nat} : vOkm T0 (eP e_289 L_289 A_289 mu_289 (some q0)) 2 g_289_8_0 := vOk_inI fun ρ η f0 f1 f2 f3 f4 f5 f6 f7 f8 f9 f10 f11 f12 f13 f14 f15 => q_289_2 (q0 := q0) (n0 := ρ 5) (n1 := ρ 4) (n2 := ρ 3) (n3 := ρ 2) (n4 := ρ 1) (n5 := ρ 0) (n6 := ρ 6) (n7 := ρ 7) (H0 := η 0) (H1 := η 1) f15 f14 f13 f12 f11 f10 f9 f8 f7 f6 f5 f4 f3 f2 f1 f0
theorem q_289_3 {q0 : Nat} {n0 n1 n2 : Int} {H0 : gH} (f0 : 0 ≤ n0) (f1 : n1 ≤ 20) (f2 : n0 < n1) (f3 : n2 = w32 (n0 + 1)) : 0 ≤ n2 := by
  first
  | (have ix0 : n2 = n0 + 1 := Eq.trans f3 (w32_id (by omega) (by omega)); subst ix0; clear f3)
  | (unfold w32 at f3; have ix0 : n2 = n0 + 1 := (by omega); subst ix0)
  | skip
  try unfold w32 at f3
  omega
def g_289_8_1 : vG := ([(10, [11, 5], [], 1), (42, [5, 6], [], 0), (91, [6], [], 20), (90, [5], [], 0)], (90, [11], [], 0))
theorem c_289_8_1 {q0 : Nat} : vOkm T0 (eP e_289 L_289 A_289 mu_289 (some q0)) 2 g_289_8_1 := vOk_inI fun ρ η f0 f1 f2 f3 => q_289_3 (q0 := q0) (n0 := ρ 5) (n1 := ρ 6) (n2 := ρ 11) (H0 := η 0) f3 f2 f1 f0
theorem q_289_4 {q0 : Nat} {n0 n1 n2 : Int} {H0 : gH} (f0 : 0 ≤ n0) (f1 : n1 ≤ 20) (f2 : n0 < n1) (f3 : n2 = w32 (n0 + 1)) : n2 ≤ 20 := by
  first
  | (have ix0 : n2 = n0 + 1 := Eq.trans f3 (w32_id (by omega) (by omega)); subst ix0; clear f3)
  | (unfold w32 at f3; have ix0 : n2 = n0 + 1 := (by omega); subst ix0)
  | skip
  try unfold w32 at f3
  omega
def g_289_8_2 : vG := ([(10, [11, 5], [], 1), (42, [5, 6], [], 0), (91, [6], [], 20), (90, [5], [], 0)], (91, [11], [], 20))
theorem c_289_8_2 {q0 : Nat} : vOkm T0 (eP e_289 L_289 A_289 mu_289 (some q0)) 2 g_289_8_2 := vOk_inI fun ρ η f0 f1 f2 f3 => q_289_4 (q0 := q0) (n0 := ρ 5) (n1 := ρ 6) (n2 := ρ 11) (H0 := η 0) f3 f2 f1 f0
theorem q_289_5 {q0 : Nat} {n0 n1 n2 n3 n4 n5 n6 n7 n8 n9 n10 n11 : Int} {H0 H1 : gH} (f0 : n0 ≤ 20) (f1 : 0 ≤ n0) (f2 : n1 ≤ 2147483647) (f3 : (-2147483648) ≤ n1) (f4 : n2 ≤ 19) (f5 : 0 ≤ n2) (f6 : n3 = 285) (f7 : n4 ≤ 19) (f8 : 0 ≤ n4) (f9 : n5 = 285) (f10 : (hLe T0 H0 H1 ∧ hFr s_289.2.2.2.2 H0 H1 ∧ hWt T0 H1) ∧ (Ab_289_8 n5 n4 n3 n2 n1 n0 H0 H1 ∧ preb_289 n5 n4 H0) ∧ some q0 = some (mub_289_8 n5 n4 n3 n2 n1 n0 H0 H1)) (f11 : n6 ≤ 20) (f12 : 0 ≤ n6) (f13 : n6 = hV H1 (n3).toNat 64) (f14 : n0 < n6) (f15 : n7 = o32 (fun x y => x >>> (y &&& 31)) n1 n0) (f16 : n8 = 1) (f17 : n9 = o32 (fun x y => x &&& y) n7 n8) (f18 : n10 = 1) (f19 : n9 ≠ n10) (f20 : n11 = w32 (n0 + 1)) : Ab_289_8 n5 n4 n3 n2 n1 n11 H0 H1 ∧ ∀ q, some q0 = some q → mub_289_8 n5 n4 n3 n2 n1 n11 H0 H1 < q := by
  have g4 := f10.2.1.1
  unfold Ab_289_8 at g4
  have g3 := f10.2.1.2
  unfold preb_289 at g3
  have g5 := Option.some.inj f10.2.2
  unfold mub_289_8 at g5
  unfold Ab_289_8
  unfold mub_289_8
  have e1 : n6 = hV H0 285 64 := (by rw [f6] at f13; exact f13 : n6 = hV H1 285 64).trans ((f10.1.2.1.1 285 64 kF_289_285_64))
  have e2 : hV H1 285 64 = hV H0 285 64 := (f10.1.2.1.1 285 64 kF_289_285_64)
  have e3 : hV H1 296 = hV H0 296 := fRow f10.1.2.1 296 kR_289_296
  have e4 : hV H1 298 = hV H0 298 := fRow f10.1.2.1 298 kR_289_298
  have e5 : hV H1 300 = hV H0 300 := fRow f10.1.2.1 300 kR_289_300
  have e6 : hV H1 328 = hV H0 328 := fRow f10.1.2.1 328 kR_289_328
  have e7 : hV H1 332 = hV H0 332 := fRow f10.1.2.1 332 kR_289_332
  have e8 : hV H1 335 = hV H0 335 := fRow f10.1.2.1 335 kR_289_335
  have e9 : hV H1 354 = hV H0 354 := fRow f10.1.2.1 354 kR_289_354
  have e10 : (0 : Int) ≤ hV H0 285 64 ∧ hV H0 285 64 ≤ 20 := bTo e2 (f10.1.2.2 285 64 _ _ kW_285_64)
  try simp only [e2, e3, e4, e5, e6, e7, e8, e9]
  have k0 := g4.1
  have y0 := g4.2.1
  have y1 := g4.2.2
  have p0 := g3.1
  have p1 := g3.2.1
  have p2 := g3.2.2
  try simp only [e2, e3, e4, e5, e6, e7, e8] at y0
  try simp only [e2, e3, e4, e5, e6, e7, e8, e9] at y1
  clear g3
  clear g4
  clear f13 e2 e3 e4 e5 e6 e7 e8 e9
  clear f10
  subst e1
  have b17 := o32_and_r f17 (by omega) (by omega)
  first
  | (have ix0 : n11 = n0 + 1 := Eq.trans f20 (w32_iv (Iad (Iat f1 f0) (IC 1)) (by decide)); subst ix0; clear f20)
  | (have ix0 : n11 = n0 + 1 := Eq.trans f20 (w32_id (by omega) (by omega)); subst ix0; clear f20)
  | (unfold w32 at f20; have ix0 : n11 = n0 + 1 := (by omega); subst ix0)
  | skip
  try unfold w32 at f20

  have tb := bt_test f15 f17 (by omega) (by omega) (by omega)
  refine ⟨?_, fun q hq => ?_⟩
  · exact ⟨by first | omega | trivial, y0, NO_step y1 (by omega) (by omega) (fun z => by have := tb.1.mpr ((y0 _ (by omega)).mpr z); omega)⟩
  · have g6 := Option.some.inj hq
    subst g6
    omega
def g_289_8_3 : vG := ([(10, [11, 5], [], 1), (41, [9, 10], [], 0), (0, [10], [], 1), (4, [9, 7, 8], [], 0), (0, [8], [], 1), (8, [7, 4, 5], [], 0), (42, [5, 6], [], 0), (20, [6, 2], [1], 64), (90, [6], [], 0), (91, [6], [], 20), (5000, [0, 1, 2, 3, 4, 5], [0, 1], 8), (0, [0], [], 285), (90, [1], [], 0), (91, [1], [], 19), (0, [2], [], 285), (90, [3], [], 0), (91, [3], [], 19), (90, [4], [], -2147483648), (91, [4], [], 2147483647), (90, [5], [], 0), (91, [5], [], 20)], (4000, [2, 3, 4, 11], [1], 8))
theorem c_289_8_3 {q0 : Nat} : vOkm T0 (eP e_289 L_289 A_289 mu_289 (some q0)) 2 g_289_8_3 := vOk_inI fun ρ η f0 f1 f2 f3 f4 f5 f6 f7 f8 f9 f10 f11 f12 f13 f14 f15 f16 f17 f18 f19 f20 => q_289_5 (q0 := q0) (n0 := ρ 5) (n1 := ρ 4) (n2 := ρ 3) (n3 := ρ 2) (n4 := ρ 1) (n5 := ρ 0) (n6 := ρ 6) (n7 := ρ 7) (n8 := ρ 8) (n9 := ρ 9) (n10 := ρ 10) (n11 := ρ 11) (H0 := η 0) (H1 := η 1) f20 f19 f18 f17 f16 f15 f14 f13 f12 f11 f10 f9 f8 f7 f6 f5 f4 f3 f2 f1 f0
theorem q_289_6 {q0 : Nat} {n0 n1 : Int} {H0 : gH} (f0 : 0 ≤ n0) (f1 : n1 ≤ 20) (f2 : n0 < n1) : 0 ≤ n0 ∧ n0 < 20 := by
  omega
def g_289_8_4 : vG := ([(42, [5, 6], [], 0), (91, [6], [], 20), (90, [5], [], 0)], (70, [5], [], 20))
theorem c_289_8_4 {q0 : Nat} : vOkm T0 (eP e_289 L_289 A_289 mu_289 (some q0)) 2 g_289_8_4 := vOk_inI fun ρ η f0 f1 f2 => q_289_6 (q0 := q0) (n0 := ρ 5) (n1 := ρ 6) (H0 := η 0) f2 f1 f0
def g_289_8_5 : vG := ([(10, [13, 5], [], 1), (42, [5, 6], [], 0), (91, [6], [], 20), (90, [5], [], 0)], (90, [13], [], 0))
theorem c_289_8_5 {q0 : Nat} : vOkm T0 (eP e_289 L_289 A_289 mu_289 (some q0)) 2 g_289_8_5 := vOk_inI fun ρ η f0 f1 f2 f3 => q_289_3 (q0 := q0) (n0 := ρ 5) (n1 := ρ 6) (n2 := ρ 13) (H0 := η 0) f3 f2 f1 f0
def g_289_8_6 : vG := ([(10, [13, 5], [], 1), (42, [5, 6], [], 0), (91, [6], [], 20), (90, [5], [], 0)], (91, [13], [], 20))
theorem c_289_8_6 {q0 : Nat} : vOkm T0 (eP e_289 L_289 A_289 mu_289 (some q0)) 2 g_289_8_6 := vOk_inI fun ρ η f0 f1 f2 f3 => q_289_4 (q0 := q0) (n0 := ρ 5) (n1 := ρ 6) (n2 := ρ 13) (H0 := η 0) f3 f2 f1 f0
theorem q_289_7 {q0 : Nat} {n0 n1 n2 n3 n4 n5 n6 n7 n8 n9 n10 n11 n12 n13 : Int} {H0 H1 : gH} (f0 : n0 ≤ 20) (f1 : 0 ≤ n0) (f2 : n1 ≤ 2147483647) (f3 : (-2147483648) ≤ n1) (f4 : n2 ≤ 19) (f5 : 0 ≤ n2) (f6 : n3 = 285) (f7 : n4 ≤ 19) (f8 : 0 ≤ n4) (f9 : n5 = 285) (f10 : (hLe T0 H0 H1 ∧ hFr s_289.2.2.2.2 H0 H1 ∧ hWt T0 H1) ∧ (Ab_289_8 n5 n4 n3 n2 n1 n0 H0 H1 ∧ preb_289 n5 n4 H0) ∧ some q0 = some (mub_289_8 n5 n4 n3 n2 n1 n0 H0 H1)) (f11 : n6 ≤ 20) (f12 : 0 ≤ n6) (f13 : n6 = hV H1 (n3).toNat 64) (f14 : n0 < n6) (f15 : n7 = o32 (fun x y => x >>> (y &&& 31)) n1 n0) (f16 : n8 = 1) (f17 : n9 = o32 (fun x y => x &&& y) n7 n8) (f18 : n10 = 1) (f19 : n9 = n10) (f20 : n11 = 354) (f21 : n11 = hV H1 (n3).toNat 96) (f22 : n12 ≤ 1) (f23 : 0 ≤ n12) (f24 : n12 = hV H1 (n11).toNat (n0).toNat) (f25 : n12 = 0) (f26 : n13 = w32 (n0 + 1)) : Ab_289_8 n5 n4 n3 n2 n1 n13 H0 H1 ∧ ∀ q, some q0 = some q → mub_289_8 n5 n4 n3 n2 n1 n13 H0 H1 < q := by
  have g4 := f10.2.1.1
  unfold Ab_289_8 at g4
  have g3 := f10.2.1.2
  unfold preb_289 at g3
  have g5 := Option.some.inj f10.2.2
  unfold mub_289_8 at g5
  unfold Ab_289_8
  unfold mub_289_8
  have e1 : n6 = hV H0 285 64 := (by rw [f6] at f13; exact f13 : n6 = hV H1 285 64).trans ((f10.1.2.1.1 285 64 kF_289_285_64))
  have e2 : hV H1 354 = hV H0 354 := fRow f10.1.2.1 354 kR_289_354
  have e3 : n12 = hV H0 354 (n0).toNat := (by rw [f20] at f24; exact f24 : n12 = hV H1 354 (n0).toNat).trans ((congrFun e2 _))
  have e4 : hV H1 285 64 = hV H0 285 64 := (f10.1.2.1.1 285 64 kF_289_285_64)
  have e5 : hV H1 296 = hV H0 296 := fRow f10.1.2.1 296 kR_289_296
  have e6 : hV H1 298 = hV H0 298 := fRow f10.1.2.1 298 kR_289_298
  have e7 : hV H1 300 = hV H0 300 := fRow f10.1.2.1 300 kR_289_300
  have e8 : hV H1 328 = hV H0 328 := fRow f10.1.2.1 328 kR_289_328
  have e9 : hV H1 332 = hV H0 332 := fRow f10.1.2.1 332 kR_289_332
  have e10 : hV H1 335 = hV H0 335 := fRow f10.1.2.1 335 kR_289_335
  have e11 : (0 : Int) ≤ hV H0 285 64 ∧ hV H0 285 64 ≤ 20 := bTo e4 (f10.1.2.2 285 64 _ _ kW_285_64)
  try simp only [e4, e5, e6, e7, e8, e9, e10, e2]
  have k0 := g4.1
  have y0 := g4.2.1
  have y1 := g4.2.2
  have p0 := g3.1
  have p1 := g3.2.1
  have p2 := g3.2.2
  try simp only [e4, e5, e6, e7, e8, e9, e10] at y0
  try simp only [e4, e5, e6, e7, e8, e9, e10, e2] at y1
  clear g3
  clear g4
  clear f13 f21 f24 e2 e4 e5 e6 e7 e8 e9 e10
  clear f10
  subst e1
  subst e3
  have b17 := o32_and_r f17 (by omega) (by omega)
  first
  | (have ix0 : n13 = n0 + 1 := Eq.trans f26 (w32_iv (Iad (Iat f1 f0) (IC 1)) (by decide)); subst ix0; clear f26)
  | (have ix0 : n13 = n0 + 1 := Eq.trans f26 (w32_id (by omega) (by omega)); subst ix0; clear f26)
  | (unfold w32 at f26; have ix0 : n13 = n0 + 1 := (by omega); subst ix0)
  | skip
  try unfold w32 at f26

  have tb := bt_test f15 f17 (by omega) (by omega) (by omega)
  refine ⟨?_, fun q hq => ?_⟩
  · exact ⟨by first | omega | trivial, y0, NO_step y1 (by omega) (by omega) (fun z => by have := tb.1.mpr ((y0 _ (by omega)).mpr z); omega)⟩
  · have g6 := Option.some.inj hq
    subst g6
    omega
def g_289_8_7 : vG := ([(10, [13, 5], [], 1), (30, [12], [], 0), (22, [12, 11, 5], [1], 0), (90, [12], [], 0), (91, [12], [], 1), (20, [11, 2], [1], 96), (0, [11], [], 354), (40, [9, 10], [], 0), (0, [10], [], 1), (4, [9, 7, 8], [], 0), (0, [8], [], 1), (8, [7, 4, 5], [], 0), (42, [5, 6], [], 0), (20, [6, 2], [1], 64), (90, [6], [], 0), (91, [6], [], 20), (5000, [0, 1, 2, 3, 4, 5], [0, 1], 8), (0, [0], [], 285), (90, [1], [], 0), (91, [1], [], 19), (0, [2], [], 285), (90, [3], [], 0), (91, [3], [], 19), (90, [4], [], -2147483648), (91, [4], [], 2147483647), (90, [5], [], 0), (91, [5], [], 20)], (4000, [2, 3, 4, 13], [1], 8))
theorem c_289_8_7 {q0 : Nat} : vOkm T0 (eP e_289 L_289 A_289 mu_289 (some q0)) 2 g_289_8_7 := vOk_inI fun ρ η f0 f1 f2 f3 f4 f5 f6 f7 f8 f9 f10 f11 f12 f13 f14 f15 f16 f17 f18 f19 f20 f21 f22 f23 f24 f25 f26 => q_289_7 (q0 := q0) (n0 := ρ 5) (n1 := ρ 4) (n2 := ρ 3) (n3 := ρ 2) (n4 := ρ 1) (n5 := ρ 0) (n6 := ρ 6) (n7 := ρ 7) (n8 := ρ 8) (n9 := ρ 9) (n10 := ρ 10) (n11 := ρ 11) (n12 := ρ 12) (n13 := ρ 13) (H0 := η 0) (H1 := η 1) f26 f25 f24 f23 f22 f21 f20 f19 f18 f17 f16 f15 f14 f13 f12 f11 f10 f9 f8 f7 f6 f5 f4 f3 f2 f1 f0
theorem q_289_8 {q0 : Nat} {n0 n1 n2 n3 n4 n5 n6 n7 n8 n9 n10 n11 n12 n13 : Int} {H0 H1 : gH} (f0 : n0 ≤ 20) (f1 : 0 ≤ n0) (f2 : n1 ≤ 2147483647) (f3 : (-2147483648) ≤ n1) (f4 : n2 ≤ 19) (f5 : 0 ≤ n2) (f6 : n3 = 285) (f7 : n4 ≤ 19) (f8 : 0 ≤ n4) (f9 : n5 = 285) (f10 : (hLe T0 H0 H1 ∧ hFr s_289.2.2.2.2 H0 H1 ∧ hWt T0 H1) ∧ (Ab_289_8 n5 n4 n3 n2 n1 n0 H0 H1 ∧ preb_289 n5 n4 H0) ∧ some q0 = some (mub_289_8 n5 n4 n3 n2 n1 n0 H0 H1)) (f11 : n6 ≤ 20) (f12 : 0 ≤ n6) (f13 : n6 = hV H1 (n3).toNat 64) (f14 : n0 < n6) (f15 : n7 = o32 (fun x y => x >>> (y &&& 31)) n1 n0) (f16 : n8 = 1) (f17 : n9 = o32 (fun x y => x &&& y) n7 n8) (f18 : n10 = 1) (f19 : n9 = n10) (f20 : n11 = 354) (f21 : n11 = hV H1 (n3).toNat 96) (f22 : n12 ≤ 1) (f23 : 0 ≤ n12) (f24 : n12 = hV H1 (n11).toNat (n0).toNat) (f25 : n12 ≠ 0) (f26 : n13 = 1) : postb_289 n13 n5 n4 H0 H1 := by
  have g4 := f10.2.1.1
  unfold Ab_289_8 at g4
  have g3 := f10.2.1.2
  unfold preb_289 at g3
  unfold postb_289
  have e1 : n6 = hV H0 285 64 := (by rw [f6] at f13; exact f13 : n6 = hV H1 285 64).trans ((f10.1.2.1.1 285 64 kF_289_285_64))
  have e2 : hV H1 354 = hV H0 354 := fRow f10.1.2.1 354 kR_289_354
  have e3 : n12 = hV H0 354 (n0).toNat := (by rw [f20] at f24; exact f24 : n12 = hV H1 354 (n0).toNat).trans ((congrFun e2 _))
  have e4 : hV H1 285 64 = hV H0 285 64 := (f10.1.2.1.1 285 64 kF_289_285_64)
  have e5 : hV H1 296 = hV H0 296 := fRow f10.1.2.1 296 kR_289_296
  have e6 : hV H1 298 = hV H0 298 := fRow f10.1.2.1 298 kR_289_298
  have e7 : hV H1 300 = hV H0 300 := fRow f10.1.2.1 300 kR_289_300
  have e8 : hV H1 328 = hV H0 328 := fRow f10.1.2.1 328 kR_289_328
  have e9 : hV H1 332 = hV H0 332 := fRow f10.1.2.1 332 kR_289_332
  have e10 : hV H1 335 = hV H0 335 := fRow f10.1.2.1 335 kR_289_335
  have e11 : (0 : Int) ≤ hV H0 285 64 ∧ hV H0 285 64 ≤ 20 := bTo e4 (f10.1.2.2 285 64 _ _ kW_285_64)
  try simp only [e4, e5, e6, e7, e8, e9, e10, e2]
  have k0 := g4.1
  have y0 := g4.2.1
  have y1 := g4.2.2
  have p0 := g3.1
  have p1 := g3.2.1
  have p2 := g3.2.2
  try simp only [e4, e5, e6, e7, e8, e9, e10] at y0
  try simp only [e4, e5, e6, e7, e8, e9, e10, e2] at y1
  clear g3
  clear g4
  clear f13 f21 f24 e2 e4 e5 e6 e7 e8 e9 e10
  clear f10
  subst e1
  subst e3
  have b17 := o32_and_r f17 (by omega) (by omega)

  have tb := bt_test f15 f17 (by omega) (by omega) (by omega)
  exact ⟨fun _ => ⟨(n0).toNat, by omega, (y0 _ (by omega)).mp (tb.1.mp (by omega)), by omega⟩, fun z => by omega⟩
def g_289_8_8 : vG := ([(0, [13], [], 1), (31, [12], [], 0), (22, [12, 11, 5], [1], 0), (90, [12], [], 0), (91, [12], [], 1), (20, [11, 2], [1], 96), (0, [11], [], 354), (40, [9, 10], [], 0), (0, [10], [], 1), (4, [9, 7, 8], [], 0), (0, [8], [], 1), (8, [7, 4, 5], [], 0), (42, [5, 6], [], 0), (20, [6, 2], [1], 64), (90, [6], [], 0), (91, [6], [], 20), (5000, [0, 1, 2, 3, 4, 5], [0, 1], 8), (0, [0], [], 285), (90, [1], [], 0), (91, [1], [], 19), (0, [2], [], 285), (90, [3], [], 0), (91, [3], [], 19), (90, [4], [], -2147483648), (91, [4], [], 2147483647), (90, [5], [], 0), (91, [5], [], 20)], (3000, [13], [1], 35))
theorem c_289_8_8 {q0 : Nat} : vOkm T0 (eP e_289 L_289 A_289 mu_289 (some q0)) 2 g_289_8_8 := vOk_inI fun ρ η f0 f1 f2 f3 f4 f5 f6 f7 f8 f9 f10 f11 f12 f13 f14 f15 f16 f17 f18 f19 f20 f21 f22 f23 f24 f25 f26 => q_289_8 (q0 := q0) (n0 := ρ 5) (n1 := ρ 4) (n2 := ρ 3) (n3 := ρ 2) (n4 := ρ 1) (n5 := ρ 0) (n6 := ρ 6) (n7 := ρ 7) (n8 := ρ 8) (n9 := ρ 9) (n10 := ρ 10) (n11 := ρ 11) (n12 := ρ 12) (n13 := ρ 13) (H0 := η 0) (H1 := η 1) f26 f25 f24 f23 f22 f21 f20 f19 f18 f17 f16 f15 f14 f13 f12 f11 f10 f9 f8 f7 f6 f5 f4 f3 f2 f1 f0
def p_289_8 : List vG := [g_289_8_0,
  g_289_8_1,
  g_289_8_2,
  g_289_8_3,
  g_289_8_4,
  g_289_8_5,
  g_289_8_6,
  g_289_8_7,
  g_289_8_8]
theorem r_289_8 : vCovO false (eRc e_289 L_289 cs_289 2000 (8, [(0, (3, 12, 285, 0)), (1, (0, 0, 19, 0)), (2, (0, -2147483648, 2147483647, 0)), (3, (0, 0, 20, 0))])) p_289_8 = true := by decide +kernel
theorem m_289 (d : Nat) : eC e_289 (d + 6) := eC_ok (e := e_289) (L := L_289) (cs := cs_289) (n := 2000) (d := d + 5) (A := A_289) (μ := mu_289) (tp := false) (p0 := p_289_s) rfl ⟨m_280 d, trivial⟩ rfl (.inl rfl) (by decide +kernel) (fun z => nomatch z) r_289_s (allC c_289_s_0 (allC c_289_s_1 allN)) (allC (.inl ⟨p_289_8, r_289_8, fun q0 => (allC c_289_8_0 (allC c_289_8_1 (allC c_289_8_2 (allC c_289_8_3 (allC c_289_8_4 (allC c_289_8_5 (allC c_289_8_6 (allC c_289_8_7 (allC c_289_8_8 allN)))))))))⟩) allN)
