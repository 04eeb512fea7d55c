/-! CONTRACTS of methods (printed by wip/gen/emit.py). -/
/- MixStageModel.rootOf (I)I -/
noncomputable def s_264 : vM := ([(3, 12, 285, 0), (0, -2147483648, 2147483647, 0)], (0, 0, 19, 0), 1, 0, [])
def preb_264 (a0 a1 : Int) (h : gH) : Prop := 0 ≤ a1 ∧ a1 < hV h 285 64 ∧ SO h
def pre_264 : List Int → gH → Prop := fun xs h => match xs with
  | [a0, a1] => preb_264 a0 a1 h
  | _ => False
def postb_264 (r a0 a1 : Int) (h0 h : gH) : Prop := 0 ≤ r ∧ r < hV h 285 64
def post_264 : List Int → gH → gH → Prop := fun xs h0 h => match xs with
  | [r, a0, a1] => postb_264 r a0 a1 h0 h
  | _ => True
noncomputable def e_264 : vE := (264, s_264, pre_264, post_264)
noncomputable def L_264 : List vE := []
def cs_264 : List vC := [(2, [(0, (3, 12, 285, 0)), (1, (0, -2147483648, 2147483647, 0)), (2, (0, 0, 19, 0))])]
def Ab_264_2 (a0 a1 x0 x1 x2 : Int) (h0 h : gH) : Prop := x1 = a1 ∧ x2 < hV h 285 64
def mub_264_2 (a0 a1 x0 x1 x2 : Int) (h0 h : gH) : Nat := x2.toNat
def A_264 : Int → List Int → gH → gH → Prop := fun c xs h0 h => match c.toNat with
  | 2 => (match xs with
    | [a0, a1, x0, x1, x2] => Ab_264_2 a0 a1 x0 x1 x2 h0 h
    | _ => False)
  | _ => True
def mu_264 : Int → List Int → gH → gH → Nat := fun c xs h0 h => match c.toNat with
  | 2 => (match xs with
    | [a0, a1, x0, x1, x2] => mub_264_2 a0 a1 x0 x1 x2 h0 h
    | _ => 0)
  | _ => 0
theorem q_264_0 {n0 n1 : Int} {H0 : gH} (f0 : n0 ≤ 2147483647) (f1 : (-2147483648) ≤ n0) (f2 : n1 = 285) (f3 : hWt T0 H0 ∧ preb_264 n1 n0 H0) : 0 ≤ n0 := by
  unfold preb_264 at f3
  have e0 : (0 : Int) ≤ hV H0 285 64 ∧ hV H0 285 64 ≤ 20 := f3.1 285 64 _ _ kW_285_64
  have p0 := f3.2.1
  have p1 := f3.2.2.1
  have p2 := f3.2.2.2
  omega
theorem c_264_s_0 : vOkm T0 (eP e_264 L_264 A_264 mu_264 none) 2 ([(6000, [0, 1], [0], 0), (0, [0], [], 285), (90, [1], [], -2147483648), (91, [1], [], 2147483647)], (90, [1], [], 0)) := vOk_inI fun ρ η f0 f1 f2 f3 => q_264_0 (n0 := ρ 1) (n1 := ρ 0) (H0 := η 0) f3 f2 f1 f0
theorem q_264_1 {n0 n1 : Int} {H0 : gH} (f0 : n0 ≤ 2147483647) (f1 : (-2147483648) ≤ n0) (f2 : n1 = 285) (f3 : hWt T0 H0 ∧ preb_264 n1 n0 H0) : n0 ≤ 19 := by
  unfold preb_264 at f3
  have e0 : (0 : Int) ≤ hV H0 285 64 ∧ hV H0 285 64 ≤ 20 := f3.1 285 64 _ _ kW_285_64
  have p0 := f3.2.1
  have p1 := f3.2.2.1
  have p2 := f3.2.2.2
  omega
theorem c_264_s_1 : vOkm T0 (eP e_264 L_264 A_264 mu_264 none) 2 ([(6000, [0, 1], [0], 0), (0, [0], [], 285), (90, [1], [], -2147483648), (91, [1], [], 2147483647)], (91, [1], [], 19)) := vOk_inI fun ρ η f0 f1 f2 f3 => q_264_1 (n0 := ρ 1) (n1 := ρ 0) (H0 := η 0) f3 f2 f1 f0
theorem q_264_2 {n0 n1 : Int} {H0 : gH} (f0 : n0 ≤ 2147483647) (f1 : (-2147483648) ≤ n0) (f2 : n1 = 285) (f3 : hWt T0 H0 ∧ preb_264 n1 n0 H0) : Ab_264_2 n1 n0 n1 n0 n0 H0 H0 ∧ ∀ q, none = some q → mub_264_2 n1 n0 n1 n0 n0 H0 H0 < q := by
  unfold preb_264 at f3
  unfold Ab_264_2
  have e0 : (0 : Int) ≤ hV H0 285 64 ∧ hV H0 285 64 ≤ 20 := f3.1 285 64 _ _ kW_285_64
  have p0 := f3.2.1
  have p1 := f3.2.2.1
  have p2 := f3.2.2.2
  refine ⟨?_, fun q hq => ?_⟩
  · refine ⟨?_, ?_⟩ <;> first | assumption | omega | trivial
  · exact nomatch hq
theorem c_264_s_2 : vOkm T0 (eP e_264 L_264 A_264 mu_264 none) 2 ([(6000, [0, 1], [0], 0), (0, [0], [], 285), (90, [1], [], -2147483648), (91, [1], [], 2147483647)], (4000, [0, 1, 1], [0], 2)) := vOk_inI fun ρ η f0 f1 f2 f3 => q_264_2 (n0 := ρ 1) (n1 := ρ 0) (H0 := η 0) f3 f2 f1 f0
def p_264_s : List vG := [([(6000, [0, 1], [0], 0), (0, [0], [], 285), (90, [1], [], -2147483648), (91, [1], [], 2147483647)], (90, [1], [], 0)),
  ([(6000, [0, 1], [0], 0), (0, [0], [], 285), (90, [1], [], -2147483648), (91, [1], [], 2147483647)], (91, [1], [], 19)),
  ([(6000, [0, 1], [0], 0), (0, [0], [], 285), (90, [1], [], -2147483648), (91, [1], [], 2147483647)], (4000, [0, 1, 1], [0], 2))]
theorem r_264_s : vCovO false (eR0 e_264 L_264 cs_264 2000) p_264_s = true := by decide +kernel
theorem kR_264_328 : vFreeR s_264.2.2.2.2 328 = true := by decide +kernel
theorem kF_264_285_64 : vFree s_264.2.2.2.2 285 64 = true := by decide +kernel
theorem q_264_3 {q0 : Nat} {n0 n1 n2 n3 n4 n5 n6 n7 : Int} {H0 H1 : gH} (f0 : n0 ≤ 19) (f1 : 0 ≤ n0) (f2 : n1 ≤ 2147483647) (f3 : (-2147483648) ≤ n1) (f4 : n2 = 285) (f5 : n3 ≤ 2147483647) (f6 : (-2147483648) ≤ n3) (f7 : n4 = 285) (f8 : (hLe T0 H0 H1 ∧ hFr s_264.2.2.2.2 H0 H1 ∧ hWt T0 H1) ∧ (Ab_264_2 n4 n3 n2 n1 n0 H0 H1 ∧ preb_264 n4 n3 H0) ∧ some q0 = some (mub_264_2 n4 n3 n2 n1 n0 H0 H1)) (f9 : n5 = 328) (f10 : n5 = hV H1 (n2).toNat 66) (f11 : n6 ≤ 6) (f12 : 0 ≤ n6) (f13 : n6 = hV H1 (n5).toNat (n0).toNat) (f14 : n7 = 4) (f15 : n6 ≠ n7) : postb_264 n0 n4 n3 H0 H1 := by
  have g4 := f8.2.1.1
  unfold Ab_264_2 at g4
  have g3 := f8.2.1.2
  unfold preb_264 at g3
  unfold postb_264
  have e1 : n6 = hV H0 328 (n0).toNat := (by rw [f9] at f13; exact f13 : n6 = hV H1 328 (n0).toNat).trans ((congrFun (fRow f8.1.2.1 328 kR_264_328) _))
  have e3 : hV H1 285 64 = hV H0 285 64 := (f8.1.2.1.1 285 64 kF_264_285_64)
  have e4 : (0 : Int) ≤ hV H0 285 64 ∧ hV H0 285 64 ≤ 20 := bTo e3 (f8.1.2.2 285 64 _ _ kW_285_64)
  try simp only [e3] at g4
  try simp only [e3]
  have k0 := g4.1
  have y0 := g4.2
  have p0 := g3.1
  have p1 := g3.2.1
  have p2 := g3.2.2
  clear g3
  clear g4
  clear f10 f13 e3
  subst e1
  try have t4 := SO4 p2 (s := (n0).toNat) (by omega) (by omega)
  refine ⟨?_, ?_⟩ <;> first | assumption | omega | trivial
theorem c_264_2_0 {q0 : Nat} : vOkm T0 (eP e_264 L_264 A_264 mu_264 (some q0)) 2 ([(41, [6, 7], [], 0), (0, [7], [], 4), (22, [6, 5, 4], [1], 0), (90, [6], [], 0), (91, [6], [], 6), (20, [5, 2], [1], 66), (0, [5], [], 328), (5000, [0, 1, 2, 3, 4], [0, 1], 2), (0, [0], [], 285), (90, [1], [], -2147483648), (91, [1], [], 2147483647), (0, [2], [], 285), (90, [3], [], -2147483648), (91, [3], [], 2147483647), (90, [4], [], 0), (91, [4], [], 19)], (3000, [4], [1], 23)) := vOk_inI fun ρ η f0 f1 f2 f3 f4 f5 f6 f7 f8 f9 f10 f11 f12 f13 f14 f15 => q_264_3 (q0 := q0) (n0 := ρ 4) (n1 := ρ 3) (n2 := ρ 2) (n3 := ρ 1) (n4 := ρ 0) (n5 := ρ 5) (n6 := ρ 6) (n7 := ρ 7) (H0 := η 0) (H1 := η 1) f15 f14 f13 f12 f11 f10 f9 f8 f7 f6 f5 f4 f3 f2 f1 f0
theorem kR_264_332 : vFreeR s_264.2.2.2.2 332 = true := by decide +kernel
theorem q_264_4 {q0 : Nat} {n0 n1 n2 n3 n4 n5 n6 n7 n8 n9 : Int} {H0 H1 : gH} (f0 : n0 ≤ 19) (f1 : 0 ≤ n0) (f2 : n1 ≤ 2147483647) (f3 : (-2147483648) ≤ n1) (f4 : n2 = 285) (f5 : n3 ≤ 2147483647) (f6 : (-2147483648) ≤ n3) (f7 : n4 = 285) (f8 : (hLe T0 H0 H1 ∧ hFr s_264.2.2.2.2 H0 H1 ∧ hWt T0 H1) ∧ (Ab_264_2 n4 n3 n2 n1 n0 H0 H1 ∧ preb_264 n4 n3 H0) ∧ some q0 = some (mub_264_2 n4 n3 n2 n1 n0 H0 H1)) (f9 : n5 = 328) (f10 : n5 = hV H1 (n2).toNat 66) (f11 : n6 ≤ 6) (f12 : 0 ≤ n6) (f13 : n6 = hV H1 (n5).toNat (n0).toNat) (f14 : n7 = 4) (f15 : n6 = n7) (f16 : n8 = 332) (f17 : n8 = hV H1 (n2).toNat 70) (f18 : n9 ≤ 19) (f19 : (-1) ≤ n9) (f20 : n9 = hV H1 (n8).toNat (n0).toNat) : 0 ≤ n9 := by
  have g4 := f8.2.1.1
  unfold Ab_264_2 at g4
  have g3 := f8.2.1.2
  unfold preb_264 at g3
  have e1 : n6 = hV H0 328 (n0).toNat := (by rw [f9] at f13; exact f13 : n6 = hV H1 328 (n0).toNat).trans ((congrFun (fRow f8.1.2.1 328 kR_264_328) _))
  have e3 : n9 = hV H0 332 (n0).toNat := (by rw [f16] at f20; exact f20 : n9 = hV H1 332 (n0).toNat).trans ((congrFun (fRow f8.1.2.1 332 kR_264_332) _))
  have e5 : hV H1 285 64 = hV H0 285 64 := (f8.1.2.1.1 285 64 kF_264_285_64)
  have e6 : (0 : Int) ≤ hV H0 285 64 ∧ hV H0 285 64 ≤ 20 := bTo e5 (f8.1.2.2 285 64 _ _ kW_285_64)
  try simp only [e5] at g4
  have k0 := g4.1
  have y0 := g4.2
  have p0 := g3.1
  have p1 := g3.2.1
  have p2 := g3.2.2
  clear g3
  clear g4
  clear f10 f13 f17 f20 e5
  subst e1
  subst e3
  try have t4 := SO4 p2 (s := (n0).toNat) (by omega) (by omega)
  omega
theorem c_264_2_1 {q0 : Nat} : vOkm T0 (eP e_264 L_264 A_264 mu_264 (some q0)) 2 ([(22, [9, 8, 4], [1], 0), (90, [9], [], -1), (91, [9], [], 19), (20, [8, 2], [1], 70), (0, [8], [], 332), (40, [6, 7], [], 0), (0, [7], [], 4), (22, [6, 5, 4], [1], 0), (90, [6], [], 0), (91, [6], [], 6), (20, [5, 2], [1], 66), (0, [5], [], 328), (5000, [0, 1, 2, 3, 4], [0, 1], 2), (0, [0], [], 285), (90, [1], [], -2147483648), (91, [1], [], 2147483647), (0, [2], [], 285), (90, [3], [], -2147483648), (91, [3], [], 2147483647), (90, [4], [], 0), (91, [4], [], 19)], (90, [9], [], 0)) := vOk_inI fun ρ η f0 f1 f2 f3 f4 f5 f6 f7 f8 f9 f10 f11 f12 f13 f14 f15 f16 f17 f18 f19 f20 => q_264_4 (q0 := q0) (n0 := ρ 4) (n1 := ρ 3) (n2 := ρ 2) (n3 := ρ 1) (n4 := ρ 0) (n5 := ρ 5) (n6 := ρ 6) (n7 := ρ 7) (n8 := ρ 8) (n9 := ρ 9) (H0 := η 0) (H1 := η 1) f20 f19 f18 f17 f16 f15 f14 f13 f12 f11 f10 f9 f8 f7 f6 f5 f4 f3 f2 f1 f0
theorem q_264_5 {q0 : Nat} {n0 n1 n2 n3 n4 n5 n6 n7 n8 n9 : Int} {H0 H1 : gH} (f0 : n0 ≤ 19) (f1 : 0 ≤ n0) (f2 : n1 ≤ 2147483647) (f3 : (-2147483648) ≤ n1) (f4 : n2 = 285) (f5 : n3 ≤ 2147483647) (f6 : (-2147483648) ≤ n3) (f7 : n4 = 285) (f8 : (hLe T0 H0 H1 ∧ hFr s_264.2.2.2.2 H0 H1 ∧ hWt T0 H1) ∧ (Ab_264_2 n4 n3 n2 n1 n0 H0 H1 ∧ preb_264 n4 n3 H0) ∧ some q0 = some (mub_264_2 n4 n3 n2 n1 n0 H0 H1)) (f9 : n5 = 328) (f10 : n5 = hV H1 (n2).toNat 66) (f11 : n6 ≤ 6) (f12 : 0 ≤ n6) (f13 : n6 = hV H1 (n5).toNat (n0).toNat) (f14 : n7 = 4) (f15 : n6 = n7) (f16 : n8 = 332) (f17 : n8 = hV H1 (n2).toNat 70) (f18 : n9 ≤ 19) (f19 : (-1) ≤ n9) (f20 : n9 = hV H1 (n8).toNat (n0).toNat) : Ab_264_2 n4 n3 n2 n1 n9 H0 H1 ∧ ∀ q, some q0 = some q → mub_264_2 n4 n3 n2 n1 n9 H0 H1 < q := by
  have g4 := f8.2.1.1
  unfold Ab_264_2 at g4
  have g3 := f8.2.1.2
  unfold preb_264 at g3
  have g5 := Option.some.inj f8.2.2
  unfold mub_264_2 at g5
  unfold Ab_264_2
  unfold mub_264_2
  have e1 : n6 = hV H0 328 (n0).toNat := (by rw [f9] at f13; exact f13 : n6 = hV H1 328 (n0).toNat).trans ((congrFun (fRow f8.1.2.1 328 kR_264_328) _))
  have e3 : n9 = hV H0 332 (n0).toNat := (by rw [f16] at f20; exact f20 : n9 = hV H1 332 (n0).toNat).trans ((congrFun (fRow f8.1.2.1 332 kR_264_332) _))
  have e5 : hV H1 285 64 = hV H0 285 64 := (f8.1.2.1.1 285 64 kF_264_285_64)
  have e6 : (0 : Int) ≤ hV H0 285 64 ∧ hV H0 285 64 ≤ 20 := bTo e5 (f8.1.2.2 285 64 _ _ kW_285_64)
  try simp only [e5] at g4
  try simp only [e5]
  have k0 := g4.1
  have y0 := g4.2
  have p0 := g3.1
  have p1 := g3.2.1
  have p2 := g3.2.2
  clear g3
  clear g4
  clear f10 f13 f17 f20 e5
  subst e1
  subst e3
  try have t4 := SO4 p2 (s := (n0).toNat) (by omega) (by omega)
  refine ⟨?_, fun q hq => ?_⟩
  · refine ⟨?_, ?_⟩ <;> first | assumption | omega | trivial
  · have g6 := Option.some.inj hq
    subst g6
    omega
theorem c_264_2_2 {q0 : Nat} : vOkm T0 (eP e_264 L_264 A_264 mu_264 (some q0)) 2 ([(22, [9, 8, 4], [1], 0), (90, [9], [], -1), (91, [9], [], 19), (20, [8, 2], [1], 70), (0, [8], [], 332), (40, [6, 7], [], 0), (0, [7], [], 4), (22, [6, 5, 4], [1], 0), (90, [6], [], 0), (91, [6], [], 6), (20, [5, 2], [1], 66), (0, [5], [], 328), (5000, [0, 1, 2, 3, 4], [0, 1], 2), (0, [0], [], 285), (90, [1], [], -2147483648), (91, [1], [], 2147483647), (0, [2], [], 285), (90, [3], [], -2147483648), (91, [3], [], 2147483647), (90, [4], [], 0), (91, [4], [], 19)], (4000, [2, 3, 9], [1], 2)) := vOk_inI fun ρ η f0 f1 f2 f3 f4 f5 f6 f7 f8 f9 f10 f11 f12 f13 f14 f15 f16 f17 f18 f19 f20 => q_264_5 (q0 := q0) (n0 := ρ 4) (n1 := ρ 3) (n2 := ρ 2) (n3 := ρ 1) (n4 := ρ 0) (n5 := ρ 5) (n6 := ρ 6) (n7 := ρ 7) (n8 := ρ 8) (n9 := ρ 9) (H0 := η 0) (H1 := η 1) f20 f19 f18 f17 f16 f15 f14 f13 f12 f11 f10 f9 f8 f7 f6 f5 f4 f3 f2 f1 f0
def p_264_2 : List vG := [([(41, [6, 7], [], 0), (0, [7], [], 4), (22, [6, 5, 4], [1], 0), (90, [6], [], 0), (91, [6], [], 6), (20, [5, 2], [1], 66), (0, [5], [], 328), (5000, [0, 1, 2, 3, 4], [0, 1], 2), (0, [0], [], 285), (90, [1], [], -2147483648), (91, [1], [], 2147483647), (0, [2], [], 285), (90, [3], [], -2147483648), (91, [3], [], 2147483647), (90, [4], [], 0), (91, [4], [], 19)], (3000, [4], [1], 23)),
  ([(22, [9, 8, 4], [1], 0), (90, [9], [], -1), (91, [9], [], 19), (20, [8, 2], [1], 70), (0, [8], [], 332), (40, [6, 7], [], 0), (0, [7], [], 4), (22, [6, 5, 4], [1], 0), (90, [6], [], 0), (91, [6], [], 6), (20, [5, 2], [1], 66), (0, [5], [], 328), (5000, [0, 1, 2, 3, 4], [0, 1], 2), (0, [0], [], 285), (90, [1], [], -2147483648), (91, [1], [], 2147483647), (0, [2], [], 285), (90, [3], [], -2147483648), (91, [3], [], 2147483647), (90, [4], [], 0), (91, [4], [], 19)], (90, [9], [], 0)),
  ([(22, [9, 8, 4], [1], 0), (90, [9], [], -1), (91, [9], [], 19), (20, [8, 2], [1], 70), (0, [8], [], 332), (40, [6, 7], [], 0), (0, [7], [], 4), (22, [6, 5, 4], [1], 0), (90, [6], [], 0), (91, [6], [], 6), (20, [5, 2], [1], 66), (0, [5], [], 328), (5000, [0, 1, 2, 3, 4], [0, 1], 2), (0, [0], [], 285), (90, [1], [], -2147483648), (91, [1], [], 2147483647), (0, [2], [], 285), (90, [3], [], -2147483648), (91, [3], [], 2147483647), (90, [4], [], 0), (91, [4], [], 19)], (4000, [2, 3, 9], [1], 2))]
theorem r_264_2 : vCovO false (eRc e_264 L_264 cs_264 2000 (2, [(0, (3, 12, 285, 0)), (1, (0, -2147483648, 2147483647, 0)), (2, (0, 0, 19, 0))])) p_264_2 = true := by decide +kernel
theorem m_264 (d : Nat) : eC e_264 (d + 1) := eC_ok (e := e_264) (L := L_264) (cs := cs_264) (n := 2000) (d := d + 0) (A := A_264) (μ := mu_264) (tp := false) (p0 := p_264_s) rfl trivial rfl (.inl rfl) (by decide +kernel) (fun z => nomatch z) r_264_s (allC c_264_s_0 (allC c_264_s_1 (allC c_264_s_2 allN))) (allC (.inl ⟨p_264_2, r_264_2, fun q0 => (allC c_264_2_0 (allC c_264_2_1 (allC c_264_2_2 allN)))⟩) allN)
/- MixStageModel.lengthOf (I)I -/
noncomputable def s_265 : vM := ([(3, 12, 285, 0), (0, 0, 19, 0)], (0, 0, 240, 0), 1, 0, [(572, 0)])
def preb_265 (a0 a1 : Int) (h : gH) : Prop := a1 < hV h 285 64 ∧ SO h
def pre_265 : List Int → gH → Prop := fun xs h => match xs with
  | [a0, a1] => preb_265 a0 a1 h
  | _ => False
def postb_265 (r a0 a1 : Int) (h0 h : gH) : Prop := r = 0 ∨ r + sumF (hV h 328) (hV h 332) (hV h 330) 20 (a1).toNat ≤ 240
def post_265 : List Int → gH → gH → Prop := fun xs h0 h => match xs with
  | [r, a0, a1] => postb_265 r a0 a1 h0 h
  | _ => True
noncomputable def e_265 : vE := (265, s_265, pre_265, post_265)
noncomputable def L_265 : List vE := []
def cs_265 : List vC := [(4, [(0, (3, 12, 285, 0)), (1, (0, 0, 19, 0)), (2, (0, 0, 19, 0)), (3, (0, 0, 19, 0))]), (75, [(0, (3, 12, 285, 0)), (1, (0, 0, 19, 0)), (2, (0, 0, 19, 0)), (3, (0, 0, 19, 0)), (4, (0, 0, 240, 0)), (5, (0, -1, 19, 0))])]
def Ab_265_4 (a0 a1 x0 x1 x2 x3 : Int) (h0 h : gH) : Prop := x1 = a1 ∧ x3 ≤ a1 ∧ x2 + x3 ≤ a1 ∧ CHp (hV h 328) (hV h 332) (hV h 343) a1 x2 x3
def mub_265_4 (a0 a1 x0 x1 x2 x3 : Int) (h0 h : gH) : Nat := 100 + x3.toNat
def Ab_265_75 (a0 a1 x0 x1 x2 x3 x4 x5 : Int) (h0 h : gH) : Prop := x1 = a1 ∧ ¬ hV h 328 ((x3).toNat) = 4 ∧ x5 < x2 ∧ CHp (hV h 328) (hV h 332) (hV h 343) a1 x2 x3 ∧ LNp (hV h 328) (hV h 332) (hV h 330) (hV h 343) x2 x3 x4 x5
def mub_265_75 (a0 a1 x0 x1 x2 x3 x4 x5 : Int) (h0 h : gH) : Nat := (x5 + 1).toNat
def A_265 : Int → List Int → gH → gH → Prop := fun c xs h0 h => match c.toNat with
  | 4 => (match xs with
    | [a0, a1, x0, x1, x2, x3] => Ab_265_4 a0 a1 x0 x1 x2 x3 h0 h
    | _ => False)
  | 75 => (match xs with
    | [a0, a1, x0, x1, x2, x3, x4, x5] => Ab_265_75 a0 a1 x0 x1 x2 x3 x4 x5 h0 h
    | _ => False)
  | _ => True
def mu_265 : Int → List Int → gH → gH → Nat := fun c xs h0 h => match c.toNat with
  | 4 => (match xs with
    | [a0, a1, x0, x1, x2, x3] => mub_265_4 a0 a1 x0 x1 x2 x3 h0 h
    | _ => 0)
  | 75 => (match xs with
    | [a0, a1, x0, x1, x2, x3, x4, x5] => mub_265_75 a0 a1 x0 x1 x2 x3 x4 x5 h0 h
    | _ => 0)
  | _ => 0
theorem q_265_0 {n0 n1 n2 : Int} {H0 : gH} (f0 : n0 ≤ 19) (f1 : 0 ≤ n0) (f2 : n1 = 285) (f3 : hWt T0 H0 ∧ preb_265 n1 n0 H0) (f4 : n2 = 0) : Ab_265_4 n1 n0 n1 n0 n2 n0 H0 H0 ∧ ∀ q, none = some q → mub_265_4 n1 n0 n1 n0 n2 n0 H0 H0 < q := by
  unfold preb_265 at f3
  unfold Ab_265_4
  have e0 : (0 : Int) ≤ hV H0 285 64 ∧ hV H0 285 64 ≤ 20 := f3.1 285 64 _ _ kW_285_64
  have p0 := f3.2.1
  have p1 := f3.2.2

  refine ⟨?_, fun q hq => ?_⟩
  · exact ⟨by omega, by omega, by omega, CHp_nil (by omega) (by omega)⟩
  · exact nomatch hq
theorem c_265_s_0 : vOkm T0 (eP e_265 L_265 A_265 mu_265 none) 2 ([(0, [2], [], 0), (6000, [0, 1], [0], 0), (0, [0], [], 285), (90, [1], [], 0), (91, [1], [], 19)], (4000, [0, 1, 2, 1], [0], 4)) := vOk_inI fun ρ η f0 f1 f2 f3 f4 => q_265_0 (n0 := ρ 1) (n1 := ρ 0) (n2 := ρ 2) (H0 := η 0) f4 f3 f2 f1 f0
def p_265_s : List vG := [([(0, [2], [], 0), (6000, [0, 1], [0], 0), (0, [0], [], 285), (90, [1], [], 0), (91, [1], [], 19)], (4000, [0, 1, 2, 1], [0], 4))]
theorem r_265_s : vCovO false (eR0 e_265 L_265 cs_265 2000) p_265_s = true := by decide +kernel
theorem kR_265_328 : vFreeR s_265.2.2.2.2 328 = true := by decide +kernel
theorem kR_265_329 : vFreeR s_265.2.2.2.2 329 = true := by decide +kernel
theorem kR_265_332 : vFreeR s_265.2.2.2.2 332 = true := by decide +kernel
theorem kF_265_285_64 : vFree s_265.2.2.2.2 285 64 = true := by decide +kernel
theorem q_265_1 {q0 : Nat} {n0 n1 n2 n3 n4 n5 n6 n7 n8 n9 n10 n11 n12 n13 n14 n15 n16 : Int} {H0 H1 : gH} (f0 : n0 ≤ 19) (f1 : 0 ≤ n0) (f2 : n1 ≤ 19) (f3 : 0 ≤ n1) (f4 : n2 ≤ 19) (f5 : 0 ≤ n2) (f6 : n3 = 285) (f7 : n4 ≤ 19) (f8 : 0 ≤ n4) (f9 : n5 = 285) (f10 : (hLe T0 H0 H1 ∧ hFr s_265.2.2.2.2 H0 H1 ∧ hWt T0 H1) ∧ (Ab_265_4 n5 n4 n3 n2 n1 n0 H0 H1 ∧ preb_265 n5 n4 H0) ∧ some q0 = some (mub_265_4 n5 n4 n3 n2 n1 n0 H0 H1)) (f11 : n6 = 328) (f12 : n6 = hV H1 (n3).toNat 66) (f13 : n7 ≤ 6) (f14 : 0 ≤ n7) (f15 : n7 = hV H1 (n6).toNat (n0).toNat) (f16 : n8 = 4) (f17 : n7 ≠ n8) (f18 : n9 = 329) (f19 : n9 = hV H1 (n3).toNat 67) (f20 : n10 = 328) (f21 : n10 = hV H1 (n3).toNat 66) (f22 : n11 ≤ 6) (f23 : 0 ≤ n11) (f24 : n11 = hV H1 (n10).toNat (n0).toNat) (f25 : n12 = 5) (f26 : n11 ≠ n12) (f27 : n13 ≤ 240) (f28 : (-1) ≤ n13) (f29 : n13 = hV H1 (n9).toNat (n0).toNat) (f30 : n14 = (-1)) (f31 : n13 ≠ n14) (f32 : n15 = 1) (f33 : n16 = w32 (n1 - n15)) : 0 ≤ n13 := by
  have g4 := f10.2.1.1
  unfold Ab_265_4 at g4
  have g3 := f10.2.1.2
  unfold preb_265 at g3
  have e0 : hV H1 328 = hV H0 328 := fRow f10.1.2.1 328 kR_265_328
  have e1 : n7 = hV H0 328 (n0).toNat := (by rw [f11] at f15; exact f15 : n7 = hV H1 328 (n0).toNat).trans ((congrFun e0 _))
  have e2 : n11 = hV H0 328 (n0).toNat := (by rw [f20] at f24; exact f24 : n11 = hV H1 328 (n0).toNat).trans ((congrFun e0 _))
  have e4 : n13 = hV H0 329 (n0).toNat := (by rw [f18] at f29; exact f29 : n13 = hV H1 329 (n0).toNat).trans ((congrFun (fRow f10.1.2.1 329 kR_265_329) _))
  have e7 : hV H1 332 = hV H0 332 := fRow f10.1.2.1 332 kR_265_332
  have e8 : (0 : Int) ≤ hV H0 285 64 ∧ hV H0 285 64 ≤ 20 := bTo ((f10.1.2.1.1 285 64 kF_265_285_64)) (f10.1.2.2 285 64 _ _ kW_285_64)
  try simp only [e0, e7] at g4
  have k0 := g4.1
  have y0 := g4.2.1
  have y1 := g4.2.2.1
  have y2 := g4.2.2.2
  have p0 := g3.1
  have p1 := g3.2
  clear g3
  clear g4
  clear f12 f15 f19 f21 f24 f29 e0 e7
  subst e1
  subst e2
  subst e4
  unfold w32 at f33
  try have t4 := SO4 p1 (s := (n0).toNat) (by omega) (by omega)
  try have t5 := SO5 p1 (s := (n0).toNat) (by omega) (by omega)
  omega
theorem c_265_4_0 {q0 : Nat} : vOkm T0 (eP e_265 L_265 A_265 mu_265 (some q0)) 2 ([(2, [16, 4, 15], [], 0), (0, [15], [], 1), (41, [13, 14], [], 0), (0, [14], [], -1), (22, [13, 9, 5], [1], 0), (90, [13], [], -1), (91, [13], [], 240), (41, [11, 12], [], 0), (0, [12], [], 5), (22, [11, 10, 5], [1], 0), (90, [11], [], 0), (91, [11], [], 6), (20, [10, 2], [1], 66), (0, [10], [], 328), (20, [9, 2], [1], 67), (0, [9], [], 329), (41, [7, 8], [], 0), (0, [8], [], 4), (22, [7, 6, 5], [1], 0), (90, [7], [], 0), (91, [7], [], 6), (20, [6, 2], [1], 66), (0, [6], [], 328), (5000, [0, 1, 2, 3, 4, 5], [0, 1], 4), (0, [0], [], 285), (90, [1], [], 0), (91, [1], [], 19), (0, [2], [], 285), (90, [3], [], 0), (91, [3], [], 19), (90, [4], [], 0), (91, [4], [], 19), (90, [5], [], 0), (91, [5], [], 19)], (90, [13], [], 0)) := vOk_inI fun ρ η f0 f1 f2 f3 f4 f5 f6 f7 f8 f9 f10 f11 f12 f13 f14 f15 f16 f17 f18 f19 f20 f21 f22 f23 f24 f25 f26 f27 f28 f29 f30 f31 f32 f33 => q_265_1 (q0 := q0) (n0 := ρ 5) (n1 := ρ 4) (n2 := ρ 3) (n3 := ρ 2) (n4 := ρ 1) (n5 := ρ 0) (n6 := ρ 6) (n7 := ρ 7) (n8 := ρ 8) (n9 := ρ 9) (n10 := ρ 10) (n11 := ρ 11) (n12 := ρ 12) (n13 := ρ 13) (n14 := ρ 14) (n15 := ρ 15) (n16 := ρ 16) (H0 := η 0) (H1 := η 1) f33 f32 f31 f30 f29 f28 f27 f26 f25 f24 f23 f22 f21 f20 f19 f18 f17 f16 f15 f14 f13 f12 f11 f10 f9 f8 f7 f6 f5 f4 f3 f2 f1 f0
theorem q_265_2 {q0 : Nat} {n0 n1 n2 n3 n4 n5 n6 n7 n8 n9 n10 n11 n12 n13 : Int} {H0 H1 : gH} (f0 : n0 ≤ 19) (f1 : 0 ≤ n0) (f2 : n1 ≤ 19) (f3 : 0 ≤ n1) (f4 : n2 ≤ 19) (f5 : 0 ≤ n2) (f6 : n3 = 285) (f7 : n4 ≤ 19) (f8 : 0 ≤ n4) (f9 : n5 = 285) (f10 : (hLe T0 H0 H1 ∧ hFr s_265.2.2.2.2 H0 H1 ∧ hWt T0 H1) ∧ (Ab_265_4 n5 n4 n3 n2 n1 n0 H0 H1 ∧ preb_265 n5 n4 H0) ∧ some q0 = some (mub_265_4 n5 n4 n3 n2 n1 n0 H0 H1)) (f11 : n6 = 328) (f12 : n6 = hV H1 (n3).toNat 66) (f13 : n7 ≤ 6) (f14 : 0 ≤ n7) (f15 : n7 = hV H1 (n6).toNat (n0).toNat) (f16 : n8 = 4) (f17 : n7 ≠ n8) (f18 : n9 = 328) (f19 : n9 = hV H1 (n3).toNat 66) (f20 : n10 ≤ 6) (f21 : 0 ≤ n10) (f22 : n10 = hV H1 (n9).toNat (n0).toNat) (f23 : n11 = 5) (f24 : n10 ≠ n11) (f25 : n12 = 1) (f26 : n13 = w32 (n1 - n12)) : (-1) ≤ n13 := by
  have g4 := f10.2.1.1
  unfold Ab_265_4 at g4
  have g3 := f10.2.1.2
  unfold preb_265 at g3
  have e0 : hV H1 328 = hV H0 328 := fRow f10.1.2.1 328 kR_265_328
  have e1 : n7 = hV H0 328 (n0).toNat := (by rw [f11] at f15; exact f15 : n7 = hV H1 328 (n0).toNat).trans ((congrFun e0 _))
  have e2 : n10 = hV H0 328 (n0).toNat := (by rw [f18] at f22; exact f22 : n10 = hV H1 328 (n0).toNat).trans ((congrFun e0 _))
  have e5 : hV H1 332 = hV H0 332 := fRow f10.1.2.1 332 kR_265_332
  have e6 : (0 : Int) ≤ hV H0 285 64 ∧ hV H0 285 64 ≤ 20 := bTo ((f10.1.2.1.1 285 64 kF_265_285_64)) (f10.1.2.2 285 64 _ _ kW_285_64)
  try simp only [e0, e5] at g4
  have k0 := g4.1
  have y0 := g4.2.1
  have y1 := g4.2.2.1
  have y2 := g4.2.2.2
  have p0 := g3.1
  have p1 := g3.2
  clear g3
  clear g4
  clear f12 f15 f19 f22 e0 e5
  subst e1
  subst e2
  try have t4 := SO4 p1 (s := (n0).toNat) (by omega) (by omega)
  try have t5 := SO5 p1 (s := (n0).toNat) (by omega) (by omega)
  first
  | (have ix0 : n13 = n1 - 1 := Eq.trans f26 (w32_iv (Isu (Iat f3 f2) (IC 1)) (by decide)); subst ix0; clear f26)
  | (have ix0 : n13 = n1 - 1 := Eq.trans f26 (w32_id (by omega) (by omega)); subst ix0; clear f26)
  | (unfold w32 at f26; have ix0 : n13 = n1 - 1 := (by omega); subst ix0)
  | skip
  try unfold w32 at f26
  omega
theorem c_265_4_1 {q0 : Nat} : vOkm T0 (eP e_265 L_265 A_265 mu_265 (some q0)) 2 ([(2, [16, 4, 15], [], 0), (0, [15], [], 1), (41, [11, 12], [], 0), (0, [12], [], 5), (22, [11, 10, 5], [1], 0), (90, [11], [], 0), (91, [11], [], 6), (20, [10, 2], [1], 66), (0, [10], [], 328), (41, [7, 8], [], 0), (0, [8], [], 4), (22, [7, 6, 5], [1], 0), (90, [7], [], 0), (91, [7], [], 6), (20, [6, 2], [1], 66), (0, [6], [], 328), (5000, [0, 1, 2, 3, 4, 5], [0, 1], 4), (0, [0], [], 285), (90, [1], [], 0), (91, [1], [], 19), (0, [2], [], 285), (90, [3], [], 0), (91, [3], [], 19), (90, [4], [], 0), (91, [4], [], 19), (90, [5], [], 0), (91, [5], [], 19)], (90, [16], [], -1)) := vOk_inI fun ρ η f0 f1 f2 f3 f4 f5 f6 f7 f8 f9 f10 f11 f12 f13 f14 f15 f16 f17 f18 f19 f20 f21 f22 f23 f24 f25 f26 => q_265_2 (q0 := q0) (n0 := ρ 5) (n1 := ρ 4) (n2 := ρ 3) (n3 := ρ 2) (n4 := ρ 1) (n5 := ρ 0) (n6 := ρ 6) (n7 := ρ 7) (n8 := ρ 8) (n9 := ρ 10) (n10 := ρ 11) (n11 := ρ 12) (n12 := ρ 15) (n13 := ρ 16) (H0 := η 0) (H1 := η 1) f26 f25 f24 f23 f22 f21 f20 f19 f18 f17 f16 f15 f14 f13 f12 f11 f10 f9 f8 f7 f6 f5 f4 f3 f2 f1 f0
theorem q_265_3 {q0 : Nat} {n0 n1 n2 n3 n4 n5 n6 n7 n8 n9 n10 n11 n12 n13 : Int} {H0 H1 : gH} (f0 : n0 ≤ 19) (f1 : 0 ≤ n0) (f2 : n1 ≤ 19) (f3 : 0 ≤ n1) (f4 : n2 ≤ 19) (f5 : 0 ≤ n2) (f6 : n3 = 285) (f7 : n4 ≤ 19) (f8 : 0 ≤ n4) (f9 : n5 = 285) (f10 : (hLe T0 H0 H1 ∧ hFr s_265.2.2.2.2 H0 H1 ∧ hWt T0 H1) ∧ (Ab_265_4 n5 n4 n3 n2 n1 n0 H0 H1 ∧ preb_265 n5 n4 H0) ∧ some q0 = some (mub_265_4 n5 n4 n3 n2 n1 n0 H0 H1)) (f11 : n6 = 328) (f12 : n6 = hV H1 (n3).toNat 66) (f13 : n7 ≤ 6) (f14 : 0 ≤ n7) (f15 : n7 = hV H1 (n6).toNat (n0).toNat) (f16 : n8 = 4) (f17 : n7 ≠ n8) (f18 : n9 = 328) (f19 : n9 = hV H1 (n3).toNat 66) (f20 : n10 ≤ 6) (f21 : 0 ≤ n10) (f22 : n10 = hV H1 (n9).toNat (n0).toNat) (f23 : n11 = 5) (f24 : n10 ≠ n11) (f25 : n12 = 1) (f26 : n13 = w32 (n1 - n12)) : n13 ≤ 19 := by
  have g4 := f10.2.1.1
  unfold Ab_265_4 at g4
  have g3 := f10.2.1.2
  unfold preb_265 at g3
  have e0 : hV H1 328 = hV H0 328 := fRow f10.1.2.1 328 kR_265_328
  have e1 : n7 = hV H0 328 (n0).toNat := (by rw [f11] at f15; exact f15 : n7 = hV H1 328 (n0).toNat).trans ((congrFun e0 _))
  have e2 : n10 = hV H0 328 (n0).toNat := (by rw [f18] at f22; exact f22 : n10 = hV H1 328 (n0).toNat).trans ((congrFun e0 _))
  have e5 : hV H1 332 = hV H0 332 := fRow f10.1.2.1 332 kR_265_332
  have e6 : (0 : Int) ≤ hV H0 285 64 ∧ hV H0 285 64 ≤ 20 := bTo ((f10.1.2.1.1 285 64 kF_265_285_64)) (f10.1.2.2 285 64 _ _ kW_285_64)
  try simp only [e0, e5] at g4
  have k0 := g4.1
  have y0 := g4.2.1
  have y1 := g4.2.2.1
  have y2 := g4.2.2.2
  have p0 := g3.1
  have p1 := g3.2
  clear g3
  clear g4
  clear f12 f15 f19 f22 e0 e5
  subst e1
  subst e2
  try have t4 := SO4 p1 (s := (n0).toNat) (by omega) (by omega)
  try have t5 := SO5 p1 (s := (n0).toNat) (by omega) (by omega)
  first
  | (have ix0 : n13 = n1 - 1 := Eq.trans f26 (w32_iv (Isu (Iat f3 f2) (IC 1)) (by decide)); subst ix0; clear f26)
  | (have ix0 : n13 = n1 - 1 := Eq.trans f26 (w32_id (by omega) (by omega)); subst ix0; clear f26)
  | (unfold w32 at f26; have ix0 : n13 = n1 - 1 := (by omega); subst ix0)
  | skip
  try unfold w32 at f26
  omega
theorem c_265_4_2 {q0 : Nat} : vOkm T0 (eP e_265 L_265 A_265 mu_265 (some q0)) 2 ([(2, [16, 4, 15], [], 0), (0, [15], [], 1), (41, [11, 12], [], 0), (0, [12], [], 5), (22, [11, 10, 5], [1], 0), (90, [11], [], 0), (91, [11], [], 6), (20, [10, 2], [1], 66), (0, [10], [], 328), (41, [7, 8], [], 0), (0, [8], [], 4), (22, [7, 6, 5], [1], 0), (90, [7], [], 0), (91, [7], [], 6), (20, [6, 2], [1], 66), (0, [6], [], 328), (5000, [0, 1, 2, 3, 4, 5], [0, 1], 4), (0, [0], [], 285), (90, [1], [], 0), (91, [1], [], 19), (0, [2], [], 285), (90, [3], [], 0), (91, [3], [], 19), (90, [4], [], 0), (91, [4], [], 19), (90, [5], [], 0), (91, [5], [], 19)], (91, [16], [], 19)) := vOk_inI fun ρ η f0 f1 f2 f3 f4 f5 f6 f7 f8 f9 f10 f11 f12 f13 f14 f15 f16 f17 f18 f19 f20 f21 f22 f23 f24 f25 f26 => q_265_3 (q0 := q0) (n0 := ρ 5) (n1 := ρ 4) (n2 := ρ 3) (n3 := ρ 2) (n4 := ρ 1) (n5 := ρ 0) (n6 := ρ 6) (n7 := ρ 7) (n8 := ρ 8) (n9 := ρ 10) (n10 := ρ 11) (n11 := ρ 12) (n12 := ρ 15) (n13 := ρ 16) (H0 := η 0) (H1 := η 1) f26 f25 f24 f23 f22 f21 f20 f19 f18 f17 f16 f15 f14 f13 f12 f11 f10 f9 f8 f7 f6 f5 f4 f3 f2 f1 f0
theorem kR_265_330 : vFreeR s_265.2.2.2.2 330 = true := by decide +kernel
theorem q_265_4 {q0 : Nat} {n0 n1 n2 n3 n4 n5 n6 n7 n8 n9 n10 n11 n12 n13 n14 n15 n16 : Int} {H0 H1 : gH} (f0 : n0 ≤ 19) (f1 : 0 ≤ n0) (f2 : n1 ≤ 19) (f3 : 0 ≤ n1) (f4 : n2 ≤ 19) (f5 : 0 ≤ n2) (f6 : n3 = 285) (f7 : n4 ≤ 19) (f8 : 0 ≤ n4) (f9 : n5 = 285) (f10 : (hLe T0 H0 H1 ∧ hFr s_265.2.2.2.2 H0 H1 ∧ hWt T0 H1) ∧ (Ab_265_4 n5 n4 n3 n2 n1 n0 H0 H1 ∧ preb_265 n5 n4 H0) ∧ some q0 = some (mub_265_4 n5 n4 n3 n2 n1 n0 H0 H1)) (f11 : n6 = 328) (f12 : n6 = hV H1 (n3).toNat 66) (f13 : n7 ≤ 6) (f14 : 0 ≤ n7) (f15 : n7 = hV H1 (n6).toNat (n0).toNat) (f16 : n8 = 4) (f17 : n7 ≠ n8) (f18 : n9 = 329) (f19 : n9 = hV H1 (n3).toNat 67) (f20 : n10 = 328) (f21 : n10 = hV H1 (n3).toNat 66) (f22 : n11 ≤ 6) (f23 : 0 ≤ n11) (f24 : n11 = hV H1 (n10).toNat (n0).toNat) (f25 : n12 = 5) (f26 : n11 ≠ n12) (f27 : n13 ≤ 240) (f28 : (-1) ≤ n13) (f29 : n13 = hV H1 (n9).toNat (n0).toNat) (f30 : n14 = (-1)) (f31 : n13 ≠ n14) (f32 : n15 = 1) (f33 : n16 = w32 (n1 - n15)) : Ab_265_75 n5 n4 n3 n2 n1 n0 n13 n16 H0 H1 ∧ ∀ q, some q0 = some q → mub_265_75 n5 n4 n3 n2 n1 n0 n13 n16 H0 H1 < q := by
  have g4 := f10.2.1.1
  unfold Ab_265_4 at g4
  have g3 := f10.2.1.2
  unfold preb_265 at g3
  have g5 := Option.some.inj f10.2.2
  unfold mub_265_4 at g5
  unfold Ab_265_75
  unfold mub_265_75
  have e0 : hV H1 328 = hV H0 328 := fRow f10.1.2.1 328 kR_265_328
  have e1 : n7 = hV H0 328 (n0).toNat := (by rw [f11] at f15; exact f15 : n7 = hV H1 328 (n0).toNat).trans ((congrFun e0 _))
  have e2 : n11 = hV H0 328 (n0).toNat := (by rw [f20] at f24; exact f24 : n11 = hV H1 328 (n0).toNat).trans ((congrFun e0 _))
  have e4 : n13 = hV H0 329 (n0).toNat := (by rw [f18] at f29; exact f29 : n13 = hV H1 329 (n0).toNat).trans ((congrFun (fRow f10.1.2.1 329 kR_265_329) _))
  have e7 : hV H1 330 = hV H0 330 := fRow f10.1.2.1 330 kR_265_330
  have e8 : hV H1 332 = hV H0 332 := fRow f10.1.2.1 332 kR_265_332
  have e9 : (0 : Int) ≤ hV H0 285 64 ∧ hV H0 285 64 ≤ 20 := bTo ((f10.1.2.1.1 285 64 kF_265_285_64)) (f10.1.2.2 285 64 _ _ kW_285_64)
  try simp only [e0, e8] at g4
  try simp only [e0, e7, e8]
  have k0 := g4.1
  have y0 := g4.2.1
  have y1 := g4.2.2.1
  have y2 := g4.2.2.2
  have p0 := g3.1
  have p1 := g3.2
  clear g3
  clear g4
  clear f12 f15 f19 f21 f24 f29 e0 e7 e8
  subst e1
  subst e2
  subst e4
  try have t4 := SO4 p1 (s := (n0).toNat) (by omega) (by omega)
  try have t5 := SO5 p1 (s := (n0).toNat) (by omega) (by omega)
  first
  | (have ix0 : n16 = n1 - 1 := Eq.trans f33 (w32_iv (Isu (Iat f3 f2) (IC 1)) (by decide)); subst ix0; clear f33)
  | (have ix0 : n16 = n1 - 1 := Eq.trans f33 (w32_id (by omega) (by omega)); subst ix0; clear f33)
  | (unfold w32 at f33; have ix0 : n16 = n1 - 1 := (by omega); subst ix0)
  | skip
  try unfold w32 at f33

  refine ⟨?_, fun q hq => ?_⟩
  · exact ⟨by omega, by omega, by omega, y2, LNp_first (by omega) (by omega) (by omega)⟩
  · have g6 := Option.some.inj hq
    subst g6
    omega
theorem c_265_4_3 {q0 : Nat} : vOkm T0 (eP e_265 L_265 A_265 mu_265 (some q0)) 2 ([(2, [16, 4, 15], [], 0), (0, [15], [], 1), (41, [13, 14], [], 0), (0, [14], [], -1), (22, [13, 9, 5], [1], 0), (90, [13], [], -1), (91, [13], [], 240), (41, [11, 12], [], 0), (0, [12], [], 5), (22, [11, 10, 5], [1], 0), (90, [11], [], 0), (91, [11], [], 6), (20, [10, 2], [1], 66), (0, [10], [], 328), (20, [9, 2], [1], 67), (0, [9], [], 329), (41, [7, 8], [], 0), (0, [8], [], 4), (22, [7, 6, 5], [1], 0), (90, [7], [], 0), (91, [7], [], 6), (20, [6, 2], [1], 66), (0, [6], [], 328), (5000, [0, 1, 2, 3, 4, 5], [0, 1], 4), (0, [0], [], 285), (90, [1], [], 0), (91, [1], [], 19), (0, [2], [], 285), (90, [3], [], 0), (91, [3], [], 19), (90, [4], [], 0), (91, [4], [], 19), (90, [5], [], 0), (91, [5], [], 19)], (4000, [2, 3, 4, 5, 13, 16], [1], 75)) := vOk_inI fun ρ η f0 f1 f2 f3 f4 f5 f6 f7 f8 f9 f10 f11 f12 f13 f14 f15 f16 f17 f18 f19 f20 f21 f22 f23 f24 f25 f26 f27 f28 f29 f30 f31 f32 f33 => q_265_4 (q0 := q0) (n0 := ρ 5) (n1 := ρ 4) (n2 := ρ 3) (n3 := ρ 2) (n4 := ρ 1) (n5 := ρ 0) (n6 := ρ 6) (n7 := ρ 7) (n8 := ρ 8) (n9 := ρ 9) (n10 := ρ 10) (n11 := ρ 11) (n12 := ρ 12) (n13 := ρ 13) (n14 := ρ 14) (n15 := ρ 15) (n16 := ρ 16) (H0 := η 0) (H1 := η 1) f33 f32 f31 f30 f29 f28 f27 f26 f25 f24 f23 f22 f21 f20 f19 f18 f17 f16 f15 f14 f13 f12 f11 f10 f9 f8 f7 f6 f5 f4 f3 f2 f1 f0
theorem c_265_4_4 {q0 : Nat} : vOkm T0 (eP e_265 L_265 A_265 mu_265 (some q0)) 2 ([(2, [17, 4, 16], [], 0), (0, [16], [], 1), (41, [11, 12], [], 0), (0, [12], [], 5), (22, [11, 10, 5], [1], 0), (90, [11], [], 0), (91, [11], [], 6), (20, [10, 2], [1], 66), (0, [10], [], 328), (41, [7, 8], [], 0), (0, [8], [], 4), (22, [7, 6, 5], [1], 0), (90, [7], [], 0), (91, [7], [], 6), (20, [6, 2], [1], 66), (0, [6], [], 328), (5000, [0, 1, 2, 3, 4, 5], [0, 1], 4), (0, [0], [], 285), (90, [1], [], 0), (91, [1], [], 19), (0, [2], [], 285), (90, [3], [], 0), (91, [3], [], 19), (90, [4], [], 0), (91, [4], [], 19), (90, [5], [], 0), (91, [5], [], 19)], (90, [17], [], -1)) := vOk_inI fun ρ η f0 f1 f2 f3 f4 f5 f6 f7 f8 f9 f10 f11 f12 f13 f14 f15 f16 f17 f18 f19 f20 f21 f22 f23 f24 f25 f26 => q_265_2 (q0 := q0) (n0 := ρ 5) (n1 := ρ 4) (n2 := ρ 3) (n3 := ρ 2) (n4 := ρ 1) (n5 := ρ 0) (n6 := ρ 6) (n7 := ρ 7) (n8 := ρ 8) (n9 := ρ 10) (n10 := ρ 11) (n11 := ρ 12) (n12 := ρ 16) (n13 := ρ 17) (H0 := η 0) (H1 := η 1) f26 f25 f24 f23 f22 f21 f20 f19 f18 f17 f16 f15 f14 f13 f12 f11 f10 f9 f8 f7 f6 f5 f4 f3 f2 f1 f0
theorem c_265_4_5 {q0 : Nat} : vOkm T0 (eP e_265 L_265 A_265 mu_265 (some q0)) 2 ([(2, [17, 4, 16], [], 0), (0, [16], [], 1), (41, [11, 12], [], 0), (0, [12], [], 5), (22, [11, 10, 5], [1], 0), (90, [11], [], 0), (91, [11], [], 6), (20, [10, 2], [1], 66), (0, [10], [], 328), (41, [7, 8], [], 0), (0, [8], [], 4), (22, [7, 6, 5], [1], 0), (90, [7], [], 0), (91, [7], [], 6), (20, [6, 2], [1], 66), (0, [6], [], 328), (5000, [0, 1, 2, 3, 4, 5], [0, 1], 4), (0, [0], [], 285), (90, [1], [], 0), (91, [1], [], 19), (0, [2], [], 285), (90, [3], [], 0), (91, [3], [], 19), (90, [4], [], 0), (91, [4], [], 19), (90, [5], [], 0), (91, [5], [], 19)], (91, [17], [], 19)) := vOk_inI fun ρ η f0 f1 f2 f3 f4 f5 f6 f7 f8 f9 f10 f11 f12 f13 f14 f15 f16 f17 f18 f19 f20 f21 f22 f23 f24 f25 f26 => q_265_3 (q0 := q0) (n0 := ρ 5) (n1 := ρ 4) (n2 := ρ 3) (n3 := ρ 2) (n4 := ρ 1) (n5 := ρ 0) (n6 := ρ 6) (n7 := ρ 7) (n8 := ρ 8) (n9 := ρ 10) (n10 := ρ 11) (n11 := ρ 12) (n12 := ρ 16) (n13 := ρ 17) (H0 := η 0) (H1 := η 1) f26 f25 f24 f23 f22 f21 f20 f19 f18 f17 f16 f15 f14 f13 f12 f11 f10 f9 f8 f7 f6 f5 f4 f3 f2 f1 f0
theorem q_265_5 {q0 : Nat} {n0 n1 n2 n3 n4 n5 n6 n7 n8 n9 n10 n11 n12 n13 n14 : Int} {H0 H1 : gH} (f0 : n0 ≤ 19) (f1 : 0 ≤ n0) (f2 : n1 ≤ 19) (f3 : 0 ≤ n1) (f4 : n2 ≤ 19) (f5 : 0 ≤ n2) (f6 : n3 = 285) (f7 : n4 ≤ 19) (f8 : 0 ≤ n4) (f9 : n5 = 285) (f10 : (hLe T0 H0 H1 ∧ hFr s_265.2.2.2.2 H0 H1 ∧ hWt T0 H1) ∧ (Ab_265_4 n5 n4 n3 n2 n1 n0 H0 H1 ∧ preb_265 n5 n4 H0) ∧ some q0 = some (mub_265_4 n5 n4 n3 n2 n1 n0 H0 H1)) (f11 : n6 = 328) (f12 : n6 = hV H1 (n3).toNat 66) (f13 : n7 ≤ 6) (f14 : 0 ≤ n7) (f15 : n7 = hV H1 (n6).toNat (n0).toNat) (f16 : n8 = 4) (f17 : n7 ≠ n8) (f18 : n9 = 328) (f19 : n9 = hV H1 (n3).toNat 66) (f20 : n10 ≤ 6) (f21 : 0 ≤ n10) (f22 : n10 = hV H1 (n9).toNat (n0).toNat) (f23 : n11 = 5) (f24 : n10 ≠ n11) (f25 : n12 = 0) (f26 : n13 = 1) (f27 : n14 = w32 (n1 - n13)) : Ab_265_75 n5 n4 n3 n2 n1 n0 n12 n14 H0 H1 ∧ ∀ q, some q0 = some q → mub_265_75 n5 n4 n3 n2 n1 n0 n12 n14 H0 H1 < q := by
  have g4 := f10.2.1.1
  unfold Ab_265_4 at g4
  have g3 := f10.2.1.2
  unfold preb_265 at g3
  have g5 := Option.some.inj f10.2.2
  unfold mub_265_4 at g5
  unfold Ab_265_75
  unfold mub_265_75
  have e0 : hV H1 328 = hV H0 328 := fRow f10.1.2.1 328 kR_265_328
  have e1 : n7 = hV H0 328 (n0).toNat := (by rw [f11] at f15; exact f15 : n7 = hV H1 328 (n0).toNat).trans ((congrFun e0 _))
  have e2 : n10 = hV H0 328 (n0).toNat := (by rw [f18] at f22; exact f22 : n10 = hV H1 328 (n0).toNat).trans ((congrFun e0 _))
  have e5 : hV H1 330 = hV H0 330 := fRow f10.1.2.1 330 kR_265_330
  have e6 : hV H1 332 = hV H0 332 := fRow f10.1.2.1 332 kR_265_332
  have e7 : (0 : Int) ≤ hV H0 285 64 ∧ hV H0 285 64 ≤ 20 := bTo ((f10.1.2.1.1 285 64 kF_265_285_64)) (f10.1.2.2 285 64 _ _ kW_285_64)
  try simp only [e0, e6] at g4
  try simp only [e0, e5, e6]
  have k0 := g4.1
  have y0 := g4.2.1
  have y1 := g4.2.2.1
  have y2 := g4.2.2.2
  have p0 := g3.1
  have p1 := g3.2
  clear g3
  clear g4
  clear f12 f15 f19 f22 e0 e5 e6
  subst e1
  subst e2
  try have t4 := SO4 p1 (s := (n0).toNat) (by omega) (by omega)
  try have t5 := SO5 p1 (s := (n0).toNat) (by omega) (by omega)
  first
  | (have ix0 : n14 = n1 - 1 := Eq.trans f27 (w32_iv (Isu (Iat f3 f2) (IC 1)) (by decide)); subst ix0; clear f27)
  | (have ix0 : n14 = n1 - 1 := Eq.trans f27 (w32_id (by omega) (by omega)); subst ix0; clear f27)
  | (unfold w32 at f27; have ix0 : n14 = n1 - 1 := (by omega); subst ix0)
  | skip
  try unfold w32 at f27

  refine ⟨?_, fun q hq => ?_⟩
  · exact ⟨by omega, by omega, by omega, y2, LNp_first (by omega) (by omega) (by omega)⟩
  · have g6 := Option.some.inj hq
    subst g6
    omega
theorem c_265_4_6 {q0 : Nat} : vOkm T0 (eP e_265 L_265 A_265 mu_265 (some q0)) 2 ([(2, [17, 4, 16], [], 0), (0, [16], [], 1), (0, [15], [], 0), (41, [11, 12], [], 0), (0, [12], [], 5), (22, [11, 10, 5], [1], 0), (90, [11], [], 0), (91, [11], [], 6), (20, [10, 2], [1], 66), (0, [10], [], 328), (41, [7, 8], [], 0), (0, [8], [], 4), (22, [7, 6, 5], [1], 0), (90, [7], [], 0), (91, [7], [], 6), (20, [6, 2], [1], 66), (0, [6], [], 328), (5000, [0, 1, 2, 3, 4, 5], [0, 1], 4), (0, [0], [], 285), (90, [1], [], 0), (91, [1], [], 19), (0, [2], [], 285), (90, [3], [], 0), (91, [3], [], 19), (90, [4], [], 0), (91, [4], [], 19), (90, [5], [], 0), (91, [5], [], 19)], (4000, [2, 3, 4, 5, 15, 17], [1], 75)) := vOk_inI fun ρ η f0 f1 f2 f3 f4 f5 f6 f7 f8 f9 f10 f11 f12 f13 f14 f15 f16 f17 f18 f19 f20 f21 f22 f23 f24 f25 f26 f27 => q_265_5 (q0 := q0) (n0 := ρ 5) (n1 := ρ 4) (n2 := ρ 3) (n3 := ρ 2) (n4 := ρ 1) (n5 := ρ 0) (n6 := ρ 6) (n7 := ρ 7) (n8 := ρ 8) (n9 := ρ 10) (n10 := ρ 11) (n11 := ρ 12) (n12 := ρ 15) (n13 := ρ 16) (n14 := ρ 17) (H0 := η 0) (H1 := η 1) f27 f26 f25 f24 f23 f22 f21 f20 f19 f18 f17 f16 f15 f14 f13 f12 f11 f10 f9 f8 f7 f6 f5 f4 f3 f2 f1 f0
theorem q_265_6 {q0 : Nat} {n0 n1 n2 n3 n4 n5 n6 n7 n8 n9 n10 n11 n12 n13 : Int} {H0 H1 : gH} (f0 : n0 ≤ 19) (f1 : 0 ≤ n0) (f2 : n1 ≤ 19) (f3 : 0 ≤ n1) (f4 : n2 ≤ 19) (f5 : 0 ≤ n2) (f6 : n3 = 285) (f7 : n4 ≤ 19) (f8 : 0 ≤ n4) (f9 : n5 = 285) (f10 : (hLe T0 H0 H1 ∧ hFr s_265.2.2.2.2 H0 H1 ∧ hWt T0 H1) ∧ (Ab_265_4 n5 n4 n3 n2 n1 n0 H0 H1 ∧ preb_265 n5 n4 H0) ∧ some q0 = some (mub_265_4 n5 n4 n3 n2 n1 n0 H0 H1)) (f11 : n6 = 328) (f12 : n6 = hV H1 (n3).toNat 66) (f13 : n7 ≤ 6) (f14 : 0 ≤ n7) (f15 : n7 = hV H1 (n6).toNat (n0).toNat) (f16 : n8 = 4) (f17 : n7 ≠ n8) (f18 : n9 = 328) (f19 : n9 = hV H1 (n3).toNat 66) (f20 : n10 ≤ 6) (f21 : 0 ≤ n10) (f22 : n10 = hV H1 (n9).toNat (n0).toNat) (f23 : n11 = 5) (f24 : n10 = n11) (f25 : n12 = 332) (f26 : n12 = hV H1 (n3).toNat 70) (f27 : n13 ≤ 19) (f28 : (-1) ≤ n13) (f29 : n13 = hV H1 (n12).toNat (n0).toNat) : 0 ≤ n13 ∧ n13 < 20 := by
  have g4 := f10.2.1.1
  unfold Ab_265_4 at g4
  have g3 := f10.2.1.2
  unfold preb_265 at g3
  have e0 : hV H1 328 = hV H0 328 := fRow f10.1.2.1 328 kR_265_328
  have e1 : n7 = hV H0 328 (n0).toNat := (by rw [f11] at f15; exact f15 : n7 = hV H1 328 (n0).toNat).trans ((congrFun e0 _))
  have e2 : n10 = hV H0 328 (n0).toNat := (by rw [f18] at f22; exact f22 : n10 = hV H1 328 (n0).toNat).trans ((congrFun e0 _))
  have e3 : hV H1 332 = hV H0 332 := fRow f10.1.2.1 332 kR_265_332
  have e4 : n13 = hV H0 332 (n0).toNat := (by rw [f25] at f29; exact f29 : n13 = hV H1 332 (n0).toNat).trans ((congrFun e3 _))
  have e7 : (0 : Int) ≤ hV H0 285 64 ∧ hV H0 285 64 ≤ 20 := bTo ((f10.1.2.1.1 285 64 kF_265_285_64)) (f10.1.2.2 285 64 _ _ kW_285_64)
  try simp only [e0, e3] at g4
  have k0 := g4.1
  have y0 := g4.2.1
  have y1 := g4.2.2.1
  have y2 := g4.2.2.2
  have p0 := g3.1
  have p1 := g3.2
  clear g3
  clear g4
  clear f12 f15 f19 f22 f26 f29 e0 e3
  subst e1
  subst e2
  subst e4
  try have t4 := SO4 p1 (s := (n0).toNat) (by omega) (by omega)
  try have t5 := SO5 p1 (s := (n0).toNat) (by omega) (by omega)
  omega
theorem c_265_4_7 {q0 : Nat} : vOkm T0 (eP e_265 L_265 A_265 mu_265 (some q0)) 2 ([(22, [14, 13, 5], [1], 0), (90, [14], [], -1), (91, [14], [], 19), (20, [13, 2], [1], 70), (0, [13], [], 332), (40, [11, 12], [], 0), (0, [12], [], 5), (22, [11, 10, 5], [1], 0), (90, [11], [], 0), (91, [11], [], 6), (20, [10, 2], [1], 66), (0, [10], [], 328), (41, [7, 8], [], 0), (0, [8], [], 4), (22, [7, 6, 5], [1], 0), (90, [7], [], 0), (91, [7], [], 6), (20, [6, 2], [1], 66), (0, [6], [], 328), (5000, [0, 1, 2, 3, 4, 5], [0, 1], 4), (0, [0], [], 285), (90, [1], [], 0), (91, [1], [], 19), (0, [2], [], 285), (90, [3], [], 0), (91, [3], [], 19), (90, [4], [], 0), (91, [4], [], 19), (90, [5], [], 0), (91, [5], [], 19)], (70, [14], [], 20)) := vOk_inI fun ρ η f0 f1 f2 f3 f4 f5 f6 f7 f8 f9 f10 f11 f12 f13 f14 f15 f16 f17 f18 f19 f20 f21 f22 f23 f24 f25 f26 f27 f28 f29 => q_265_6 (q0 := q0) (n0 := ρ 5) (n1 := ρ 4) (n2 := ρ 3) (n3 := ρ 2) (n4 := ρ 1) (n5 := ρ 0) (n6 := ρ 6) (n7 := ρ 7) (n8 := ρ 8) (n9 := ρ 10) (n10 := ρ 11) (n11 := ρ 12) (n12 := ρ 13) (n13 := ρ 14) (H0 := η 0) (H1 := η 1) f29 f28 f27 f26 f25 f24 f23 f22 f21 f20 f19 f18 f17 f16 f15 f14 f13 f12 f11 f10 f9 f8 f7 f6 f5 f4 f3 f2 f1 f0
theorem q_265_7 {q0 : Nat} {n0 n1 n2 n3 n4 n5 n6 n7 n8 n9 n10 n11 n12 n13 n14 n15 n16 n17 n18 : Int} {H0 H1 : gH} (f0 : n0 ≤ 19) (f1 : 0 ≤ n0) (f2 : n1 ≤ 19) (f3 : 0 ≤ n1) (f4 : n2 ≤ 19) (f5 : 0 ≤ n2) (f6 : n3 = 285) (f7 : n4 ≤ 19) (f8 : 0 ≤ n4) (f9 : n5 = 285) (f10 : (hLe T0 H0 H1 ∧ hFr s_265.2.2.2.2 H0 H1 ∧ hWt T0 H1) ∧ (Ab_265_4 n5 n4 n3 n2 n1 n0 H0 H1 ∧ preb_265 n5 n4 H0) ∧ some q0 = some (mub_265_4 n5 n4 n3 n2 n1 n0 H0 H1)) (f11 : n6 = 328) (f12 : n6 = hV H1 (n3).toNat 66) (f13 : n7 ≤ 6) (f14 : 0 ≤ n7) (f15 : n7 = hV H1 (n6).toNat (n0).toNat) (f16 : n8 = 4) (f17 : n7 ≠ n8) (f18 : n9 = 329) (f19 : n9 = hV H1 (n3).toNat 67) (f20 : n10 = 328) (f21 : n10 = hV H1 (n3).toNat 66) (f22 : n11 ≤ 6) (f23 : 0 ≤ n11) (f24 : n11 = hV H1 (n10).toNat (n0).toNat) (f25 : n12 = 5) (f26 : n11 = n12) (f27 : n13 = 332) (f28 : n13 = hV H1 (n3).toNat 70) (f29 : n14 ≤ 19) (f30 : (-1) ≤ n14) (f31 : n14 = hV H1 (n13).toNat (n0).toNat) (f32 : n15 ≤ 240) (f33 : (-1) ≤ n15) (f34 : n15 = hV H1 (n9).toNat (n14).toNat) (f35 : n16 = (-1)) (f36 : n15 ≠ n16) (f37 : n17 = 1) (f38 : n18 = w32 (n1 - n17)) : 0 ≤ n15 := by
  have g4 := f10.2.1.1
  unfold Ab_265_4 at g4
  have g3 := f10.2.1.2
  unfold preb_265 at g3
  have e0 : hV H1 328 = hV H0 328 := fRow f10.1.2.1 328 kR_265_328
  have e1 : n7 = hV H0 328 (n0).toNat := (by rw [f11] at f15; exact f15 : n7 = hV H1 328 (n0).toNat).trans ((congrFun e0 _))
  have e2 : n11 = hV H0 328 (n0).toNat := (by rw [f20] at f24; exact f24 : n11 = hV H1 328 (n0).toNat).trans ((congrFun e0 _))
  have e3 : hV H1 332 = hV H0 332 := fRow f10.1.2.1 332 kR_265_332
  have e4 : n14 = hV H0 332 (n0).toNat := (by rw [f27] at f31; exact f31 : n14 = hV H1 332 (n0).toNat).trans ((congrFun e3 _))
  have e6 : n15 = hV H0 329 (n14).toNat := (by rw [f18] at f34; exact f34 : n15 = hV H1 329 (n14).toNat).trans ((congrFun (fRow f10.1.2.1 329 kR_265_329) _))
  have e9 : (0 : Int) ≤ hV H0 285 64 ∧ hV H0 285 64 ≤ 20 := bTo ((f10.1.2.1.1 285 64 kF_265_285_64)) (f10.1.2.2 285 64 _ _ kW_285_64)
  try simp only [e0, e3] at g4
  have k0 := g4.1
  have y0 := g4.2.1
  have y1 := g4.2.2.1
  have y2 := g4.2.2.2
  have p0 := g3.1
  have p1 := g3.2
  clear g3
  clear g4
  clear f12 f15 f19 f21 f24 f28 f31 f34 e0 e3
  subst e1
  subst e2
  subst e4
  subst e6
  unfold w32 at f38
  try have t4 := SO4 p1 (s := (n0).toNat) (by omega) (by omega)
  try have t5 := SO5 p1 (s := (n0).toNat) (by omega) (by omega)
  omega
theorem c_265_4_8 {q0 : Nat} : vOkm T0 (eP e_265 L_265 A_265 mu_265 (some q0)) 2 ([(2, [18, 4, 17], [], 0), (0, [17], [], 1), (41, [15, 16], [], 0), (0, [16], [], -1), (22, [15, 9, 14], [1], 0), (90, [15], [], -1), (91, [15], [], 240), (22, [14, 13, 5], [1], 0), (90, [14], [], -1), (91, [14], [], 19), (20, [13, 2], [1], 70), (0, [13], [], 332), (40, [11, 12], [], 0), (0, [12], [], 5), (22, [11, 10, 5], [1], 0), (90, [11], [], 0), (91, [11], [], 6), (20, [10, 2], [1], 66), (0, [10], [], 328), (20, [9, 2], [1], 67), (0, [9], [], 329), (41, [7, 8], [], 0), (0, [8], [], 4), (22, [7, 6, 5], [1], 0), (90, [7], [], 0), (91, [7], [], 6), (20, [6, 2], [1], 66), (0, [6], [], 328), (5000, [0, 1, 2, 3, 4, 5], [0, 1], 4), (0, [0], [], 285), (90, [1], [], 0), (91, [1], [], 19), (0, [2], [], 285), (90, [3], [], 0), (91, [3], [], 19), (90, [4], [], 0), (91, [4], [], 19), (90, [5], [], 0), (91, [5], [], 19)], (90, [15], [], 0)) := vOk_inI fun ρ η f0 f1 f2 f3 f4 f5 f6 f7 f8 f9 f10 f11 f12 f13 f14 f15 f16 f17 f18 f19 f20 f21 f22 f23 f24 f25 f26 f27 f28 f29 f30 f31 f32 f33 f34 f35 f36 f37 f38 => q_265_7 (q0 := q0) (n0 := ρ 5) (n1 := ρ 4) (n2 := ρ 3) (n3 := ρ 2) (n4 := ρ 1) (n5 := ρ 0) (n6 := ρ 6) (n7 := ρ 7) (n8 := ρ 8) (n9 := ρ 9) (n10 := ρ 10) (n11 := ρ 11) (n12 := ρ 12) (n13 := ρ 13) (n14 := ρ 14) (n15 := ρ 15) (n16 := ρ 16) (n17 := ρ 17) (n18 := ρ 18) (H0 := η 0) (H1 := η 1) f38 f37 f36 f35 f34 f33 f32 f31 f30 f29 f28 f27 f26 f25 f24 f23 f22 f21 f20 f19 f18 f17 f16 f15 f14 f13 f12 f11 f10 f9 f8 f7 f6 f5 f4 f3 f2 f1 f0
theorem q_265_8 {q0 : Nat} {n0 n1 n2 n3 n4 n5 n6 n7 n8 n9 n10 n11 n12 n13 n14 n15 : Int} {H0 H1 : gH} (f0 : n0 ≤ 19) (f1 : 0 ≤ n0) (f2 : n1 ≤ 19) (f3 : 0 ≤ n1) (f4 : n2 ≤ 19) (f5 : 0 ≤ n2) (f6 : n3 = 285) (f7 : n4 ≤ 19) (f8 : 0 ≤ n4) (f9 : n5 = 285) (f10 : (hLe T0 H0 H1 ∧ hFr s_265.2.2.2.2 H0 H1 ∧ hWt T0 H1) ∧ (Ab_265_4 n5 n4 n3 n2 n1 n0 H0 H1 ∧ preb_265 n5 n4 H0) ∧ some q0 = some (mub_265_4 n5 n4 n3 n2 n1 n0 H0 H1)) (f11 : n6 = 328) (f12 : n6 = hV H1 (n3).toNat 66) (f13 : n7 ≤ 6) (f14 : 0 ≤ n7) (f15 : n7 = hV H1 (n6).toNat (n0).toNat) (f16 : n8 = 4) (f17 : n7 ≠ n8) (f18 : n9 = 328) (f19 : n9 = hV H1 (n3).toNat 66) (f20 : n10 ≤ 6) (f21 : 0 ≤ n10) (f22 : n10 = hV H1 (n9).toNat (n0).toNat) (f23 : n11 = 5) (f24 : n10 = n11) (f25 : n12 = 332) (f26 : n12 = hV H1 (n3).toNat 70) (f27 : n13 ≤ 19) (f28 : (-1) ≤ n13) (f29 : n13 = hV H1 (n12).toNat (n0).toNat) (f30 : n14 = 1) (f31 : n15 = w32 (n1 - n14)) : (-1) ≤ n15 := by
  have g4 := f10.2.1.1
  unfold Ab_265_4 at g4
  have g3 := f10.2.1.2
  unfold preb_265 at g3
  have e0 : hV H1 328 = hV H0 328 := fRow f10.1.2.1 328 kR_265_328
  have e1 : n7 = hV H0 328 (n0).toNat := (by rw [f11] at f15; exact f15 : n7 = hV H1 328 (n0).toNat).trans ((congrFun e0 _))
  have e2 : n10 = hV H0 328 (n0).toNat := (by rw [f18] at f22; exact f22 : n10 = hV H1 328 (n0).toNat).trans ((congrFun e0 _))
  have e3 : hV H1 332 = hV H0 332 := fRow f10.1.2.1 332 kR_265_332
  have e4 : n13 = hV H0 332 (n0).toNat := (by rw [f25] at f29; exact f29 : n13 = hV H1 332 (n0).toNat).trans ((congrFun e3 _))
  have e7 : (0 : Int) ≤ hV H0 285 64 ∧ hV H0 285 64 ≤ 20 := bTo ((f10.1.2.1.1 285 64 kF_265_285_64)) (f10.1.2.2 285 64 _ _ kW_285_64)
  try simp only [e0, e3] at g4
  have k0 := g4.1
  have y0 := g4.2.1
  have y1 := g4.2.2.1
  have y2 := g4.2.2.2
  have p0 := g3.1
  have p1 := g3.2
  clear g3
  clear g4
  clear f12 f15 f19 f22 f26 f29 e0 e3
  subst e1
  subst e2
  subst e4
  try have t4 := SO4 p1 (s := (n0).toNat) (by omega) (by omega)
  try have t5 := SO5 p1 (s := (n0).toNat) (by omega) (by omega)
  first
  | (have ix0 : n15 = n1 - 1 := Eq.trans f31 (w32_iv (Isu (Iat f3 f2) (IC 1)) (by decide)); subst ix0; clear f31)
  | (have ix0 : n15 = n1 - 1 := Eq.trans f31 (w32_id (by omega) (by omega)); subst ix0; clear f31)
  | (unfold w32 at f31; have ix0 : n15 = n1 - 1 := (by omega); subst ix0)
  | skip
  try unfold w32 at f31
  omega
theorem c_265_4_9 {q0 : Nat} : vOkm T0 (eP e_265 L_265 A_265 mu_265 (some q0)) 2 ([(2, [18, 4, 17], [], 0), (0, [17], [], 1), (22, [14, 13, 5], [1], 0), (90, [14], [], -1), (91, [14], [], 19), (20, [13, 2], [1], 70), (0, [13], [], 332), (40, [11, 12], [], 0), (0, [12], [], 5), (22, [11, 10, 5], [1], 0), (90, [11], [], 0), (91, [11], [], 6), (20, [10, 2], [1], 66), (0, [10], [], 328), (41, [7, 8], [], 0), (0, [8], [], 4), (22, [7, 6, 5], [1], 0), (90, [7], [], 0), (91, [7], [], 6), (20, [6, 2], [1], 66), (0, [6], [], 328), (5000, [0, 1, 2, 3, 4, 5], [0, 1], 4), (0, [0], [], 285), (90, [1], [], 0), (91, [1], [], 19), (0, [2], [], 285), (90, [3], [], 0), (91, [3], [], 19), (90, [4], [], 0), (91, [4], [], 19), (90, [5], [], 0), (91, [5], [], 19)], (90, [18], [], -1)) := vOk_inI fun ρ η f0 f1 f2 f3 f4 f5 f6 f7 f8 f9 f10 f11 f12 f13 f14 f15 f16 f17 f18 f19 f20 f21 f22 f23 f24 f25 f26 f27 f28 f29 f30 f31 => q_265_8 (q0 := q0) (n0 := ρ 5) (n1 := ρ 4) (n2 := ρ 3) (n3 := ρ 2) (n4 := ρ 1) (n5 := ρ 0) (n6 := ρ 6) (n7 := ρ 7) (n8 := ρ 8) (n9 := ρ 10) (n10 := ρ 11) (n11 := ρ 12) (n12 := ρ 13) (n13 := ρ 14) (n14 := ρ 17) (n15 := ρ 18) (H0 := η 0) (H1 := η 1) f31 f30 f29 f28 f27 f26 f25 f24 f23 f22 f21 f20 f19 f18 f17 f16 f15 f14 f13 f12 f11 f10 f9 f8 f7 f6 f5 f4 f3 f2 f1 f0
theorem q_265_9 {q0 : Nat} {n0 n1 n2 n3 n4 n5 n6 n7 n8 n9 n10 n11 n12 n13 n14 n15 : Int} {H0 H1 : gH} (f0 : n0 ≤ 19) (f1 : 0 ≤ n0) (f2 : n1 ≤ 19) (f3 : 0 ≤ n1) (f4 : n2 ≤ 19) (f5 : 0 ≤ n2) (f6 : n3 = 285) (f7 : n4 ≤ 19) (f8 : 0 ≤ n4) (f9 : n5 = 285) (f10 : (hLe T0 H0 H1 ∧ hFr s_265.2.2.2.2 H0 H1 ∧ hWt T0 H1) ∧ (Ab_265_4 n5 n4 n3 n2 n1 n0 H0 H1 ∧ preb_265 n5 n4 H0) ∧ some q0 = some (mub_265_4 n5 n4 n3 n2 n1 n0 H0 H1)) (f11 : n6 = 328) (f12 : n6 = hV H1 (n3).toNat 66) (f13 : n7 ≤ 6) (f14 : 0 ≤ n7) (f15 : n7 = hV H1 (n6).toNat (n0).toNat) (f16 : n8 = 4) (f17 : n7 ≠ n8) (f18 : n9 = 328) (f19 : n9 = hV H1 (n3).toNat 66) (f20 : n10 ≤ 6) (f21 : 0 ≤ n10) (f22 : n10 = hV H1 (n9).toNat (n0).toNat) (f23 : n11 = 5) (f24 : n10 = n11) (f25 : n12 = 332) (f26 : n12 = hV H1 (n3).toNat 70) (f27 : n13 ≤ 19) (f28 : (-1) ≤ n13) (f29 : n13 = hV H1 (n12).toNat (n0).toNat) (f30 : n14 = 1) (f31 : n15 = w32 (n1 - n14)) : n15 ≤ 19 := by
  have g4 := f10.2.1.1
  unfold Ab_265_4 at g4
  have g3 := f10.2.1.2
  unfold preb_265 at g3
  have e0 : hV H1 328 = hV H0 328 := fRow f10.1.2.1 328 kR_265_328
  have e1 : n7 = hV H0 328 (n0).toNat := (by rw [f11] at f15; exact f15 : n7 = hV H1 328 (n0).toNat).trans ((congrFun e0 _))
  have e2 : n10 = hV H0 328 (n0).toNat := (by rw [f18] at f22; exact f22 : n10 = hV H1 328 (n0).toNat).trans ((congrFun e0 _))
  have e3 : hV H1 332 = hV H0 332 := fRow f10.1.2.1 332 kR_265_332
  have e4 : n13 = hV H0 332 (n0).toNat := (by rw [f25] at f29; exact f29 : n13 = hV H1 332 (n0).toNat).trans ((congrFun e3 _))
  have e7 : (0 : Int) ≤ hV H0 285 64 ∧ hV H0 285 64 ≤ 20 := bTo ((f10.1.2.1.1 285 64 kF_265_285_64)) (f10.1.2.2 285 64 _ _ kW_285_64)
  try simp only [e0, e3] at g4
  have k0 := g4.1
  have y0 := g4.2.1
  have y1 := g4.2.2.1
  have y2 := g4.2.2.2
  have p0 := g3.1
  have p1 := g3.2
  clear g3
  clear g4
  clear f12 f15 f19 f22 f26 f29 e0 e3
  subst e1
  subst e2
  subst e4
  try have t4 := SO4 p1 (s := (n0).toNat) (by omega) (by omega)
  try have t5 := SO5 p1 (s := (n0).toNat) (by omega) (by omega)
  first
  | (have ix0 : n15 = n1 - 1 := Eq.trans f31 (w32_iv (Isu (Iat f3 f2) (IC 1)) (by decide)); subst ix0; clear f31)
  | (have ix0 : n15 = n1 - 1 := Eq.trans f31 (w32_id (by omega) (by omega)); subst ix0; clear f31)
  | (unfold w32 at f31; have ix0 : n15 = n1 - 1 := (by omega); subst ix0)
  | skip
  try unfold w32 at f31
  omega
theorem c_265_4_10 {q0 : Nat} : vOkm T0 (eP e_265 L_265 A_265 mu_265 (some q0)) 2 ([(2, [18, 4, 17], [], 0), (0, [17], [], 1), (22, [14, 13, 5], [1], 0), (90, [14], [], -1), (91, [14], [], 19), (20, [13, 2], [1], 70), (0, [13], [], 332), (40, [11, 12], [], 0), (0, [12], [], 5), (22, [11, 10, 5], [1], 0), (90, [11], [], 0), (91, [11], [], 6), (20, [10, 2], [1], 66), (0, [10], [], 328), (41, [7, 8], [], 0), (0, [8], [], 4), (22, [7, 6, 5], [1], 0), (90, [7], [], 0), (91, [7], [], 6), (20, [6, 2], [1], 66), (0, [6], [], 328), (5000, [0, 1, 2, 3, 4, 5], [0, 1], 4), (0, [0], [], 285), (90, [1], [], 0), (91, [1], [], 19), (0, [2], [], 285), (90, [3], [], 0), (91, [3], [], 19), (90, [4], [], 0), (91, [4], [], 19), (90, [5], [], 0), (91, [5], [], 19)], (91, [18], [], 19)) := vOk_inI fun ρ η f0 f1 f2 f3 f4 f5 f6 f7 f8 f9 f10 f11 f12 f13 f14 f15 f16 f17 f18 f19 f20 f21 f22 f23 f24 f25 f26 f27 f28 f29 f30 f31 => q_265_9 (q0 := q0) (n0 := ρ 5) (n1 := ρ 4) (n2 := ρ 3) (n3 := ρ 2) (n4 := ρ 1) (n5 := ρ 0) (n6 := ρ 6) (n7 := ρ 7) (n8 := ρ 8) (n9 := ρ 10) (n10 := ρ 11) (n11 := ρ 12) (n12 := ρ 13) (n13 := ρ 14) (n14 := ρ 17) (n15 := ρ 18) (H0 := η 0) (H1 := η 1) f31 f30 f29 f28 f27 f26 f25 f24 f23 f22 f21 f20 f19 f18 f17 f16 f15 f14 f13 f12 f11 f10 f9 f8 f7 f6 f5 f4 f3 f2 f1 f0
theorem q_265_10 {q0 : Nat} {n0 n1 n2 n3 n4 n5 n6 n7 n8 n9 n10 n11 n12 n13 n14 n15 n16 n17 n18 : Int} {H0 H1 : gH} (f0 : n0 ≤ 19) (f1 : 0 ≤ n0) (f2 : n1 ≤ 19) (f3 : 0 ≤ n1) (f4 : n2 ≤ 19) (f5 : 0 ≤ n2) (f6 : n3 = 285) (f7 : n4 ≤ 19) (f8 : 0 ≤ n4) (f9 : n5 = 285) (f10 : (hLe T0 H0 H1 ∧ hFr s_265.2.2.2.2 H0 H1 ∧ hWt T0 H1) ∧ (Ab_265_4 n5 n4 n3 n2 n1 n0 H0 H1 ∧ preb_265 n5 n4 H0) ∧ some q0 = some (mub_265_4 n5 n4 n3 n2 n1 n0 H0 H1)) (f11 : n6 = 328) (f12 : n6 = hV H1 (n3).toNat 66) (f13 : n7 ≤ 6) (f14 : 0 ≤ n7) (f15 : n7 = hV H1 (n6).toNat (n0).toNat) (f16 : n8 = 4) (f17 : n7 ≠ n8) (f18 : n9 = 329) (f19 : n9 = hV H1 (n3).toNat 67) (f20 : n10 = 328) (f21 : n10 = hV H1 (n3).toNat 66) (f22 : n11 ≤ 6) (f23 : 0 ≤ n11) (f24 : n11 = hV H1 (n10).toNat (n0).toNat) (f25 : n12 = 5) (f26 : n11 = n12) (f27 : n13 = 332) (f28 : n13 = hV H1 (n3).toNat 70) (f29 : n14 ≤ 19) (f30 : (-1) ≤ n14) (f31 : n14 = hV H1 (n13).toNat (n0).toNat) (f32 : n15 ≤ 240) (f33 : (-1) ≤ n15) (f34 : n15 = hV H1 (n9).toNat (n14).toNat) (f35 : n16 = (-1)) (f36 : n15 ≠ n16) (f37 : n17 = 1) (f38 : n18 = w32 (n1 - n17)) : Ab_265_75 n5 n4 n3 n2 n1 n0 n15 n18 H0 H1 ∧ ∀ q, some q0 = some q → mub_265_75 n5 n4 n3 n2 n1 n0 n15 n18 H0 H1 < q := by
  have g4 := f10.2.1.1
  unfold Ab_265_4 at g4
  have g3 := f10.2.1.2
  unfold preb_265 at g3
  have g5 := Option.some.inj f10.2.2
  unfold mub_265_4 at g5
  unfold Ab_265_75
  unfold mub_265_75
  have e0 : hV H1 328 = hV H0 328 := fRow f10.1.2.1 328 kR_265_328
  have e1 : n7 = hV H0 328 (n0).toNat := (by rw [f11] at f15; exact f15 : n7 = hV H1 328 (n0).toNat).trans ((congrFun e0 _))
  have e2 : n11 = hV H0 328 (n0).toNat := (by rw [f20] at f24; exact f24 : n11 = hV H1 328 (n0).toNat).trans ((congrFun e0 _))
  have e3 : hV H1 332 = hV H0 332 := fRow f10.1.2.1 332 kR_265_332
  have e4 : n14 = hV H0 332 (n0).toNat := (by rw [f27] at f31; exact f31 : n14 = hV H1 332 (n0).toNat).trans ((congrFun e3 _))
  have e6 : n15 = hV H0 329 (n14).toNat := (by rw [f18] at f34; exact f34 : n15 = hV H1 329 (n14).toNat).trans ((congrFun (fRow f10.1.2.1 329 kR_265_329) _))
  have e9 : hV H1 330 = hV H0 330 := fRow f10.1.2.1 330 kR_265_330
  have e10 : (0 : Int) ≤ hV H0 285 64 ∧ hV H0 285 64 ≤ 20 := bTo ((f10.1.2.1.1 285 64 kF_265_285_64)) (f10.1.2.2 285 64 _ _ kW_285_64)
  try simp only [e0, e3] at g4
  try simp only [e0, e9, e3]
  have k0 := g4.1
  have y0 := g4.2.1
  have y1 := g4.2.2.1
  have y2 := g4.2.2.2
  have p0 := g3.1
  have p1 := g3.2
  clear g3
  clear g4
  clear f12 f15 f19 f21 f24 f28 f31 f34 e0 e3 e9
  subst e1
  subst e2
  subst e4
  subst e6
  try have t4 := SO4 p1 (s := (n0).toNat) (by omega) (by omega)
  try have t5 := SO5 p1 (s := (n0).toNat) (by omega) (by omega)
  first
  | (have ix0 : n18 = n1 - 1 := Eq.trans f38 (w32_iv (Isu (Iat f3 f2) (IC 1)) (by decide)); subst ix0; clear f38)
  | (have ix0 : n18 = n1 - 1 := Eq.trans f38 (w32_id (by omega) (by omega)); subst ix0; clear f38)
  | (unfold w32 at f38; have ix0 : n18 = n1 - 1 := (by omega); subst ix0)
  | skip
  try unfold w32 at f38

  refine ⟨?_, fun q hq => ?_⟩
  · exact ⟨by omega, by omega, by omega, y2, LNp_first (by omega) (by omega) (by omega)⟩
  · have g6 := Option.some.inj hq
    subst g6
    omega
theorem c_265_4_11 {q0 : Nat} : vOkm T0 (eP e_265 L_265 A_265 mu_265 (some q0)) 2 ([(2, [18, 4, 17], [], 0), (0, [17], [], 1), (41, [15, 16], [], 0), (0, [16], [], -1), (22, [15, 9, 14], [1], 0), (90, [15], [], -1), (91, [15], [], 240), (22, [14, 13, 5], [1], 0), (90, [14], [], -1), (91, [14], [], 19), (20, [13, 2], [1], 70), (0, [13], [], 332), (40, [11, 12], [], 0), (0, [12], [], 5), (22, [11, 10, 5], [1], 0), (90, [11], [], 0), (91, [11], [], 6), (20, [10, 2], [1], 66), (0, [10], [], 328), (20, [9, 2], [1], 67), (0, [9], [], 329), (41, [7, 8], [], 0), (0, [8], [], 4), (22, [7, 6, 5], [1], 0), (90, [7], [], 0), (91, [7], [], 6), (20, [6, 2], [1], 66), (0, [6], [], 328), (5000, [0, 1, 2, 3, 4, 5], [0, 1], 4), (0, [0], [], 285), (90, [1], [], 0), (91, [1], [], 19), (0, [2], [], 285), (90, [3], [], 0), (91, [3], [], 19), (90, [4], [], 0), (91, [4], [], 19), (90, [5], [], 0), (91, [5], [], 19)], (4000, [2, 3, 4, 5, 15, 18], [1], 75)) := vOk_inI fun ρ η f0 f1 f2 f3 f4 f5 f6 f7 f8 f9 f10 f11 f12 f13 f14 f15 f16 f17 f18 f19 f20 f21 f22 f23 f24 f25 f26 f27 f28 f29 f30 f31 f32 f33 f34 f35 f36 f37 f38 => q_265_10 (q0 := q0) (n0 := ρ 5) (n1 := ρ 4) (n2 := ρ 3) (n3 := ρ 2) (n4 := ρ 1) (n5 := ρ 0) (n6 := ρ 6) (n7 := ρ 7) (n8 := ρ 8) (n9 := ρ 9) (n10 := ρ 10) (n11 := ρ 11) (n12 := ρ 12) (n13 := ρ 13) (n14 := ρ 14) (n15 := ρ 15) (n16 := ρ 16) (n17 := ρ 17) (n18 := ρ 18) (H0 := η 0) (H1 := η 1) f38 f37 f36 f35 f34 f33 f32 f31 f30 f29 f28 f27 f26 f25 f24 f23 f22 f21 f20 f19 f18 f17 f16 f15 f14 f13 f12 f11 f10 f9 f8 f7 f6 f5 f4 f3 f2 f1 f0
theorem c_265_4_12 {q0 : Nat} : vOkm T0 (eP e_265 L_265 A_265 mu_265 (some q0)) 2 ([(2, [19, 4, 18], [], 0), (0, [18], [], 1), (22, [14, 13, 5], [1], 0), (90, [14], [], -1), (91, [14], [], 19), (20, [13, 2], [1], 70), (0, [13], [], 332), (40, [11, 12], [], 0), (0, [12], [], 5), (22, [11, 10, 5], [1], 0), (90, [11], [], 0), (91, [11], [], 6), (20, [10, 2], [1], 66), (0, [10], [], 328), (41, [7, 8], [], 0), (0, [8], [], 4), (22, [7, 6, 5], [1], 0), (90, [7], [], 0), (91, [7], [], 6), (20, [6, 2], [1], 66), (0, [6], [], 328), (5000, [0, 1, 2, 3, 4, 5], [0, 1], 4), (0, [0], [], 285), (90, [1], [], 0), (91, [1], [], 19), (0, [2], [], 285), (90, [3], [], 0), (91, [3], [], 19), (90, [4], [], 0), (91, [4], [], 19), (90, [5], [], 0), (91, [5], [], 19)], (90, [19], [], -1)) := vOk_inI fun ρ η f0 f1 f2 f3 f4 f5 f6 f7 f8 f9 f10 f11 f12 f13 f14 f15 f16 f17 f18 f19 f20 f21 f22 f23 f24 f25 f26 f27 f28 f29 f30 f31 => q_265_8 (q0 := q0) (n0 := ρ 5) (n1 := ρ 4) (n2 := ρ 3) (n3 := ρ 2) (n4 := ρ 1) (n5 := ρ 0) (n6 := ρ 6) (n7 := ρ 7) (n8 := ρ 8) (n9 := ρ 10) (n10 := ρ 11) (n11 := ρ 12) (n12 := ρ 13) (n13 := ρ 14) (n14 := ρ 18) (n15 := ρ 19) (H0 := η 0) (H1 := η 1) f31 f30 f29 f28 f27 f26 f25 f24 f23 f22 f21 f20 f19 f18 f17 f16 f15 f14 f13 f12 f11 f10 f9 f8 f7 f6 f5 f4 f3 f2 f1 f0
theorem c_265_4_13 {q0 : Nat} : vOkm T0 (eP e_265 L_265 A_265 mu_265 (some q0)) 2 ([(2, [19, 4, 18], [], 0), (0, [18], [], 1), (22, [14, 13, 5], [1], 0), (90, [14], [], -1), (91, [14], [], 19), (20, [13, 2], [1], 70), (0, [13], [], 332), (40, [11, 12], [], 0), (0, [12], [], 5), (22, [11, 10, 5], [1], 0), (90, [11], [], 0), (91, [11], [], 6), (20, [10, 2], [1], 66), (0, [10], [], 328), (41, [7, 8], [], 0), (0, [8], [], 4), (22, [7, 6, 5], [1], 0), (90, [7], [], 0), (91, [7], [], 6), (20, [6, 2], [1], 66), (0, [6], [], 328), (5000, [0, 1, 2, 3, 4, 5], [0, 1], 4), (0, [0], [], 285), (90, [1], [], 0), (91, [1], [], 19), (0, [2], [], 285), (90, [3], [], 0), (91, [3], [], 19), (90, [4], [], 0), (91, [4], [], 19), (90, [5], [], 0), (91, [5], [], 19)], (91, [19], [], 19)) := vOk_inI fun ρ η f0 f1 f2 f3 f4 f5 f6 f7 f8 f9 f10 f11 f12 f13 f14 f15 f16 f17 f18 f19 f20 f21 f22 f23 f24 f25 f26 f27 f28 f29 f30 f31 => q_265_9 (q0 := q0) (n0 := ρ 5) (n1 := ρ 4) (n2 := ρ 3) (n3 := ρ 2) (n4 := ρ 1) (n5 := ρ 0) (n6 := ρ 6) (n7 := ρ 7) (n8 := ρ 8) (n9 := ρ 10) (n10 := ρ 11) (n11 := ρ 12) (n12 := ρ 13) (n13 := ρ 14) (n14 := ρ 18) (n15 := ρ 19) (H0 := η 0) (H1 := η 1) f31 f30 f29 f28 f27 f26 f25 f24 f23 f22 f21 f20 f19 f18 f17 f16 f15 f14 f13 f12 f11 f10 f9 f8 f7 f6 f5 f4 f3 f2 f1 f0
theorem q_265_11 {q0 : Nat} {n0 n1 n2 n3 n4 n5 n6 n7 n8 n9 n10 n11 n12 n13 n14 n15 n16 : Int} {H0 H1 : gH} (f0 : n0 ≤ 19) (f1 : 0 ≤ n0) (f2 : n1 ≤ 19) (f3 : 0 ≤ n1) (f4 : n2 ≤ 19) (f5 : 0 ≤ n2) (f6 : n3 = 285) (f7 : n4 ≤ 19) (f8 : 0 ≤ n4) (f9 : n5 = 285) (f10 : (hLe T0 H0 H1 ∧ hFr s_265.2.2.2.2 H0 H1 ∧ hWt T0 H1) ∧ (Ab_265_4 n5 n4 n3 n2 n1 n0 H0 H1 ∧ preb_265 n5 n4 H0) ∧ some q0 = some (mub_265_4 n5 n4 n3 n2 n1 n0 H0 H1)) (f11 : n6 = 328) (f12 : n6 = hV H1 (n3).toNat 66) (f13 : n7 ≤ 6) (f14 : 0 ≤ n7) (f15 : n7 = hV H1 (n6).toNat (n0).toNat) (f16 : n8 = 4) (f17 : n7 ≠ n8) (f18 : n9 = 328) (f19 : n9 = hV H1 (n3).toNat 66) (f20 : n10 ≤ 6) (f21 : 0 ≤ n10) (f22 : n10 = hV H1 (n9).toNat (n0).toNat) (f23 : n11 = 5) (f24 : n10 = n11) (f25 : n12 = 332) (f26 : n12 = hV H1 (n3).toNat 70) (f27 : n13 ≤ 19) (f28 : (-1) ≤ n13) (f29 : n13 = hV H1 (n12).toNat (n0).toNat) (f30 : n14 = 0) (f31 : n15 = 1) (f32 : n16 = w32 (n1 - n15)) : Ab_265_75 n5 n4 n3 n2 n1 n0 n14 n16 H0 H1 ∧ ∀ q, some q0 = some q → mub_265_75 n5 n4 n3 n2 n1 n0 n14 n16 H0 H1 < q := by
  have g4 := f10.2.1.1
  unfold Ab_265_4 at g4
  have g3 := f10.2.1.2
  unfold preb_265 at g3
  have g5 := Option.some.inj f10.2.2
  unfold mub_265_4 at g5
  unfold Ab_265_75
  unfold mub_265_75
  have e0 : hV H1 328 = hV H0 328 := fRow f10.1.2.1 328 kR_265_328
  have e1 : n7 = hV H0 328 (n0).toNat := (by rw [f11] at f15; exact f15 : n7 = hV H1 328 (n0).toNat).trans ((congrFun e0 _))
  have e2 : n10 = hV H0 328 (n0).toNat := (by rw [f18] at f22; exact f22 : n10 = hV H1 328 (n0).toNat).trans ((congrFun e0 _))
  have e3 : hV H1 332 = hV H0 332 := fRow f10.1.2.1 332 kR_265_332
  have e4 : n13 = hV H0 332 (n0).toNat := (by rw [f25] at f29; exact f29 : n13 = hV H1 332 (n0).toNat).trans ((congrFun e3 _))
  have e7 : hV H1 330 = hV H0 330 := fRow f10.1.2.1 330 kR_265_330
  have e8 : (0 : Int) ≤ hV H0 285 64 ∧ hV H0 285 64 ≤ 20 := bTo ((f10.1.2.1.1 285 64 kF_265_285_64)) (f10.1.2.2 285 64 _ _ kW_285_64)
  try simp only [e0, e3] at g4
  try simp only [e0, e7, e3]
  have k0 := g4.1
  have y0 := g4.2.1
  have y1 := g4.2.2.1
  have y2 := g4.2.2.2
  have p0 := g3.1
  have p1 := g3.2
  clear g3
  clear g4
  clear f12 f15 f19 f22 f26 f29 e0 e3 e7
  subst e1
  subst e2
  subst e4
  try have t4 := SO4 p1 (s := (n0).toNat) (by omega) (by omega)
  try have t5 := SO5 p1 (s := (n0).toNat) (by omega) (by omega)
  first
  | (have ix0 : n16 = n1 - 1 := Eq.trans f32 (w32_iv (Isu (Iat f3 f2) (IC 1)) (by decide)); subst ix0; clear f32)
  | (have ix0 : n16 = n1 - 1 := Eq.trans f32 (w32_id (by omega) (by omega)); subst ix0; clear f32)
  | (unfold w32 at f32; have ix0 : n16 = n1 - 1 := (by omega); subst ix0)
  | skip
  try unfold w32 at f32

  refine ⟨?_, fun q hq => ?_⟩
  · exact ⟨by omega, by omega, by omega, y2, LNp_first (by omega) (by omega) (by omega)⟩
  · have g6 := Option.some.inj hq
    subst g6
    omega
theorem c_265_4_14 {q0 : Nat} : vOkm T0 (eP e_265 L_265 A_265 mu_265 (some q0)) 2 ([(2, [19, 4, 18], [], 0), (0, [18], [], 1), (0, [17], [], 0), (22, [14, 13, 5], [1], 0), (90, [14], [], -1), (91, [14], [], 19), (20, [13, 2], [1], 70), (0, [13], [], 332), (40, [11, 12], [], 0), (0, [12], [], 5), (22, [11, 10, 5], [1], 0), (90, [11], [], 0), (91, [11], [], 6), (20, [10, 2], [1], 66), (0, [10], [], 328), (41, [7, 8], [], 0), (0, [8], [], 4), (22, [7, 6, 5], [1], 0), (90, [7], [], 0), (91, [7], [], 6), (20, [6, 2], [1], 66), (0, [6], [], 328), (5000, [0, 1, 2, 3, 4, 5], [0, 1], 4), (0, [0], [], 285), (90, [1], [], 0), (91, [1], [], 19), (0, [2], [], 285), (90, [3], [], 0), (91, [3], [], 19), (90, [4], [], 0), (91, [4], [], 19), (90, [5], [], 0), (91, [5], [], 19)], (4000, [2, 3, 4, 5, 17, 19], [1], 75)) := vOk_inI fun ρ η f0 f1 f2 f3 f4 f5 f6 f7 f8 f9 f10 f11 f12 f13 f14 f15 f16 f17 f18 f19 f20 f21 f22 f23 f24 f25 f26 f27 f28 f29 f30 f31 f32 => q_265_11 (q0 := q0) (n0 := ρ 5) (n1 := ρ 4) (n2 := ρ 3) (n3 := ρ 2) (n4 := ρ 1) (n5 := ρ 0) (n6 := ρ 6) (n7 := ρ 7) (n8 := ρ 8) (n9 := ρ 10) (n10 := ρ 11) (n11 := ρ 12) (n12 := ρ 13) (n13 := ρ 14) (n14 := ρ 17) (n15 := ρ 18) (n16 := ρ 19) (H0 := η 0) (H1 := η 1) f32 f31 f30 f29 f28 f27 f26 f25 f24 f23 f22 f21 f20 f19 f18 f17 f16 f15 f14 f13 f12 f11 f10 f9 f8 f7 f6 f5 f4 f3 f2 f1 f0
theorem q_265_12 {q0 : Nat} {n0 n1 n2 n3 n4 n5 n6 n7 n8 n9 n10 n11 n12 : Int} {H0 H1 H2 : gH} (f0 : n0 ≤ 19) (f1 : 0 ≤ n0) (f2 : n1 ≤ 19) (f3 : 0 ≤ n1) (f4 : n2 ≤ 19) (f5 : 0 ≤ n2) (f6 : n3 = 285) (f7 : n4 ≤ 19) (f8 : 0 ≤ n4) (f9 : n5 = 285) (f10 : (hLe T0 H0 H1 ∧ hFr s_265.2.2.2.2 H0 H1 ∧ hWt T0 H1) ∧ (Ab_265_4 n5 n4 n3 n2 n1 n0 H0 H1 ∧ preb_265 n5 n4 H0) ∧ some q0 = some (mub_265_4 n5 n4 n3 n2 n1 n0 H0 H1)) (f11 : n6 = 328) (f12 : n6 = hV H1 (n3).toNat 66) (f13 : n7 ≤ 6) (f14 : 0 ≤ n7) (f15 : n7 = hV H1 (n6).toNat (n0).toNat) (f16 : n8 = 4) (f17 : n7 = n8) (f18 : n9 = 343) (f19 : n9 = hV H1 (n3).toNat 81) (f20 : hUpd H2 H1 n9 n1 n0) (f21 : n10 = w32 (n1 + 1)) (f22 : n11 = 332) (f23 : n11 = hV H2 (n3).toNat 70) (f24 : n12 ≤ 19) (f25 : (-1) ≤ n12) (f26 : n12 = hV H2 (n11).toNat (n0).toNat) : 0 ≤ n10 := by
  have g4 := f10.2.1.1
  unfold Ab_265_4 at g4
  have g3 := f10.2.1.2
  unfold preb_265 at g3
  have e0 : hV H1 328 = hV H0 328 := fRow f10.1.2.1 328 kR_265_328
  have e1 : n7 = hV H0 328 (n0).toNat := (by rw [f11] at f15; exact f15 : n7 = hV H1 328 (n0).toNat).trans ((congrFun e0 _))
  have e3 : hV H1 332 = hV H0 332 := fRow f10.1.2.1 332 kR_265_332
  have e4 : n12 = hV H0 332 (n0).toNat := (by rw [f22] at f26; exact f26 : n12 = hV H2 332 (n0).toNat).trans (((congrFun (uRowNe f20 332 (iS (show n9 = ((343 : Nat) : Int) from f18) rfl)) _)).trans ((congrFun e3 _)))
  have e7 : (0 : Int) ≤ hV H0 285 64 ∧ hV H0 285 64 ≤ 20 := bTo ((f10.1.2.1.1 285 64 kF_265_285_64)) (f10.1.2.2 285 64 _ _ kW_285_64)
  try simp only [e0, e3] at g4
  have k0 := g4.1
  have y0 := g4.2.1
  have y1 := g4.2.2.1
  have y2 := g4.2.2.2
  have p0 := g3.1
  have p1 := g3.2
  clear g3
  clear g4
  clear f12 f15 f19 f23 f26 e0 e3
  subst e1
  subst e4
  try have t4 := SO4 p1 (s := (n0).toNat) (by omega) (by omega)
  try have t5 := SO5 p1 (s := (n0).toNat) (by omega) (by omega)
  first
  | (have ix0 : n10 = n1 + 1 := Eq.trans f21 (w32_iv (Iad (Iat f3 f2) (IC 1)) (by decide)); subst ix0; clear f21)
  | (have ix0 : n10 = n1 + 1 := Eq.trans f21 (w32_id (by omega) (by omega)); subst ix0; clear f21)
  | (unfold w32 at f21; have ix0 : n10 = n1 + 1 := (by omega); subst ix0)
  | skip
  try unfold w32 at f21
  omega
theorem c_265_4_15 {q0 : Nat} : vOkm T0 (eP e_265 L_265 A_265 mu_265 (some q0)) 2 ([(22, [12, 11, 5], [2], 0), (90, [12], [], -1), (91, [12], [], 19), (20, [11, 2], [2], 70), (0, [11], [], 332), (10, [10, 4], [], 1), (80, [9, 4, 5], [2, 1], 0), (20, [9, 2], [1], 81), (0, [9], [], 343), (40, [7, 8], [], 0), (0, [8], [], 4), (22, [7, 6, 5], [1], 0), (90, [7], [], 0), (91, [7], [], 6), (20, [6, 2], [1], 66), (0, [6], [], 328), (5000, [0, 1, 2, 3, 4, 5], [0, 1], 4), (0, [0], [], 285), (90, [1], [], 0), (91, [1], [], 19), (0, [2], [], 285), (90, [3], [], 0), (91, [3], [], 19), (90, [4], [], 0), (91, [4], [], 19), (90, [5], [], 0), (91, [5], [], 19)], (90, [10], [], 0)) := vOk_inI fun ρ η f0 f1 f2 f3 f4 f5 f6 f7 f8 f9 f10 f11 f12 f13 f14 f15 f16 f17 f18 f19 f20 f21 f22 f23 f24 f25 f26 => q_265_12 (q0 := q0) (n0 := ρ 5) (n1 := ρ 4) (n2 := ρ 3) (n3 := ρ 2) (n4 := ρ 1) (n5 := ρ 0) (n6 := ρ 6) (n7 := ρ 7) (n8 := ρ 8) (n9 := ρ 9) (n10 := ρ 10) (n11 := ρ 11) (n12 := ρ 12) (H0 := η 0) (H1 := η 1) (H2 := η 2) f26 f25 f24 f23 f22 f21 f20 f19 f18 f17 f16 f15 f14 f13 f12 f11 f10 f9 f8 f7 f6 f5 f4 f3 f2 f1 f0
theorem q_265_13 {q0 : Nat} {n0 n1 n2 n3 n4 n5 n6 n7 n8 n9 n10 n11 n12 : Int} {H0 H1 H2 : gH} (f0 : n0 ≤ 19) (f1 : 0 ≤ n0) (f2 : n1 ≤ 19) (f3 : 0 ≤ n1) (f4 : n2 ≤ 19) (f5 : 0 ≤ n2) (f6 : n3 = 285) (f7 : n4 ≤ 19) (f8 : 0 ≤ n4) (f9 : n5 = 285) (f10 : (hLe T0 H0 H1 ∧ hFr s_265.2.2.2.2 H0 H1 ∧ hWt T0 H1) ∧ (Ab_265_4 n5 n4 n3 n2 n1 n0 H0 H1 ∧ preb_265 n5 n4 H0) ∧ some q0 = some (mub_265_4 n5 n4 n3 n2 n1 n0 H0 H1)) (f11 : n6 = 328) (f12 : n6 = hV H1 (n3).toNat 66) (f13 : n7 ≤ 6) (f14 : 0 ≤ n7) (f15 : n7 = hV H1 (n6).toNat (n0).toNat) (f16 : n8 = 4) (f17 : n7 = n8) (f18 : n9 = 343) (f19 : n9 = hV H1 (n3).toNat 81) (f20 : hUpd H2 H1 n9 n1 n0) (f21 : n10 = w32 (n1 + 1)) (f22 : n11 = 332) (f23 : n11 = hV H2 (n3).toNat 70) (f24 : n12 ≤ 19) (f25 : (-1) ≤ n12) (f26 : n12 = hV H2 (n11).toNat (n0).toNat) : n10 ≤ 19 := by
  have g4 := f10.2.1.1
  unfold Ab_265_4 at g4
  have g3 := f10.2.1.2
  unfold preb_265 at g3
  have e0 : hV H1 328 = hV H0 328 := fRow f10.1.2.1 328 kR_265_328
  have e1 : n7 = hV H0 328 (n0).toNat := (by rw [f11] at f15; exact f15 : n7 = hV H1 328 (n0).toNat).trans ((congrFun e0 _))
  have e3 : hV H1 332 = hV H0 332 := fRow f10.1.2.1 332 kR_265_332
  have e4 : n12 = hV H0 332 (n0).toNat := (by rw [f22] at f26; exact f26 : n12 = hV H2 332 (n0).toNat).trans (((congrFun (uRowNe f20 332 (iS (show n9 = ((343 : Nat) : Int) from f18) rfl)) _)).trans ((congrFun e3 _)))
  have e7 : (0 : Int) ≤ hV H0 285 64 ∧ hV H0 285 64 ≤ 20 := bTo ((f10.1.2.1.1 285 64 kF_265_285_64)) (f10.1.2.2 285 64 _ _ kW_285_64)
  try simp only [e0, e3] at g4
  have k0 := g4.1
  have y0 := g4.2.1
  have y1 := g4.2.2.1
  have y2 := g4.2.2.2
  have p0 := g3.1
  have p1 := g3.2
  clear g3
  clear g4
  clear f12 f15 f19 f23 f26 e0 e3
  subst e1
  subst e4
  try have t4 := SO4 p1 (s := (n0).toNat) (by omega) (by omega)
  try have t5 := SO5 p1 (s := (n0).toNat) (by omega) (by omega)
  first
  | (have ix0 : n10 = n1 + 1 := Eq.trans f21 (w32_iv (Iad (Iat f3 f2) (IC 1)) (by decide)); subst ix0; clear f21)
  | (have ix0 : n10 = n1 + 1 := Eq.trans f21 (w32_id (by omega) (by omega)); subst ix0; clear f21)
  | (unfold w32 at f21; have ix0 : n10 = n1 + 1 := (by omega); subst ix0)
  | skip
  try unfold w32 at f21
  omega
theorem c_265_4_16 {q0 : Nat} : vOkm T0 (eP e_265 L_265 A_265 mu_265 (some q0)) 2 ([(22, [12, 11, 5], [2], 0), (90, [12], [], -1), (91, [12], [], 19), (20, [11, 2], [2], 70), (0, [11], [], 332), (10, [10, 4], [], 1), (80, [9, 4, 5], [2, 1], 0), (20, [9, 2], [1], 81), (0, [9], [], 343), (40, [7, 8], [], 0), (0, [8], [], 4), (22, [7, 6, 5], [1], 0), (90, [7], [], 0), (91, [7], [], 6), (20, [6, 2], [1], 66), (0, [6], [], 328), (5000, [0, 1, 2, 3, 4, 5], [0, 1], 4), (0, [0], [], 285), (90, [1], [], 0), (91, [1], [], 19), (0, [2], [], 285), (90, [3], [], 0), (91, [3], [], 19), (90, [4], [], 0), (91, [4], [], 19), (90, [5], [], 0), (91, [5], [], 19)], (91, [10], [], 19)) := vOk_inI fun ρ η f0 f1 f2 f3 f4 f5 f6 f7 f8 f9 f10 f11 f12 f13 f14 f15 f16 f17 f18 f19 f20 f21 f22 f23 f24 f25 f26 => q_265_13 (q0 := q0) (n0 := ρ 5) (n1 := ρ 4) (n2 := ρ 3) (n3 := ρ 2) (n4 := ρ 1) (n5 := ρ 0) (n6 := ρ 6) (n7 := ρ 7) (n8 := ρ 8) (n9 := ρ 9) (n10 := ρ 10) (n11 := ρ 11) (n12 := ρ 12) (H0 := η 0) (H1 := η 1) (H2 := η 2) f26 f25 f24 f23 f22 f21 f20 f19 f18 f17 f16 f15 f14 f13 f12 f11 f10 f9 f8 f7 f6 f5 f4 f3 f2 f1 f0
theorem q_265_14 {q0 : Nat} {n0 n1 n2 n3 n4 n5 n6 n7 n8 n9 n10 n11 n12 : Int} {H0 H1 H2 : gH} (f0 : n0 ≤ 19) (f1 : 0 ≤ n0) (f2 : n1 ≤ 19) (f3 : 0 ≤ n1) (f4 : n2 ≤ 19) (f5 : 0 ≤ n2) (f6 : n3 = 285) (f7 : n4 ≤ 19) (f8 : 0 ≤ n4) (f9 : n5 = 285) (f10 : (hLe T0 H0 H1 ∧ hFr s_265.2.2.2.2 H0 H1 ∧ hWt T0 H1) ∧ (Ab_265_4 n5 n4 n3 n2 n1 n0 H0 H1 ∧ preb_265 n5 n4 H0) ∧ some q0 = some (mub_265_4 n5 n4 n3 n2 n1 n0 H0 H1)) (f11 : n6 = 328) (f12 : n6 = hV H1 (n3).toNat 66) (f13 : n7 ≤ 6) (f14 : 0 ≤ n7) (f15 : n7 = hV H1 (n6).toNat (n0).toNat) (f16 : n8 = 4) (f17 : n7 = n8) (f18 : n9 = 343) (f19 : n9 = hV H1 (n3).toNat 81) (f20 : hUpd H2 H1 n9 n1 n0) (f21 : n10 = w32 (n1 + 1)) (f22 : n11 = 332) (f23 : n11 = hV H2 (n3).toNat 70) (f24 : n12 ≤ 19) (f25 : (-1) ≤ n12) (f26 : n12 = hV H2 (n11).toNat (n0).toNat) : 0 ≤ n12 := by
  have g4 := f10.2.1.1
  unfold Ab_265_4 at g4
  have g3 := f10.2.1.2
  unfold preb_265 at g3
  have e0 : hV H1 328 = hV H0 328 := fRow f10.1.2.1 328 kR_265_328
  have e1 : n7 = hV H0 328 (n0).toNat := (by rw [f11] at f15; exact f15 : n7 = hV H1 328 (n0).toNat).trans ((congrFun e0 _))
  have e3 : hV H1 332 = hV H0 332 := fRow f10.1.2.1 332 kR_265_332
  have e4 : n12 = hV H0 332 (n0).toNat := (by rw [f22] at f26; exact f26 : n12 = hV H2 332 (n0).toNat).trans (((congrFun (uRowNe f20 332 (iS (show n9 = ((343 : Nat) : Int) from f18) rfl)) _)).trans ((congrFun e3 _)))
  have e7 : (0 : Int) ≤ hV H0 285 64 ∧ hV H0 285 64 ≤ 20 := bTo ((f10.1.2.1.1 285 64 kF_265_285_64)) (f10.1.2.2 285 64 _ _ kW_285_64)
  try simp only [e0, e3] at g4
  have k0 := g4.1
  have y0 := g4.2.1
  have y1 := g4.2.2.1
  have y2 := g4.2.2.2
  have p0 := g3.1
  have p1 := g3.2
  clear g3
  clear g4
  clear f12 f15 f19 f23 f26 e0 e3
  subst e1
  subst e4
  unfold w32 at f21
  try have t4 := SO4 p1 (s := (n0).toNat) (by omega) (by omega)
  try have t5 := SO5 p1 (s := (n0).toNat) (by omega) (by omega)
  omega
theorem c_265_4_17 {q0 : Nat} : vOkm T0 (eP e_265 L_265 A_265 mu_265 (some q0)) 2 ([(22, [12, 11, 5], [2], 0), (90, [12], [], -1), (91, [12], [], 19), (20, [11, 2], [2], 70), (0, [11], [], 332), (10, [10, 4], [], 1), (80, [9, 4, 5], [2, 1], 0), (20, [9, 2], [1], 81), (0, [9], [], 343), (40, [7, 8], [], 0), (0, [8], [], 4), (22, [7, 6, 5], [1], 0), (90, [7], [], 0), (91, [7], [], 6), (20, [6, 2], [1], 66), (0, [6], [], 328), (5000, [0, 1, 2, 3, 4, 5], [0, 1], 4), (0, [0], [], 285), (90, [1], [], 0), (91, [1], [], 19), (0, [2], [], 285), (90, [3], [], 0), (91, [3], [], 19), (90, [4], [], 0), (91, [4], [], 19), (90, [5], [], 0), (91, [5], [], 19)], (90, [12], [], 0)) := vOk_inI fun ρ η f0 f1 f2 f3 f4 f5 f6 f7 f8 f9 f10 f11 f12 f13 f14 f15 f16 f17 f18 f19 f20 f21 f22 f23 f24 f25 f26 => q_265_14 (q0 := q0) (n0 := ρ 5) (n1 := ρ 4) (n2 := ρ 3) (n3 := ρ 2) (n4 := ρ 1) (n5 := ρ 0) (n6 := ρ 6) (n7 := ρ 7) (n8 := ρ 8) (n9 := ρ 9) (n10 := ρ 10) (n11 := ρ 11) (n12 := ρ 12) (H0 := η 0) (H1 := η 1) (H2 := η 2) f26 f25 f24 f23 f22 f21 f20 f19 f18 f17 f16 f15 f14 f13 f12 f11 f10 f9 f8 f7 f6 f5 f4 f3 f2 f1 f0
theorem q_265_15 {q0 : Nat} {n0 n1 n2 n3 n4 n5 n6 n7 n8 n9 n10 n11 n12 : Int} {H0 H1 H2 : gH} (f0 : n0 ≤ 19) (f1 : 0 ≤ n0) (f2 : n1 ≤ 19) (f3 : 0 ≤ n1) (f4 : n2 ≤ 19) (f5 : 0 ≤ n2) (f6 : n3 = 285) (f7 : n4 ≤ 19) (f8 : 0 ≤ n4) (f9 : n5 = 285) (f10 : (hLe T0 H0 H1 ∧ hFr s_265.2.2.2.2 H0 H1 ∧ hWt T0 H1) ∧ (Ab_265_4 n5 n4 n3 n2 n1 n0 H0 H1 ∧ preb_265 n5 n4 H0) ∧ some q0 = some (mub_265_4 n5 n4 n3 n2 n1 n0 H0 H1)) (f11 : n6 = 328) (f12 : n6 = hV H1 (n3).toNat 66) (f13 : n7 ≤ 6) (f14 : 0 ≤ n7) (f15 : n7 = hV H1 (n6).toNat (n0).toNat) (f16 : n8 = 4) (f17 : n7 = n8) (f18 : n9 = 343) (f19 : n9 = hV H1 (n3).toNat 81) (f20 : hUpd H2 H1 n9 n1 n0) (f21 : n10 = w32 (n1 + 1)) (f22 : n11 = 332) (f23 : n11 = hV H2 (n3).toNat 70) (f24 : n12 ≤ 19) (f25 : (-1) ≤ n12) (f26 : n12 = hV H2 (n11).toNat (n0).toNat) : Ab_265_4 n5 n4 n3 n2 n10 n12 H0 H2 ∧ ∀ q, some q0 = some q → mub_265_4 n5 n4 n3 n2 n10 n12 H0 H2 < q := by
  have g4 := f10.2.1.1
  unfold Ab_265_4 at g4
  have g3 := f10.2.1.2
  unfold preb_265 at g3
  have g5 := Option.some.inj f10.2.2
  unfold mub_265_4 at g5
  unfold Ab_265_4
  unfold mub_265_4
  have e0 : hV H1 328 = hV H0 328 := fRow f10.1.2.1 328 kR_265_328
  have e1 : n7 = hV H0 328 (n0).toNat := (by rw [f11] at f15; exact f15 : n7 = hV H1 328 (n0).toNat).trans ((congrFun e0 _))
  have e3 : hV H1 332 = hV H0 332 := fRow f10.1.2.1 332 kR_265_332
  have e4 : n12 = hV H0 332 (n0).toNat := (by rw [f22] at f26; exact f26 : n12 = hV H2 332 (n0).toNat).trans (((congrFun (uRowNe f20 332 (iS (show n9 = ((343 : Nat) : Int) from f18) rfl)) _)).trans ((congrFun e3 _)))
  have e8 : hV H2 328 = hV H0 328 := (uRowNe f20 328 (iS (show n9 = ((343 : Nat) : Int) from f18) rfl)).trans e0
  have e9 : hV H2 332 = hV H0 332 := (uRowNe f20 332 (iS (show n9 = ((343 : Nat) : Int) from f18) rfl)).trans e3
  have e10 : hV H2 343 = uF (hV H1 343) n1 n0 := uRow f20 343 f18.symm
  have e11 : (0 : Int) ≤ hV H0 285 64 ∧ hV H0 285 64 ≤ 20 := bTo ((f10.1.2.1.1 285 64 kF_265_285_64)) (f10.1.2.2 285 64 _ _ kW_285_64)
  try simp only [e0, e3] at g4
  try simp only [e8, e9, e10]
  have k0 := g4.1
  have y0 := g4.2.1
  have y1 := g4.2.2.1
  have y2 := g4.2.2.2
  have p0 := g3.1
  have p1 := g3.2
  clear g3
  clear g4
  clear f12 f15 f19 f23 f26 e0 e3 e8 e9
  subst e1
  subst e4
  try have t4 := SO4 p1 (s := (n0).toNat) (by omega) (by omega)
  try have t5 := SO5 p1 (s := (n0).toNat) (by omega) (by omega)
  first
  | (have ix0 : n10 = n1 + 1 := Eq.trans f21 (w32_iv (Iad (Iat f3 f2) (IC 1)) (by decide)); subst ix0; clear f21)
  | (have ix0 : n10 = n1 + 1 := Eq.trans f21 (w32_id (by omega) (by omega)); subst ix0; clear f21)
  | (unfold w32 at f21; have ix0 : n10 = n1 + 1 := (by omega); subst ix0)
  | skip
  try unfold w32 at f21

  refine ⟨?_, fun q hq => ?_⟩
  · exact ⟨by omega, by omega, by omega, CHp_push y2 (by omega) (by omega) (by omega) (by omega) (by omega) (by omega) (by omega) (by omega)⟩
  · have g6 := Option.some.inj hq
    subst g6
    omega
theorem c_265_4_18 {q0 : Nat} : vOkm T0 (eP e_265 L_265 A_265 mu_265 (some q0)) 2 ([(22, [12, 11, 5], [2], 0), (90, [12], [], -1), (91, [12], [], 19), (20, [11, 2], [2], 70), (0, [11], [], 332), (10, [10, 4], [], 1), (80, [9, 4, 5], [2, 1], 0), (20, [9, 2], [1], 81), (0, [9], [], 343), (40, [7, 8], [], 0), (0, [8], [], 4), (22, [7, 6, 5], [1], 0), (90, [7], [], 0), (91, [7], [], 6), (20, [6, 2], [1], 66), (0, [6], [], 328), (5000, [0, 1, 2, 3, 4, 5], [0, 1], 4), (0, [0], [], 285), (90, [1], [], 0), (91, [1], [], 19), (0, [2], [], 285), (90, [3], [], 0), (91, [3], [], 19), (90, [4], [], 0), (91, [4], [], 19), (90, [5], [], 0), (91, [5], [], 19)], (4000, [2, 3, 10, 12], [2], 4)) := vOk_inI fun ρ η f0 f1 f2 f3 f4 f5 f6 f7 f8 f9 f10 f11 f12 f13 f14 f15 f16 f17 f18 f19 f20 f21 f22 f23 f24 f25 f26 => q_265_15 (q0 := q0) (n0 := ρ 5) (n1 := ρ 4) (n2 := ρ 3) (n3 := ρ 2) (n4 := ρ 1) (n5 := ρ 0) (n6 := ρ 6) (n7 := ρ 7) (n8 := ρ 8) (n9 := ρ 9) (n10 := ρ 10) (n11 := ρ 11) (n12 := ρ 12) (H0 := η 0) (H1 := η 1) (H2 := η 2) f26 f25 f24 f23 f22 f21 f20 f19 f18 f17 f16 f15 f14 f13 f12 f11 f10 f9 f8 f7 f6 f5 f4 f3 f2 f1 f0
def p_265_4 : List vG := [([(2, [16, 4, 15], [], 0), (0, [15], [], 1), (41, [13, 14], [], 0), (0, [14], [], -1), (22, [13, 9, 5], [1], 0), (90, [13], [], -1), (91, [13], [], 240), (41, [11, 12], [], 0), (0, [12], [], 5), (22, [11, 10, 5], [1], 0), (90, [11], [], 0), (91, [11], [], 6), (20, [10, 2], [1], 66), (0, [10], [], 328), (20, [9, 2], [1], 67), (0, [9], [], 329), (41, [7, 8], [], 0), (0, [8], [], 4), (22, [7, 6, 5], [1], 0), (90, [7], [], 0), (91, [7], [], 6), (20, [6, 2], [1], 66), (0, [6], [], 328), (5000, [0, 1, 2, 3, 4, 5], [0, 1], 4), (0, [0], [], 285), (90, [1], [], 0), (91, [1], [], 19), (0, [2], [], 285), (90, [3], [], 0), (91, [3], [], 19), (90, [4], [], 0), (91, [4], [], 19), (90, [5], [], 0), (91, [5], [], 19)], (90, [13], [], 0)),
  ([(2, [16, 4, 15], [], 0), (0, [15], [], 1), (41, [11, 12], [], 0), (0, [12], [], 5), (22, [11, 10, 5], [1], 0), (90, [11], [], 0), (91, [11], [], 6), (20, [10, 2], [1], 66), (0, [10], [], 328), (41, [7, 8], [], 0), (0, [8], [], 4), (22, [7, 6, 5], [1], 0), (90, [7], [], 0), (91, [7], [], 6), (20, [6, 2], [1], 66), (0, [6], [], 328), (5000, [0, 1, 2, 3, 4, 5], [0, 1], 4), (0, [0], [], 285), (90, [1], [], 0), (91, [1], [], 19), (0, [2], [], 285), (90, [3], [], 0), (91, [3], [], 19), (90, [4], [], 0), (91, [4], [], 19), (90, [5], [], 0), (91, [5], [], 19)], (90, [16], [], -1)),
  ([(2, [16, 4, 15], [], 0), (0, [15], [], 1), (41, [11, 12], [], 0), (0, [12], [], 5), (22, [11, 10, 5], [1], 0), (90, [11], [], 0), (91, [11], [], 6), (20, [10, 2], [1], 66), (0, [10], [], 328), (41, [7, 8], [], 0), (0, [8], [], 4), (22, [7, 6, 5], [1], 0), (90, [7], [], 0), (91, [7], [], 6), (20, [6, 2], [1], 66), (0, [6], [], 328), (5000, [0, 1, 2, 3, 4, 5], [0, 1], 4), (0, [0], [], 285), (90, [1], [], 0), (91, [1], [], 19), (0, [2], [], 285), (90, [3], [], 0), (91, [3], [], 19), (90, [4], [], 0), (91, [4], [], 19), (90, [5], [], 0), (91, [5], [], 19)], (91, [16], [], 19)),
  ([(2, [16, 4, 15], [], 0), (0, [15], [], 1), (41, [13, 14], [], 0), (0, [14], [], -1), (22, [13, 9, 5], [1], 0), (90, [13], [], -1), (91, [13], [], 240), (41, [11, 12], [], 0), (0, [12], [], 5), (22, [11, 10, 5], [1], 0), (90, [11], [], 0), (91, [11], [], 6), (20, [10, 2], [1], 66), (0, [10], [], 328), (20, [9, 2], [1], 67), (0, [9], [], 329), (41, [7, 8], [], 0), (0, [8], [], 4), (22, [7, 6, 5], [1], 0), (90, [7], [], 0), (91, [7], [], 6), (20, [6, 2], [1], 66), (0, [6], [], 328), (5000, [0, 1, 2, 3, 4, 5], [0, 1], 4), (0, [0], [], 285), (90, [1], [], 0), (91, [1], [], 19), (0, [2], [], 285), (90, [3], [], 0), (91, [3], [], 19), (90, [4], [], 0), (91, [4], [], 19), (90, [5], [], 0), (91, [5], [], 19)], (4000, [2, 3, 4, 5, 13, 16], [1], 75)),
  ([(2, [17, 4, 16], [], 0), (0, [16], [], 1), (41, [11, 12], [], 0), (0, [12], [], 5), (22, [11, 10, 5], [1], 0), (90, [11], [], 0), (91, [11], [], 6), (20, [10, 2], [1], 66), (0, [10], [], 328), (41, [7, 8], [], 0), (0, [8], [], 4), (22, [7, 6, 5], [1], 0), (90, [7], [], 0), (91, [7], [], 6), (20, [6, 2], [1], 66), (0, [6], [], 328), (5000, [0, 1, 2, 3, 4, 5], [0, 1], 4), (0, [0], [], 285), (90, [1], [], 0), (91, [1], [], 19), (0, [2], [], 285), (90, [3], [], 0), (91, [3], [], 19), (90, [4], [], 0), (91, [4], [], 19), (90, [5], [], 0), (91, [5], [], 19)], (90, [17], [], -1)),
  ([(2, [17, 4, 16], [], 0), (0, [16], [], 1), (41, [11, 12], [], 0), (0, [12], [], 5), (22, [11, 10, 5], [1], 0), (90, [11], [], 0), (91, [11], [], 6), (20, [10, 2], [1], 66), (0, [10], [], 328), (41, [7, 8], [], 0), (0, [8], [], 4), (22, [7, 6, 5], [1], 0), (90, [7], [], 0), (91, [7], [], 6), (20, [6, 2], [1], 66), (0, [6], [], 328), (5000, [0, 1, 2, 3, 4, 5], [0, 1], 4), (0, [0], [], 285), (90, [1], [], 0), (91, [1], [], 19), (0, [2], [], 285), (90, [3], [], 0), (91, [3], [], 19), (90, [4], [], 0), (91, [4], [], 19), (90, [5], [], 0), (91, [5], [], 19)], (91, [17], [], 19)),
  ([(2, [17, 4, 16], [], 0), (0, [16], [], 1), (0, [15], [], 0), (41, [11, 12], [], 0), (0, [12], [], 5), (22, [11, 10, 5], [1], 0), (90, [11], [], 0), (91, [11], [], 6), (20, [10, 2], [1], 66), (0, [10], [], 328), (41, [7, 8], [], 0), (0, [8], [], 4), (22, [7, 6, 5], [1], 0), (90, [7], [], 0), (91, [7], [], 6), (20, [6, 2], [1], 66), (0, [6], [], 328), (5000, [0, 1, 2, 3, 4, 5], [0, 1], 4), (0, [0], [], 285), (90, [1], [], 0), (91, [1], [], 19), (0, [2], [], 285), (90, [3], [], 0), (91, [3], [], 19), (90, [4], [], 0), (91, [4], [], 19), (90, [5], [], 0), (91, [5], [], 19)], (4000, [2, 3, 4, 5, 15, 17], [1], 75)),
  ([(22, [14, 13, 5], [1], 0), (90, [14], [], -1), (91, [14], [], 19), (20, [13, 2], [1], 70), (0, [13], [], 332), (40, [11, 12], [], 0), (0, [12], [], 5), (22, [11, 10, 5], [1], 0), (90, [11], [], 0), (91, [11], [], 6), (20, [10, 2], [1], 66), (0, [10], [], 328), (41, [7, 8], [], 0), (0, [8], [], 4), (22, [7, 6, 5], [1], 0), (90, [7], [], 0), (91, [7], [], 6), (20, [6, 2], [1], 66), (0, [6], [], 328), (5000, [0, 1, 2, 3, 4, 5], [0, 1], 4), (0, [0], [], 285), (90, [1], [], 0), (91, [1], [], 19), (0, [2], [], 285), (90, [3], [], 0), (91, [3], [], 19), (90, [4], [], 0), (91, [4], [], 19), (90, [5], [], 0), (91, [5], [], 19)], (70, [14], [], 20)),
  ([(2, [18, 4, 17], [], 0), (0, [17], [], 1), (41, [15, 16], [], 0), (0, [16], [], -1), (22, [15, 9, 14], [1], 0), (90, [15], [], -1), (91, [15], [], 240), (22, [14, 13, 5], [1], 0), (90, [14], [], -1), (91, [14], [], 19), (20, [13, 2], [1], 70), (0, [13], [], 332), (40, [11, 12], [], 0), (0, [12], [], 5), (22, [11, 10, 5], [1], 0), (90, [11], [], 0), (91, [11], [], 6), (20, [10, 2], [1], 66), (0, [10], [], 328), (20, [9, 2], [1], 67), (0, [9], [], 329), (41, [7, 8], [], 0), (0, [8], [], 4), (22, [7, 6, 5], [1], 0), (90, [7], [], 0), (91, [7], [], 6), (20, [6, 2], [1], 66), (0, [6], [], 328), (5000, [0, 1, 2, 3, 4, 5], [0, 1], 4), (0, [0], [], 285), (90, [1], [], 0), (91, [1], [], 19), (0, [2], [], 285), (90, [3], [], 0), (91, [3], [], 19), (90, [4], [], 0), (91, [4], [], 19), (90, [5], [], 0), (91, [5], [], 19)], (90, [15], [], 0)),
  ([(2, [18, 4, 17], [], 0), (0, [17], [], 1), (22, [14, 13, 5], [1], 0), (90, [14], [], -1), (91, [14], [], 19), (20, [13, 2], [1], 70), (0, [13], [], 332), (40, [11, 12], [], 0), (0, [12], [], 5), (22, [11, 10, 5], [1], 0), (90, [11], [], 0), (91, [11], [], 6), (20, [10, 2], [1], 66), (0, [10], [], 328), (41, [7, 8], [], 0), (0, [8], [], 4), (22, [7, 6, 5], [1], 0), (90, [7], [], 0), (91, [7], [], 6), (20, [6, 2], [1], 66), (0, [6], [], 328), (5000, [0, 1, 2, 3, 4, 5], [0, 1], 4), (0, [0], [], 285), (90, [1], [], 0), (91, [1], [], 19), (0, [2], [], 285), (90, [3], [], 0), (91, [3], [], 19), (90, [4], [], 0), (91, [4], [], 19), (90, [5], [], 0), (91, [5], [], 19)], (90, [18], [], -1)),
  ([(2, [18, 4, 17], [], 0), (0, [17], [], 1), (22, [14, 13, 5], [1], 0), (90, [14], [], -1), (91, [14], [], 19), (20, [13, 2], [1], 70), (0, [13], [], 332), (40, [11, 12], [], 0), (0, [12], [], 5), (22, [11, 10, 5], [1], 0), (90, [11], [], 0), (91, [11], [], 6), (20, [10, 2], [1], 66), (0, [10], [], 328), (41, [7, 8], [], 0), (0, [8], [], 4), (22, [7, 6, 5], [1], 0), (90, [7], [], 0), (91, [7], [], 6), (20, [6, 2], [1], 66), (0, [6], [], 328), (5000, [0, 1, 2, 3, 4, 5], [0, 1], 4), (0, [0], [], 285), (90, [1], [], 0), (91, [1], [], 19), (0, [2], [], 285), (90, [3], [], 0), (91, [3], [], 19), (90, [4], [], 0), (91, [4], [], 19), (90, [5], [], 0), (91, [5], [], 19)], (91, [18], [], 19)),
  ([(2, [18, 4, 17], [], 0), (0, [17], [], 1), (41, [15, 16], [], 0), (0, [16], [], -1), (22, [15, 9, 14], [1], 0), (90, [15], [], -1), (91, [15], [], 240), (22, [14, 13, 5], [1], 0), (90, [14], [], -1), (91, [14], [], 19), (20, [13, 2], [1], 70), (0, [13], [], 332), (40, [11, 12], [], 0), (0, [12], [], 5), (22, [11, 10, 5], [1], 0), (90, [11], [], 0), (91, [11], [], 6), (20, [10, 2], [1], 66), (0, [10], [], 328), (20, [9, 2], [1], 67), (0, [9], [], 329), (41, [7, 8], [], 0), (0, [8], [], 4), (22, [7, 6, 5], [1], 0), (90, [7], [], 0), (91, [7], [], 6), (20, [6, 2], [1], 66), (0, [6], [], 328), (5000, [0, 1, 2, 3, 4, 5], [0, 1], 4), (0, [0], [], 285), (90, [1], [], 0), (91, [1], [], 19), (0, [2], [], 285), (90, [3], [], 0), (91, [3], [], 19), (90, [4], [], 0), (91, [4], [], 19), (90, [5], [], 0), (91, [5], [], 19)], (4000, [2, 3, 4, 5, 15, 18], [1], 75)),
  ([(2, [19, 4, 18], [], 0), (0, [18], [], 1), (22, [14, 13, 5], [1], 0), (90, [14], [], -1), (91, [14], [], 19), (20, [13, 2], [1], 70), (0, [13], [], 332), (40, [11, 12], [], 0), (0, [12], [], 5), (22, [11, 10, 5], [1], 0), (90, [11], [], 0), (91, [11], [], 6), (20, [10, 2], [1], 66), (0, [10], [], 328), (41, [7, 8], [], 0), (0, [8], [], 4), (22, [7, 6, 5], [1], 0), (90, [7], [], 0), (91, [7], [], 6), (20, [6, 2], [1], 66), (0, [6], [], 328), (5000, [0, 1, 2, 3, 4, 5], [0, 1], 4), (0, [0], [], 285), (90, [1], [], 0), (91, [1], [], 19), (0, [2], [], 285), (90, [3], [], 0), (91, [3], [], 19), (90, [4], [], 0), (91, [4], [], 19), (90, [5], [], 0), (91, [5], [], 19)], (90, [19], [], -1)),
  ([(2, [19, 4, 18], [], 0), (0, [18], [], 1), (22, [14, 13, 5], [1], 0), (90, [14], [], -1), (91, [14], [], 19), (20, [13, 2], [1], 70), (0, [13], [], 332), (40, [11, 12], [], 0), (0, [12], [], 5), (22, [11, 10, 5], [1], 0), (90, [11], [], 0), (91, [11], [], 6), (20, [10, 2], [1], 66), (0, [10], [], 328), (41, [7, 8], [], 0), (0, [8], [], 4), (22, [7, 6, 5], [1], 0), (90, [7], [], 0), (91, [7], [], 6), (20, [6, 2], [1], 66), (0, [6], [], 328), (5000, [0, 1, 2, 3, 4, 5], [0, 1], 4), (0, [0], [], 285), (90, [1], [], 0), (91, [1], [], 19), (0, [2], [], 285), (90, [3], [], 0), (91, [3], [], 19), (90, [4], [], 0), (91, [4], [], 19), (90, [5], [], 0), (91, [5], [], 19)], (91, [19], [], 19)),
  ([(2, [19, 4, 18], [], 0), (0, [18], [], 1), (0, [17], [], 0), (22, [14, 13, 5], [1], 0), (90, [14], [], -1), (91, [14], [], 19), (20, [13, 2], [1], 70), (0, [13], [], 332), (40, [11, 12], [], 0), (0, [12], [], 5), (22, [11, 10, 5], [1], 0), (90, [11], [], 0), (91, [11], [], 6), (20, [10, 2], [1], 66), (0, [10], [], 328), (41, [7, 8], [], 0), (0, [8], [], 4), (22, [7, 6, 5], [1], 0), (90, [7], [], 0), (91, [7], [], 6), (20, [6, 2], [1], 66), (0, [6], [], 328), (5000, [0, 1, 2, 3, 4, 5], [0, 1], 4), (0, [0], [], 285), (90, [1], [], 0), (91, [1], [], 19), (0, [2], [], 285), (90, [3], [], 0), (91, [3], [], 19), (90, [4], [], 0), (91, [4], [], 19), (90, [5], [], 0), (91, [5], [], 19)], (4000, [2, 3, 4, 5, 17, 19], [1], 75)),
  ([(22, [12, 11, 5], [2], 0), (90, [12], [], -1), (91, [12], [], 19), (20, [11, 2], [2], 70), (0, [11], [], 332), (10, [10, 4], [], 1), (80, [9, 4, 5], [2, 1], 0), (20, [9, 2], [1], 81), (0, [9], [], 343), (40, [7, 8], [], 0), (0, [8], [], 4), (22, [7, 6, 5], [1], 0), (90, [7], [], 0), (91, [7], [], 6), (20, [6, 2], [1], 66), (0, [6], [], 328), (5000, [0, 1, 2, 3, 4, 5], [0, 1], 4), (0, [0], [], 285), (90, [1], [], 0), (91, [1], [], 19), (0, [2], [], 285), (90, [3], [], 0), (91, [3], [], 19), (90, [4], [], 0), (91, [4], [], 19), (90, [5], [], 0), (91, [5], [], 19)], (90, [10], [], 0)),
  ([(22, [12, 11, 5], [2], 0), (90, [12], [], -1), (91, [12], [], 19), (20, [11, 2], [2], 70), (0, [11], [], 332), (10, [10, 4], [], 1), (80, [9, 4, 5], [2, 1], 0), (20, [9, 2], [1], 81), (0, [9], [], 343), (40, [7, 8], [], 0), (0, [8], [], 4), (22, [7, 6, 5], [1], 0), (90, [7], [], 0), (91, [7], [], 6), (20, [6, 2], [1], 66), (0, [6], [], 328), (5000, [0, 1, 2, 3, 4, 5], [0, 1], 4), (0, [0], [], 285), (90, [1], [], 0), (91, [1], [], 19), (0, [2], [], 285), (90, [3], [], 0), (91, [3], [], 19), (90, [4], [], 0), (91, [4], [], 19), (90, [5], [], 0), (91, [5], [], 19)], (91, [10], [], 19)),
  ([(22, [12, 11, 5], [2], 0), (90, [12], [], -1), (91, [12], [], 19), (20, [11, 2], [2], 70), (0, [11], [], 332), (10, [10, 4], [], 1), (80, [9, 4, 5], [2, 1], 0), (20, [9, 2], [1], 81), (0, [9], [], 343), (40, [7, 8], [], 0), (0, [8], [], 4), (22, [7, 6, 5], [1], 0), (90, [7], [], 0), (91, [7], [], 6), (20, [6, 2], [1], 66), (0, [6], [], 328), (5000, [0, 1, 2, 3, 4, 5], [0, 1], 4), (0, [0], [], 285), (90, [1], [], 0), (91, [1], [], 19), (0, [2], [], 285), (90, [3], [], 0), (91, [3], [], 19), (90, [4], [], 0), (91, [4], [], 19), (90, [5], [], 0), (91, [5], [], 19)], (90, [12], [], 0)),
  ([(22, [12, 11, 5], [2], 0), (90, [12], [], -1), (91, [12], [], 19), (20, [11, 2], [2], 70), (0, [11], [], 332), (10, [10, 4], [], 1), (80, [9, 4, 5], [2, 1], 0), (20, [9, 2], [1], 81), (0, [9], [], 343), (40, [7, 8], [], 0), (0, [8], [], 4), (22, [7, 6, 5], [1], 0), (90, [7], [], 0), (91, [7], [], 6), (20, [6, 2], [1], 66), (0, [6], [], 328), (5000, [0, 1, 2, 3, 4, 5], [0, 1], 4), (0, [0], [], 285), (90, [1], [], 0), (91, [1], [], 19), (0, [2], [], 285), (90, [3], [], 0), (91, [3], [], 19), (90, [4], [], 0), (91, [4], [], 19), (90, [5], [], 0), (91, [5], [], 19)], (4000, [2, 3, 10, 12], [2], 4))]
theorem r_265_4 : vCovO false (eRc e_265 L_265 cs_265 2000 (4, [(0, (3, 12, 285, 0)), (1, (0, 0, 19, 0)), (2, (0, 0, 19, 0)), (3, (0, 0, 19, 0))])) p_265_4 = true := by decide +kernel
theorem q_265_16 {q0 : Nat} {n0 n1 n2 n3 n4 n5 n6 n7 : Int} {H0 H1 : gH} (f0 : n0 ≤ 19) (f1 : (-1) ≤ n0) (f2 : n1 ≤ 240) (f3 : 0 ≤ n1) (f4 : n2 ≤ 19) (f5 : 0 ≤ n2) (f6 : n3 ≤ 19) (f7 : 0 ≤ n3) (f8 : n4 ≤ 19) (f9 : 0 ≤ n4) (f10 : n5 = 285) (f11 : n6 ≤ 19) (f12 : 0 ≤ n6) (f13 : n7 = 285) (f14 : (hLe T0 H0 H1 ∧ hFr s_265.2.2.2.2 H0 H1 ∧ hWt T0 H1) ∧ (Ab_265_75 n7 n6 n5 n4 n3 n2 n1 n0 H0 H1 ∧ preb_265 n7 n6 H0) ∧ some q0 = some (mub_265_75 n7 n6 n5 n4 n3 n2 n1 n0 H0 H1)) (f15 : n0 < 0) : postb_265 n1 n7 n6 H0 H1 := by
  have g4 := f14.2.1.1
  unfold Ab_265_75 at g4
  have g3 := f14.2.1.2
  unfold preb_265 at g3
  unfold postb_265
  have e2 : hV H1 328 = hV H0 328 := fRow f14.1.2.1 328 kR_265_328
  have e3 : hV H1 330 = hV H0 330 := fRow f14.1.2.1 330 kR_265_330
  have e4 : hV H1 332 = hV H0 332 := fRow f14.1.2.1 332 kR_265_332
  have e5 : (0 : Int) ≤ hV H0 285 64 ∧ hV H0 285 64 ≤ 20 := bTo ((f14.1.2.1.1 285 64 kF_265_285_64)) (f14.1.2.2 285 64 _ _ kW_285_64)
  try simp only [e2, e3, e4] at g4
  try simp only [e2, e3, e4]
  have k0 := g4.1
  have y0 := g4.2.1
  have y1 := g4.2.2.1
  have y2 := g4.2.2.2.1
  have y3 := g4.2.2.2.2
  have p0 := g3.1
  have p1 := g3.2
  clear g3
  clear g4
  clear e2 e3 e4
  try (have c := y2.2.2 (n0).toNat (by omega); have t4 := SO4 p1 (by omega) c.1)

  exact LNp_end y2 (by omega) (by omega) y3
theorem c_265_75_0 {q0 : Nat} : vOkm T0 (eP e_265 L_265 A_265 mu_265 (some q0)) 2 ([(32, [7], [], 0), (5000, [0, 1, 2, 3, 4, 5, 6, 7], [0, 1], 75), (0, [0], [], 285), (90, [1], [], 0), (91, [1], [], 19), (0, [2], [], 285), (90, [3], [], 0), (91, [3], [], 19), (90, [4], [], 0), (91, [4], [], 19), (90, [5], [], 0), (91, [5], [], 19), (90, [6], [], 0), (91, [6], [], 240), (90, [7], [], -1), (91, [7], [], 19)], (3000, [6], [1], 162)) := vOk_inI fun ρ η f0 f1 f2 f3 f4 f5 f6 f7 f8 f9 f10 f11 f12 f13 f14 f15 => q_265_16 (q0 := q0) (n0 := ρ 7) (n1 := ρ 6) (n2 := ρ 5) (n3 := ρ 4) (n4 := ρ 3) (n5 := ρ 2) (n6 := ρ 1) (n7 := ρ 0) (H0 := η 0) (H1 := η 1) f15 f14 f13 f12 f11 f10 f9 f8 f7 f6 f5 f4 f3 f2 f1 f0
theorem kR_265_331 : vFreeR s_265.2.2.2.2 331 = true := by decide +kernel
theorem q_265_17 {q0 : Nat} {n0 n1 n2 n3 n4 n5 n6 n7 n8 n9 n10 n11 n12 n13 n14 n15 n16 : Int} {H0 H1 : gH} (f0 : n0 ≤ 19) (f1 : (-1) ≤ n0) (f2 : n1 ≤ 240) (f3 : 0 ≤ n1) (f4 : n2 ≤ 19) (f5 : 0 ≤ n2) (f6 : n3 ≤ 19) (f7 : 0 ≤ n3) (f8 : n4 ≤ 19) (f9 : 0 ≤ n4) (f10 : n5 = 285) (f11 : n6 ≤ 19) (f12 : 0 ≤ n6) (f13 : n7 = 285) (f14 : (hLe T0 H0 H1 ∧ hFr s_265.2.2.2.2 H0 H1 ∧ hWt T0 H1) ∧ (Ab_265_75 n7 n6 n5 n4 n3 n2 n1 n0 H0 H1 ∧ preb_265 n7 n6 H0) ∧ some q0 = some (mub_265_75 n7 n6 n5 n4 n3 n2 n1 n0 H0 H1)) (f15 : 0 ≤ n0) (f16 : n8 = 331) (f17 : n8 = hV H1 (n5).toNat 69) (f18 : n9 = 343) (f19 : n9 = hV H1 (n5).toNat 81) (f20 : n10 ≤ 19) (f21 : 0 ≤ n10) (f22 : n10 = hV H1 (n9).toNat (n0).toNat) (f23 : n11 ≤ 2147483647) (f24 : (-2147483648) ≤ n11) (f25 : n11 = hV H1 (n8).toNat (n10).toNat) (f26 : n1 ≤ n11) (f27 : n12 = 330) (f28 : n12 = hV H1 (n5).toNat 68) (f29 : n13 = 343) (f30 : n13 = hV H1 (n5).toNat 81) (f31 : n14 ≤ 19) (f32 : 0 ≤ n14) (f33 : n14 = hV H1 (n13).toNat (n0).toNat) (f34 : n15 ≤ 2147483647) (f35 : (-2147483648) ≤ n15) (f36 : n15 = hV H1 (n12).toNat (n14).toNat) (f37 : n1 ≤ n15) (f38 : n16 = w32 (n0 + (-1))) : (-1) ≤ n16 := by
  have g4 := f14.2.1.1
  unfold Ab_265_75 at g4
  have g3 := f14.2.1.2
  unfold preb_265 at g3
  have e0 : n10 = hV H1 343 (n0).toNat := (by rw [f18] at f22; exact f22 : n10 = hV H1 343 (n0).toNat)
  have e2 : n11 = hV H0 331 (n10).toNat := (by rw [f16] at f25; exact f25 : n11 = hV H1 331 (n10).toNat).trans ((congrFun (fRow f14.1.2.1 331 kR_265_331) _))
  have e3 : n14 = hV H1 343 (n0).toNat := (by rw [f29] at f33; exact f33 : n14 = hV H1 343 (n0).toNat)
  have e4 : hV H1 330 = hV H0 330 := fRow f14.1.2.1 330 kR_265_330
  have e5 : n15 = hV H0 330 (n14).toNat := (by rw [f27] at f36; exact f36 : n15 = hV H1 330 (n14).toNat).trans ((congrFun e4 _))
  have e8 : hV H1 328 = hV H0 328 := fRow f14.1.2.1 328 kR_265_328
  have e9 : hV H1 332 = hV H0 332 := fRow f14.1.2.1 332 kR_265_332
  have e10 : (0 : Int) ≤ hV H0 285 64 ∧ hV H0 285 64 ≤ 20 := bTo ((f14.1.2.1.1 285 64 kF_265_285_64)) (f14.1.2.2 285 64 _ _ kW_285_64)
  try simp only [e8, e4, e9] at g4
  have k0 := g4.1
  have y0 := g4.2.1
  have y1 := g4.2.2.1
  have y2 := g4.2.2.2.1
  have y3 := g4.2.2.2.2
  have p0 := g3.1
  have p1 := g3.2
  clear g3
  clear g4
  clear f17 f19 f22 f25 f28 f30 f33 f36 e4 e8 e9
  subst e0
  subst e2
  subst e3
  subst e5
  try (have c := y2.2.2 (n0).toNat (by omega); have t4 := SO4 p1 (by omega) c.1)
  first
  | (have ix0 : n16 = n0 + -1 := Eq.trans f38 (w32_iv (Iad (Iat f1 f0) (IC (-1))) (by decide)); subst ix0; clear f38)
  | (have ix0 : n16 = n0 + -1 := Eq.trans f38 (w32_id (by omega) (by omega)); subst ix0; clear f38)
  | (unfold w32 at f38; have ix0 : n16 = n0 + -1 := (by omega); subst ix0)
  | skip
  try unfold w32 at f38
  omega
theorem c_265_75_1 {q0 : Nat} : vOkm T0 (eP e_265 L_265 A_265 mu_265 (some q0)) 2 ([(10, [17, 7], [], -1), (45, [6, 15], [], 0), (22, [15, 12, 14], [1], 0), (90, [15], [], -2147483648), (91, [15], [], 2147483647), (22, [14, 13, 7], [1], 0), (90, [14], [], 0), (91, [14], [], 19), (20, [13, 2], [1], 81), (0, [13], [], 343), (20, [12, 2], [1], 68), (0, [12], [], 330), (43, [11, 6], [], 0), (22, [11, 8, 10], [1], 0), (90, [11], [], -2147483648), (91, [11], [], 2147483647), (22, [10, 9, 7], [1], 0), (90, [10], [], 0), (91, [10], [], 19), (20, [9, 2], [1], 81), (0, [9], [], 343), (20, [8, 2], [1], 69), (0, [8], [], 331), (33, [7], [], 0), (5000, [0, 1, 2, 3, 4, 5, 6, 7], [0, 1], 75), (0, [0], [], 285), (90, [1], [], 0), (91, [1], [], 19), (0, [2], [], 285), (90, [3], [], 0), (91, [3], [], 19), (90, [4], [], 0), (91, [4], [], 19), (90, [5], [], 0), (91, [5], [], 19), (90, [6], [], 0), (91, [6], [], 240), (90, [7], [], -1), (91, [7], [], 19)], (90, [17], [], -1)) := vOk_inI fun ρ η f0 f1 f2 f3 f4 f5 f6 f7 f8 f9 f10 f11 f12 f13 f14 f15 f16 f17 f18 f19 f20 f21 f22 f23 f24 f25 f26 f27 f28 f29 f30 f31 f32 f33 f34 f35 f36 f37 f38 => q_265_17 (q0 := q0) (n0 := ρ 7) (n1 := ρ 6) (n2 := ρ 5) (n3 := ρ 4) (n4 := ρ 3) (n5 := ρ 2) (n6 := ρ 1) (n7 := ρ 0) (n8 := ρ 8) (n9 := ρ 9) (n10 := ρ 10) (n11 := ρ 11) (n12 := ρ 12) (n13 := ρ 13) (n14 := ρ 14) (n15 := ρ 15) (n16 := ρ 17) (H0 := η 0) (H1 := η 1) f38 f37 f36 f35 f34 f33 f32 f31 f30 f29 f28 f27 f26 f25 f24 f23 f22 f21 f20 f19 f18 f17 f16 f15 f14 f13 f12 f11 f10 f9 f8 f7 f6 f5 f4 f3 f2 f1 f0
theorem q_265_18 {q0 : Nat} {n0 n1 n2 n3 n4 n5 n6 n7 n8 n9 n10 n11 n12 n13 n14 n15 n16 : Int} {H0 H1 : gH} (f0 : n0 ≤ 19) (f1 : (-1) ≤ n0) (f2 : n1 ≤ 240) (f3 : 0 ≤ n1) (f4 : n2 ≤ 19) (f5 : 0 ≤ n2) (f6 : n3 ≤ 19) (f7 : 0 ≤ n3) (f8 : n4 ≤ 19) (f9 : 0 ≤ n4) (f10 : n5 = 285) (f11 : n6 ≤ 19) (f12 : 0 ≤ n6) (f13 : n7 = 285) (f14 : (hLe T0 H0 H1 ∧ hFr s_265.2.2.2.2 H0 H1 ∧ hWt T0 H1) ∧ (Ab_265_75 n7 n6 n5 n4 n3 n2 n1 n0 H0 H1 ∧ preb_265 n7 n6 H0) ∧ some q0 = some (mub_265_75 n7 n6 n5 n4 n3 n2 n1 n0 H0 H1)) (f15 : 0 ≤ n0) (f16 : n8 = 331) (f17 : n8 = hV H1 (n5).toNat 69) (f18 : n9 = 343) (f19 : n9 = hV H1 (n5).toNat 81) (f20 : n10 ≤ 19) (f21 : 0 ≤ n10) (f22 : n10 = hV H1 (n9).toNat (n0).toNat) (f23 : n11 ≤ 2147483647) (f24 : (-2147483648) ≤ n11) (f25 : n11 = hV H1 (n8).toNat (n10).toNat) (f26 : n1 ≤ n11) (f27 : n12 = 330) (f28 : n12 = hV H1 (n5).toNat 68) (f29 : n13 = 343) (f30 : n13 = hV H1 (n5).toNat 81) (f31 : n14 ≤ 19) (f32 : 0 ≤ n14) (f33 : n14 = hV H1 (n13).toNat (n0).toNat) (f34 : n15 ≤ 2147483647) (f35 : (-2147483648) ≤ n15) (f36 : n15 = hV H1 (n12).toNat (n14).toNat) (f37 : n1 ≤ n15) (f38 : n16 = w32 (n0 + (-1))) : n16 ≤ 19 := by
  have g4 := f14.2.1.1
  unfold Ab_265_75 at g4
  have g3 := f14.2.1.2
  unfold preb_265 at g3
  have e0 : n10 = hV H1 343 (n0).toNat := (by rw [f18] at f22; exact f22 : n10 = hV H1 343 (n0).toNat)
  have e2 : n11 = hV H0 331 (n10).toNat := (by rw [f16] at f25; exact f25 : n11 = hV H1 331 (n10).toNat).trans ((congrFun (fRow f14.1.2.1 331 kR_265_331) _))
  have e3 : n14 = hV H1 343 (n0).toNat := (by rw [f29] at f33; exact f33 : n14 = hV H1 343 (n0).toNat)
  have e4 : hV H1 330 = hV H0 330 := fRow f14.1.2.1 330 kR_265_330
  have e5 : n15 = hV H0 330 (n14).toNat := (by rw [f27] at f36; exact f36 : n15 = hV H1 330 (n14).toNat).trans ((congrFun e4 _))
  have e8 : hV H1 328 = hV H0 328 := fRow f14.1.2.1 328 kR_265_328
  have e9 : hV H1 332 = hV H0 332 := fRow f14.1.2.1 332 kR_265_332
  have e10 : (0 : Int) ≤ hV H0 285 64 ∧ hV H0 285 64 ≤ 20 := bTo ((f14.1.2.1.1 285 64 kF_265_285_64)) (f14.1.2.2 285 64 _ _ kW_285_64)
  try simp only [e8, e4, e9] at g4
  have k0 := g4.1
  have y0 := g4.2.1
  have y1 := g4.2.2.1
  have y2 := g4.2.2.2.1
  have y3 := g4.2.2.2.2
  have p0 := g3.1
  have p1 := g3.2
  clear g3
  clear g4
  clear f17 f19 f22 f25 f28 f30 f33 f36 e4 e8 e9
  subst e0
  subst e2
  subst e3
  subst e5
  try (have c := y2.2.2 (n0).toNat (by omega); have t4 := SO4 p1 (by omega) c.1)
  first
  | (have ix0 : n16 = n0 + -1 := Eq.trans f38 (w32_iv (Iad (Iat f1 f0) (IC (-1))) (by decide)); subst ix0; clear f38)
  | (have ix0 : n16 = n0 + -1 := Eq.trans f38 (w32_id (by omega) (by omega)); subst ix0; clear f38)
  | (unfold w32 at f38; have ix0 : n16 = n0 + -1 := (by omega); subst ix0)
  | skip
  try unfold w32 at f38
  omega
theorem c_265_75_2 {q0 : Nat} : vOkm T0 (eP e_265 L_265 A_265 mu_265 (some q0)) 2 ([(10, [17, 7], [], -1), (45, [6, 15], [], 0), (22, [15, 12, 14], [1], 0), (90, [15], [], -2147483648), (91, [15], [], 2147483647), (22, [14, 13, 7], [1], 0), (90, [14], [], 0), (91, [14], [], 19), (20, [13, 2], [1], 81), (0, [13], [], 343), (20, [12, 2], [1], 68), (0, [12], [], 330), (43, [11, 6], [], 0), (22, [11, 8, 10], [1], 0), (90, [11], [], -2147483648), (91, [11], [], 2147483647), (22, [10, 9, 7], [1], 0), (90, [10], [], 0), (91, [10], [], 19), (20, [9, 2], [1], 81), (0, [9], [], 343), (20, [8, 2], [1], 69), (0, [8], [], 331), (33, [7], [], 0), (5000, [0, 1, 2, 3, 4, 5, 6, 7], [0, 1], 75), (0, [0], [], 285), (90, [1], [], 0), (91, [1], [], 19), (0, [2], [], 285), (90, [3], [], 0), (91, [3], [], 19), (90, [4], [], 0), (91, [4], [], 19), (90, [5], [], 0), (91, [5], [], 19), (90, [6], [], 0), (91, [6], [], 240), (90, [7], [], -1), (91, [7], [], 19)], (91, [17], [], 19)) := vOk_inI fun ρ η f0 f1 f2 f3 f4 f5 f6 f7 f8 f9 f10 f11 f12 f13 f14 f15 f16 f17 f18 f19 f20 f21 f22 f23 f24 f25 f26 f27 f28 f29 f30 f31 f32 f33 f34 f35 f36 f37 f38 => q_265_18 (q0 := q0) (n0 := ρ 7) (n1 := ρ 6) (n2 := ρ 5) (n3 := ρ 4) (n4 := ρ 3) (n5 := ρ 2) (n6 := ρ 1) (n7 := ρ 0) (n8 := ρ 8) (n9 := ρ 9) (n10 := ρ 10) (n11 := ρ 11) (n12 := ρ 12) (n13 := ρ 13) (n14 := ρ 14) (n15 := ρ 15) (n16 := ρ 17) (H0 := η 0) (H1 := η 1) f38 f37 f36 f35 f34 f33 f32 f31 f30 f29 f28 f27 f26 f25 f24 f23 f22 f21 f20 f19 f18 f17 f16 f15 f14 f13 f12 f11 f10 f9 f8 f7 f6 f5 f4 f3 f2 f1 f0
theorem q_265_19 {q0 : Nat} {n0 n1 n2 n3 n4 n5 n6 n7 n8 n9 n10 n11 n12 n13 n14 n15 n16 n17 : Int} {H0 H1 : gH} (f0 : n0 ≤ 19) (f1 : (-1) ≤ n0) (f2 : n1 ≤ 240) (f3 : 0 ≤ n1) (f4 : n2 ≤ 19) (f5 : 0 ≤ n2) (f6 : n3 ≤ 19) (f7 : 0 ≤ n3) (f8 : n4 ≤ 19) (f9 : 0 ≤ n4) (f10 : n5 = 285) (f11 : n6 ≤ 19) (f12 : 0 ≤ n6) (f13 : n7 = 285) (f14 : (hLe T0 H0 H1 ∧ hFr s_265.2.2.2.2 H0 H1 ∧ hWt T0 H1) ∧ (Ab_265_75 n7 n6 n5 n4 n3 n2 n1 n0 H0 H1 ∧ preb_265 n7 n6 H0) ∧ some q0 = some (mub_265_75 n7 n6 n5 n4 n3 n2 n1 n0 H0 H1)) (f15 : 0 ≤ n0) (f16 : n8 = 331) (f17 : n8 = hV H1 (n5).toNat 69) (f18 : n9 = 343) (f19 : n9 = hV H1 (n5).toNat 81) (f20 : n10 ≤ 19) (f21 : 0 ≤ n10) (f22 : n10 = hV H1 (n9).toNat (n0).toNat) (f23 : n11 ≤ 2147483647) (f24 : (-2147483648) ≤ n11) (f25 : n11 = hV H1 (n8).toNat (n10).toNat) (f26 : n1 ≤ n11) (f27 : n12 = 330) (f28 : n12 = hV H1 (n5).toNat 68) (f29 : n13 = 343) (f30 : n13 = hV H1 (n5).toNat 81) (f31 : n14 ≤ 19) (f32 : 0 ≤ n14) (f33 : n14 = hV H1 (n13).toNat (n0).toNat) (f34 : n15 ≤ 2147483647) (f35 : (-2147483648) ≤ n15) (f36 : n15 = hV H1 (n12).toNat (n14).toNat) (f37 : n1 ≤ n15) (f38 : n16 = 0) (f39 : n17 = w32 (n0 + (-1))) : Ab_265_75 n7 n6 n5 n4 n3 n2 n16 n17 H0 H1 ∧ ∀ q, some q0 = some q → mub_265_75 n7 n6 n5 n4 n3 n2 n16 n17 H0 H1 < q := by
  have g4 := f14.2.1.1
  unfold Ab_265_75 at g4
  have g3 := f14.2.1.2
  unfold preb_265 at g3
  have g5 := Option.some.inj f14.2.2
  unfold mub_265_75 at g5
  unfold Ab_265_75
  unfold mub_265_75
  have e0 : n10 = hV H1 343 (n0).toNat := (by rw [f18] at f22; exact f22 : n10 = hV H1 343 (n0).toNat)
  have e2 : n11 = hV H0 331 (n10).toNat := (by rw [f16] at f25; exact f25 : n11 = hV H1 331 (n10).toNat).trans ((congrFun (fRow f14.1.2.1 331 kR_265_331) _))
  have e3 : n14 = hV H1 343 (n0).toNat := (by rw [f29] at f33; exact f33 : n14 = hV H1 343 (n0).toNat)
  have e4 : hV H1 330 = hV H0 330 := fRow f14.1.2.1 330 kR_265_330
  have e5 : n15 = hV H0 330 (n14).toNat := (by rw [f27] at f36; exact f36 : n15 = hV H1 330 (n14).toNat).trans ((congrFun e4 _))
  have e8 : hV H1 328 = hV H0 328 := fRow f14.1.2.1 328 kR_265_328
  have e9 : hV H1 332 = hV H0 332 := fRow f14.1.2.1 332 kR_265_332
  have e10 : (0 : Int) ≤ hV H0 285 64 ∧ hV H0 285 64 ≤ 20 := bTo ((f14.1.2.1.1 285 64 kF_265_285_64)) (f14.1.2.2 285 64 _ _ kW_285_64)
  try simp only [e8, e4, e9] at g4
  try simp only [e8, e4, e9]
  have k0 := g4.1
  have y0 := g4.2.1
  have y1 := g4.2.2.1
  have y2 := g4.2.2.2.1
  have y3 := g4.2.2.2.2
  have p0 := g3.1
  have p1 := g3.2
  clear g3
  clear g4
  clear f17 f19 f22 f25 f28 f30 f33 f36 e4 e8 e9
  subst e0
  subst e2
  subst e3
  subst e5
  try (have c := y2.2.2 (n0).toNat (by omega); have t4 := SO4 p1 (by omega) c.1)
  first
  | (have ix0 : n17 = n0 + -1 := Eq.trans f39 (w32_iv (Iad (Iat f1 f0) (IC (-1))) (by decide)); subst ix0; clear f39)
  | (have ix0 : n17 = n0 + -1 := Eq.trans f39 (w32_id (by omega) (by omega)); subst ix0; clear f39)
  | (unfold w32 at f39; have ix0 : n17 = n0 + -1 := (by omega); subst ix0)
  | skip
  try unfold w32 at f39

  refine ⟨?_, fun q hq => ?_⟩
  · exact ⟨by omega, by omega, by omega, y2, LNp_step p1 (by omega) (by omega) y2 (by omega) (by omega) y3 (by omega) (by omega) (by omega)⟩
  · have g6 := Option.some.inj hq
    subst g6
    omega
theorem c_265_75_3 {q0 : Nat} : vOkm T0 (eP e_265 L_265 A_265 mu_265 (some q0)) 2 ([(10, [17, 7], [], -1), (0, [16], [], 0), (45, [6, 15], [], 0), (22, [15, 12, 14], [1], 0), (90, [15], [], -2147483648), (91, [15], [], 2147483647), (22, [14, 13, 7], [1], 0), (90, [14], [], 0), (91, [14], [], 19), (20, [13, 2], [1], 81), (0, [13], [], 343), (20, [12, 2], [1], 68), (0, [12], [], 330), (43, [11, 6], [], 0), (22, [11, 8, 10], [1], 0), (90, [11], [], -2147483648), (91, [11], [], 2147483647), (22, [10, 9, 7], [1], 0), (90, [10], [], 0), (91, [10], [], 19), (20, [9, 2], [1], 81), (0, [9], [], 343), (20, [8, 2], [1], 69), (0, [8], [], 331), (33, [7], [], 0), (5000, [0, 1, 2, 3, 4, 5, 6, 7], [0, 1], 75), (0, [0], [], 285), (90, [1], [], 0), (91, [1], [], 19), (0, [2], [], 285), (90, [3], [], 0), (91, [3], [], 19), (90, [4], [], 0), (91, [4], [], 19), (90, [5], [], 0), (91, [5], [], 19), (90, [6], [], 0), (91, [6], [], 240), (90, [7], [], -1), (91, [7], [], 19)], (4000, [2, 3, 4, 5, 16, 17], [1], 75)) := vOk_inI fun ρ η f0 f1 f2 f3 f4 f5 f6 f7 f8 f9 f10 f11 f12 f13 f14 f15 f16 f17 f18 f19 f20 f21 f22 f23 f24 f25 f26 f27 f28 f29 f30 f31 f32 f33 f34 f35 f36 f37 f38 f39 => q_265_19 (q0 := q0) (n0 := ρ 7) (n1 := ρ 6) (n2 := ρ 5) (n3 := ρ 4) (n4 := ρ 3) (n5 := ρ 2) (n6 := ρ 1) (n7 := ρ 0) (n8 := ρ 8) (n9 := ρ 9) (n10 := ρ 10) (n11 := ρ 11) (n12 := ρ 12) (n13 := ρ 13) (n14 := ρ 14) (n15 := ρ 15) (n16 := ρ 16) (n17 := ρ 17) (H0 := η 0) (H1 := η 1) f39 f38 f37 f36 f35 f34 f33 f32 f31 f30 f29 f28 f27 f26 f25 f24 f23 f22 f21 f20 f19 f18 f17 f16 f15 f14 f13 f12 f11 f10 f9 f8 f7 f6 f5 f4 f3 f2 f1 f0
theorem q_265_20 {q0 : Nat} {n0 n1 n2 n3 n4 n5 n6 n7 n8 n9 n10 n11 n12 n13 n14 n15 n16 n17 n18 n19 n20 n21 : Int} {H0 H1 : gH} (f0 : n0 ≤ 19) (f1 : (-1) ≤ n0) (f2 : n1 ≤ 240) (f3 : 0 ≤ n1) (f4 : n2 ≤ 19) (f5 : 0 ≤ n2) (f6 : n3 ≤ 19) (f7 : 0 ≤ n3) (f8 : n4 ≤ 19) (f9 : 0 ≤ n4) (f10 : n5 = 285) (f11 : n6 ≤ 19) (f12 : 0 ≤ n6) (f13 : n7 = 285) (f14 : (hLe T0 H0 H1 ∧ hFr s_265.2.2.2.2 H0 H1 ∧ hWt T0 H1) ∧ (Ab_265_75 n7 n6 n5 n4 n3 n2 n1 n0 H0 H1 ∧ preb_265 n7 n6 H0) ∧ some q0 = some (mub_265_75 n7 n6 n5 n4 n3 n2 n1 n0 H0 H1)) (f15 : 0 ≤ n0) (f16 : n8 = 331) (f17 : n8 = hV H1 (n5).toNat 69) (f18 : n9 = 343) (f19 : n9 = hV H1 (n5).toNat 81) (f20 : n10 ≤ 19) (f21 : 0 ≤ n10) (f22 : n10 = hV H1 (n9).toNat (n0).toNat) (f23 : n11 ≤ 2147483647) (f24 : (-2147483648) ≤ n11) (f25 : n11 = hV H1 (n8).toNat (n10).toNat) (f26 : n1 ≤ n11) (f27 : n12 = 330) (f28 : n12 = hV H1 (n5).toNat 68) (f29 : n13 = 343) (f30 : n13 = hV H1 (n5).toNat 81) (f31 : n14 ≤ 19) (f32 : 0 ≤ n14) (f33 : n14 = hV H1 (n13).toNat (n0).toNat) (f34 : n15 ≤ 2147483647) (f35 : (-2147483648) ≤ n15) (f36 : n15 = hV H1 (n12).toNat (n14).toNat) (f37 : n15 < n1) (f38 : n16 = 330) (f39 : n16 = hV H1 (n5).toNat 68) (f40 : n17 = 343) (f41 : n17 = hV H1 (n5).toNat 81) (f42 : n18 ≤ 19) (f43 : 0 ≤ n18) (f44 : n18 = hV H1 (n17).toNat (n0).toNat) (f45 : n19 ≤ 2147483647) (f46 : (-2147483648) ≤ n19) (f47 : n19 = hV H1 (n16).toNat (n18).toNat) (f48 : n20 = w32 (n1 - n19)) (f49 : n21 = w32 (n0 + (-1))) : 0 ≤ n20 := by
  have g4 := f14.2.1.1
  unfold Ab_265_75 at g4
  have g3 := f14.2.1.2
  unfold preb_265 at g3
  have e0 : n10 = hV H1 343 (n0).toNat := (by rw [f18] at f22; exact f22 : n10 = hV H1 343 (n0).toNat)
  have e2 : n11 = hV H0 331 (n10).toNat := (by rw [f16] at f25; exact f25 : n11 = hV H1 331 (n10).toNat).trans ((congrFun (fRow f14.1.2.1 331 kR_265_331) _))
  have e3 : n14 = hV H1 343 (n0).toNat := (by rw [f29] at f33; exact f33 : n14 = hV H1 343 (n0).toNat)
  have e4 : hV H1 330 = hV H0 330 := fRow f14.1.2.1 330 kR_265_330
  have e5 : n15 = hV H0 330 (n14).toNat := (by rw [f27] at f36; exact f36 : n15 = hV H1 330 (n14).toNat).trans ((congrFun e4 _))
  have e6 : n18 = hV H1 343 (n0).toNat := (by rw [f40] at f44; exact f44 : n18 = hV H1 343 (n0).toNat)
  have e7 : n19 = hV H0 330 (n18).toNat := (by rw [f38] at f47; exact f47 : n19 = hV H1 330 (n18).toNat).trans ((congrFun e4 _))
  have e10 : hV H1 328 = hV H0 328 := fRow f14.1.2.1 328 kR_265_328
  have e11 : hV H1 332 = hV H0 332 := fRow f14.1.2.1 332 kR_265_332
  have e12 : (0 : Int) ≤ hV H0 285 64 ∧ hV H0 285 64 ≤ 20 := bTo ((f14.1.2.1.1 285 64 kF_265_285_64)) (f14.1.2.2 285 64 _ _ kW_285_64)
  try simp only [e10, e4, e11] at g4
  have k0 := g4.1
  have y0 := g4.2.1
  have y1 := g4.2.2.1
  have y2 := g4.2.2.2.1
  have y3 := g4.2.2.2.2
  have p0 := g3.1
  have p1 := g3.2
  clear g3
  clear g4
  clear f17 f19 f22 f25 f28 f30 f33 f36 f39 f41 f44 f47 e4 e10 e11
  subst e0
  subst e2
  subst e3
  subst e5
  subst e6
  subst e7
  try (have c := y2.2.2 (n0).toNat (by omega); have t4 := SO4 p1 (by omega) c.1)
  first
  | (have ix0 : n20 = n1 - (hV H0 330 (hV H1 343 (n0).toNat).toNat) := Eq.trans f48 (w32_id (by omega) (by omega)); subst ix0; clear f48)
  | (unfold w32 at f48; have ix0 : n20 = n1 - (hV H0 330 (hV H1 343 (n0).toNat).toNat) := (by omega); subst ix0)
  | skip
  try unfold w32 at f48
  try unfold w32 at f49
  omega
theorem c_265_75_4 {q0 : Nat} : vOkm T0 (eP e_265 L_265 A_265 mu_265 (some q0)) 2 ([(10, [21, 7], [], -1), (2, [20, 6, 19], [], 0), (22, [19, 16, 18], [1], 0), (90, [19], [], -2147483648), (91, [19], [], 2147483647), (22, [18, 17, 7], [1], 0), (90, [18], [], 0), (91, [18], [], 19), (20, [17, 2], [1], 81), (0, [17], [], 343), (20, [16, 2], [1], 68), (0, [16], [], 330), (44, [6, 15], [], 0), (22, [15, 12, 14], [1], 0), (90, [15], [], -2147483648), (91, [15], [], 2147483647), (22, [14, 13, 7], [1], 0), (90, [14], [], 0), (91, [14], [], 19), (20, [13, 2], [1], 81), (0, [13], [], 343), (20, [12, 2], [1], 68), (0, [12], [], 330), (43, [11, 6], [], 0), (22, [11, 8, 10], [1], 0), (90, [11], [], -2147483648), (91, [11], [], 2147483647), (22, [10, 9, 7], [1], 0), (90, [10], [], 0), (91, [10], [], 19), (20, [9, 2], [1], 81), (0, [9], [], 343), (20, [8, 2], [1], 69), (0, [8], [], 331), (33, [7], [], 0), (5000, [0, 1, 2, 3, 4, 5, 6, 7], [0, 1], 75), (0, [0], [], 285), (90, [1], [], 0), (91, [1], [], 19), (0, [2], [], 285), (90, [3], [], 0), (91, [3], [], 19), (90, [4], [], 0), (91, [4], [], 19), (90, [5], [], 0), (91, [5], [], 19), (90, [6], [], 0), (91, [6], [], 240), (90, [7], [], -1), (91, [7], [], 19)], (90, [20], [], 0)) := vOk_inI fun ρ η f0 f1 f2 f3 f4 f5 f6 f7 f8 f9 f10 f11 f12 f13 f14 f15 f16 f17 f18 f19 f20 f21 f22 f23 f24 f25 f26 f27 f28 f29 f30 f31 f32 f33 f34 f35 f36 f37 f38 f39 f40 f41 f42 f43 f44 f45 f46 f47 f48 f49 => q_265_20 (q0 := q0) (n0 := ρ 7) (n1 := ρ 6) (n2 := ρ 5) (n3 := ρ 4) (n4 := ρ 3) (n5 := ρ 2) (n6 := ρ 1) (n7 := ρ 0) (n8 := ρ 8) (n9 := ρ 9) (n10 := ρ 10) (n11 := ρ 11) (n12 := ρ 12) (n13 := ρ 13) (n14 := ρ 14) (n15 := ρ 15) (n16 := ρ 16) (n17 := ρ 17) (n18 := ρ 18) (n19 := ρ 19) (n20 := ρ 20) (n21 := ρ 21) (H0 := η 0) (H1 := η 1) f49 f48 f47 f46 f45 f44 f43 f42 f41 f40 f39 f38 f37 f36 f35 f34 f33 f32 f31 f30 f29 f28 f27 f26 f25 f24 f23 f22 f21 f20 f19 f18 f17 f16 f15 f14 f13 f12 f11 f10 f9 f8 f7 f6 f5 f4 f3 f2 f1 f0
theorem q_265_21 {q0 : Nat} {n0 n1 n2 n3 n4 n5 n6 n7 n8 n9 n10 n11 n12 n13 n14 n15 n16 n17 n18 n19 n20 n21 : Int} {H0 H1 : gH} (f0 : n0 ≤ 19) (f1 : (-1) ≤ n0) (f2 : n1 ≤ 240) (f3 : 0 ≤ n1) (f4 : n2 ≤ 19) (f5 : 0 ≤ n2) (f6 : n3 ≤ 19) (f7 : 0 ≤ n3) (f8 : n4 ≤ 19) (f9 : 0 ≤ n4) (f10 : n5 = 285) (f11 : n6 ≤ 19) (f12 : 0 ≤ n6) (f13 : n7 = 285) (f14 : (hLe T0 H0 H1 ∧ hFr s_265.2.2.2.2 H0 H1 ∧ hWt T0 H1) ∧ (Ab_265_75 n7 n6 n5 n4 n3 n2 n1 n0 H0 H1 ∧ preb_265 n7 n6 H0) ∧ some q0 = some (mub_265_75 n7 n6 n5 n4 n3 n2 n1 n0 H0 H1)) (f15 : 0 ≤ n0) (f16 : n8 = 331) (f17 : n8 = hV H1 (n5).toNat 69) (f18 : n9 = 343) (f19 : n9 = hV H1 (n5).toNat 81) (f20 : n10 ≤ 19) (f21 : 0 ≤ n10) (f22 : n10 = hV H1 (n9).toNat (n0).toNat) (f23 : n11 ≤ 2147483647) (f24 : (-2147483648) ≤ n11) (f25 : n11 = hV H1 (n8).toNat (n10).toNat) (f26 : n1 ≤ n11) (f27 : n12 = 330) (f28 : n12 = hV H1 (n5).toNat 68) (f29 : n13 = 343) (f30 : n13 = hV H1 (n5).toNat 81) (f31 : n14 ≤ 19) (f32 : 0 ≤ n14) (f33 : n14 = hV H1 (n13).toNat (n0).toNat) (f34 : n15 ≤ 2147483647) (f35 : (-2147483648) ≤ n15) (f36 : n15 = hV H1 (n12).toNat (n14).toNat) (f37 : n15 < n1) (f38 : n16 = 330) (f39 : n16 = hV H1 (n5).toNat 68) (f40 : n17 = 343) (f41 : n17 = hV H1 (n5).toNat 81) (f42 : n18 ≤ 19) (f43 : 0 ≤ n18) (f44 : n18 = hV H1 (n17).toNat (n0).toNat) (f45 : n19 ≤ 2147483647) (f46 : (-2147483648) ≤ n19) (f47 : n19 = hV H1 (n16).toNat (n18).toNat) (f48 : n20 = w32 (n1 - n19)) (f49 : n21 = w32 (n0 + (-1))) : n20 ≤ 240 := by
  have g4 := f14.2.1.1
  unfold Ab_265_75 at g4
  have g3 := f14.2.1.2
  unfold preb_265 at g3
  have e0 : n10 = hV H1 343 (n0).toNat := (by rw [f18] at f22; exact f22 : n10 = hV H1 343 (n0).toNat)
  have e2 : n11 = hV H0 331 (n10).toNat := (by rw [f16] at f25; exact f25 : n11 = hV H1 331 (n10).toNat).trans ((congrFun (fRow f14.1.2.1 331 kR_265_331) _))
  have e3 : n14 = hV H1 343 (n0).toNat := (by rw [f29] at f33; exact f33 : n14 = hV H1 343 (n0).toNat)
  have e4 : hV H1 330 = hV H0 330 := fRow f14.1.2.1 330 kR_265_330
  have e5 : n15 = hV H0 330 (n14).toNat := (by rw [f27] at f36; exact f36 : n15 = hV H1 330 (n14).toNat).trans ((congrFun e4 _))
  have e6 : n18 = hV H1 343 (n0).toNat := (by rw [f40] at f44; exact f44 : n18 = hV H1 343 (n0).toNat)
  have e7 : n19 = hV H0 330 (n18).toNat := (by rw [f38] at f47; exact f47 : n19 = hV H1 330 (n18).toNat).trans ((congrFun e4 _))
  have e10 : hV H1 328 = hV H0 328 := fRow f14.1.2.1 328 kR_265_328
  have e11 : hV H1 332 = hV H0 332 := fRow f14.1.2.1 332 kR_265_332
  have e12 : (0 : Int) ≤ hV H0 285 64 ∧ hV H0 285 64 ≤ 20 := bTo ((f14.1.2.1.1 285 64 kF_265_285_64)) (f14.1.2.2 285 64 _ _ kW_285_64)
  try simp only [e10, e4, e11] at g4
  have k0 := g4.1
  have y0 := g4.2.1
  have y1 := g4.2.2.1
  have y2 := g4.2.2.2.1
  have y3 := g4.2.2.2.2
  have p0 := g3.1
  have p1 := g3.2
  clear g3
  clear g4
  clear f17 f19 f22 f25 f28 f30 f33 f36 f39 f41 f44 f47 e4 e10 e11
  subst e0
  subst e2
  subst e3
  subst e5
  subst e6
  subst e7
  try (have c := y2.2.2 (n0).toNat (by omega); have t4 := SO4 p1 (by omega) c.1)
  first
  | (have ix0 : n20 = n1 - (hV H0 330 (hV H1 343 (n0).toNat).toNat) := Eq.trans f48 (w32_id (by omega) (by omega)); subst ix0; clear f48)
  | (unfold w32 at f48; have ix0 : n20 = n1 - (hV H0 330 (hV H1 343 (n0).toNat).toNat) := (by omega); subst ix0)
  | skip
  try unfold w32 at f48
  try unfold w32 at f49
  omega
theorem c_265_75_5 {q0 : Nat} : vOkm T0 (eP e_265 L_265 A_265 mu_265 (some q0)) 2 ([(10, [21, 7], [], -1), (2, [20, 6, 19], [], 0), (22, [19, 16, 18], [1], 0), (90, [19], [], -2147483648), (91, [19], [], 2147483647), (22, [18, 17, 7], [1], 0), (90, [18], [], 0), (91, [18], [], 19), (20, [17, 2], [1], 81), (0, [17], [], 343), (20, [16, 2], [1], 68), (0, [16], [], 330), (44, [6, 15], [], 0), (22, [15, 12, 14], [1], 0), (90, [15], [], -2147483648), (91, [15], [], 2147483647), (22, [14, 13, 7], [1], 0), (90, [14], [], 0), (91, [14], [], 19), (20, [13, 2], [1], 81), (0, [13], [], 343), (20, [12, 2], [1], 68), (0, [12], [], 330), (43, [11, 6], [], 0), (22, [11, 8, 10], [1], 0), (90, [11], [], -2147483648), (91, [11], [], 2147483647), (22, [10, 9, 7], [1], 0), (90, [10], [], 0), (91, [10], [], 19), (20, [9, 2], [1], 81), (0, [9], [], 343), (20, [8, 2], [1], 69), (0, [8], [], 331), (33, [7], [], 0), (5000, [0, 1, 2, 3, 4, 5, 6, 7], [0, 1], 75), (0, [0], [], 285), (90, [1], [], 0), (91, [1], [], 19), (0, [2], [], 285), (90, [3], [], 0), (91, [3], [], 19), (90, [4], [], 0), (91, [4], [], 19), (90, [5], [], 0), (91, [5], [], 19), (90, [6], [], 0), (91, [6], [], 240), (90, [7], [], -1), (91, [7], [], 19)], (91, [20], [], 240)) := vOk_inI fun ρ η f0 f1 f2 f3 f4 f5 f6 f7 f8 f9 f10 f11 f12 f13 f14 f15 f16 f17 f18 f19 f20 f21 f22 f23 f24 f25 f26 f27 f28 f29 f30 f31 f32 f33 f34 f35 f36 f37 f38 f39 f40 f41 f42 f43 f44 f45 f46 f47 f48 f49 => q_265_21 (q0 := q0) (n0 := ρ 7) (n1 := ρ 6) (n2 := ρ 5) (n3 := ρ 4) (n4 := ρ 3) (n5 := ρ 2) (n6 := ρ 1) (n7 := ρ 0) (n8 := ρ 8) (n9 := ρ 9) (n10 := ρ 10) (n11 := ρ 11) (n12 := ρ 12) (n13 := ρ 13) (n14 := ρ 14) (n15 := ρ 15) (n16 := ρ 16) (n17 := ρ 17) (n18 := ρ 18) (n19 := ρ 19) (n20 := ρ 20) (n21 := ρ 21) (H0 := η 0) (H1 := η 1) f49 f48 f47 f46 f45 f44 f43 f42 f41 f40 f39 f38 f37 f36 f35 f34 f33 f32 f31 f30 f29 f28 f27 f26 f25 f24 f23 f22 f21 f20 f19 f18 f17 f16 f15 f14 f13 f12 f11 f10 f9 f8 f7 f6 f5 f4 f3 f2 f1 f0
theorem q_265_22 {q0 : Nat} {n0 n1 n2 n3 n4 n5 n6 n7 n8 n9 n10 n11 n12 n13 n14 n15 n16 n17 n18 n19 n20 n21 : Int} {H0 H1 : gH} (f0 : n0 ≤ 19) (f1 : (-1) ≤ n0) (f2 : n1 ≤ 240) (f3 : 0 ≤ n1) (f4 : n2 ≤ 19) (f5 : 0 ≤ n2) (f6 : n3 ≤ 19) (f7 : 0 ≤ n3) (f8 : n4 ≤ 19) (f9 : 0 ≤ n4) (f10 : n5 = 285) (f11 : n6 ≤ 19) (f12 : 0 ≤ n6) (f13 : n7 = 285) (f14 : (hLe T0 H0 H1 ∧ hFr s_265.2.2.2.2 H0 H1 ∧ hWt T0 H1) ∧ (Ab_265_75 n7 n6 n5 n4 n3 n2 n1 n0 H0 H1 ∧ preb_265 n7 n6 H0) ∧ some q0 = some (mub_265_75 n7 n6 n5 n4 n3 n2 n1 n0 H0 H1)) (f15 : 0 ≤ n0) (f16 : n8 = 331) (f17 : n8 = hV H1 (n5).toNat 69) (f18 : n9 = 343) (f19 : n9 = hV H1 (n5).toNat 81) (f20 : n10 ≤ 19) (f21 : 0 ≤ n10) (f22 : n10 = hV H1 (n9).toNat (n0).toNat) (f23 : n11 ≤ 2147483647) (f24 : (-2147483648) ≤ n11) (f25 : n11 = hV H1 (n8).toNat (n10).toNat) (f26 : n1 ≤ n11) (f27 : n12 = 330) (f28 : n12 = hV H1 (n5).toNat 68) (f29 : n13 = 343) (f30 : n13 = hV H1 (n5).toNat 81) (f31 : n14 ≤ 19) (f32 : 0 ≤ n14) (f33 : n14 = hV H1 (n13).toNat (n0).toNat) (f34 : n15 ≤ 2147483647) (f35 : (-2147483648) ≤ n15) (f36 : n15 = hV H1 (n12).toNat (n14).toNat) (f37 : n15 < n1) (f38 : n16 = 330) (f39 : n16 = hV H1 (n5).toNat 68) (f40 : n17 = 343) (f41 : n17 = hV H1 (n5).toNat 81) (f42 : n18 ≤ 19) (f43 : 0 ≤ n18) (f44 : n18 = hV H1 (n17).toNat (n0).toNat) (f45 : n19 ≤ 2147483647) (f46 : (-2147483648) ≤ n19) (f47 : n19 = hV H1 (n16).toNat (n18).toNat) (f48 : n20 = w32 (n1 - n19)) (f49 : n21 = w32 (n0 + (-1))) : (-1) ≤ n21 := by
  have g4 := f14.2.1.1
  unfold Ab_265_75 at g4
  have g3 := f14.2.1.2
  unfold preb_265 at g3
  have e0 : n10 = hV H1 343 (n0).toNat := (by rw [f18] at f22; exact f22 : n10 = hV H1 343 (n0).toNat)
  have e2 : n11 = hV H0 331 (n10).toNat := (by rw [f16] at f25; exact f25 : n11 = hV H1 331 (n10).toNat).trans ((congrFun (fRow f14.1.2.1 331 kR_265_331) _))
  have e3 : n14 = hV H1 343 (n0).toNat := (by rw [f29] at f33; exact f33 : n14 = hV H1 343 (n0).toNat)
  have e4 : hV H1 330 = hV H0 330 := fRow f14.1.2.1 330 kR_265_330
  have e5 : n15 = hV H0 330 (n14).toNat := (by rw [f27] at f36; exact f36 : n15 = hV H1 330 (n14).toNat).trans ((congrFun e4 _))
  have e6 : n18 = hV H1 343 (n0).toNat := (by rw [f40] at f44; exact f44 : n18 = hV H1 343 (n0).toNat)
  have e7 : n19 = hV H0 330 (n18).toNat := (by rw [f38] at f47; exact f47 : n19 = hV H1 330 (n18).toNat).trans ((congrFun e4 _))
  have e10 : hV H1 328 = hV H0 328 := fRow f14.1.2.1 328 kR_265_328
  have e11 : hV H1 332 = hV H0 332 := fRow f14.1.2.1 332 kR_265_332
  have e12 : (0 : Int) ≤ hV H0 285 64 ∧ hV H0 285 64 ≤ 20 := bTo ((f14.1.2.1.1 285 64 kF_265_285_64)) (f14.1.2.2 285 64 _ _ kW_285_64)
  try simp only [e10, e4, e11] at g4
  have k0 := g4.1
  have y0 := g4.2.1
  have y1 := g4.2.2.1
  have y2 := g4.2.2.2.1
  have y3 := g4.2.2.2.2
  have p0 := g3.1
  have p1 := g3.2
  clear g3
  clear g4
  clear f17 f19 f22 f25 f28 f30 f33 f36 f39 f41 f44 f47 e4 e10 e11
  subst e0
  subst e2
  subst e3
  subst e5
  subst e6
  subst e7
  try (have c := y2.2.2 (n0).toNat (by omega); have t4 := SO4 p1 (by omega) c.1)
  first
  | (have ix0 : n21 = n0 + -1 := Eq.trans f49 (w32_iv (Iad (Iat f1 f0) (IC (-1))) (by decide)); subst ix0; clear f49)
  | (have ix0 : n21 = n0 + -1 := Eq.trans f49 (w32_id (by omega) (by omega)); subst ix0; clear f49)
  | (unfold w32 at f49; have ix0 : n21 = n0 + -1 := (by omega); subst ix0)
  | skip
  try unfold w32 at f48
  try unfold w32 at f49
  omega
theorem c_265_75_6 {q0 : Nat} : vOkm T0 (eP e_265 L_265 A_265 mu_265 (some q0)) 2 ([(10, [21, 7], [], -1), (2, [20, 6, 19], [], 0), (22, [19, 16, 18], [1], 0), (90, [19], [], -2147483648), (91, [19], [], 2147483647), (22, [18, 17, 7], [1], 0), (90, [18], [], 0), (91, [18], [], 19), (20, [17, 2], [1], 81), (0, [17], [], 343), (20, [16, 2], [1], 68), (0, [16], [], 330), (44, [6, 15], [], 0), (22, [15, 12, 14], [1], 0), (90, [15], [], -2147483648), (91, [15], [], 2147483647), (22, [14, 13, 7], [1], 0), (90, [14], [], 0), (91, [14], [], 19), (20, [13, 2], [1], 81), (0, [13], [], 343), (20, [12, 2], [1], 68), (0, [12], [], 330), (43, [11, 6], [], 0), (22, [11, 8, 10], [1], 0), (90, [11], [], -2147483648), (91, [11], [], 2147483647), (22, [10, 9, 7], [1], 0), (90, [10], [], 0), (91, [10], [], 19), (20, [9, 2], [1], 81), (0, [9], [], 343), (20, [8, 2], [1], 69), (0, [8], [], 331), (33, [7], [], 0), (5000, [0, 1, 2, 3, 4, 5, 6, 7], [0, 1], 75), (0, [0], [], 285), (90, [1], [], 0), (91, [1], [], 19), (0, [2], [], 285), (90, [3], [], 0), (91, [3], [], 19), (90, [4], [], 0), (91, [4], [], 19), (90, [5], [], 0), (91, [5], [], 19), (90, [6], [], 0), (91, [6], [], 240), (90, [7], [], -1), (91, [7], [], 19)], (90, [21], [], -1)) := vOk_inI fun ρ η f0 f1 f2 f3 f4 f5 f6 f7 f8 f9 f10 f11 f12 f13 f14 f15 f16 f17 f18 f19 f20 f21 f22 f23 f24 f25 f26 f27 f28 f29 f30 f31 f32 f33 f34 f35 f36 f37 f38 f39 f40 f41 f42 f43 f44 f45 f46 f47 f48 f49 => q_265_22 (q0 := q0) (n0 := ρ 7) (n1 := ρ 6) (n2 := ρ 5) (n3 := ρ 4) (n4 := ρ 3) (n5 := ρ 2) (n6 := ρ 1) (n7 := ρ 0) (n8 := ρ 8) (n9 := ρ 9) (n10 := ρ 10) (n11 := ρ 11) (n12 := ρ 12) (n13 := ρ 13) (n14 := ρ 14) (n15 := ρ 15) (n16 := ρ 16) (n17 := ρ 17) (n18 := ρ 18) (n19 := ρ 19) (n20 := ρ 20) (n21 := ρ 21) (H0 := η 0) (H1 := η 1) f49 f48 f47 f46 f45 f44 f43 f42 f41 f40 f39 f38 f37 f36 f35 f34 f33 f32 f31 f30 f29 f28 f27 f26 f25 f24 f23 f22 f21 f20 f19 f18 f17 f16 f15 f14 f13 f12 f11 f10 f9 f8 f7 f6 f5 f4 f3 f2 f1 f0
theorem q_265_23 {q0 : Nat} {n0 n1 n2 n3 n4 n5 n6 n7 n8 n9 n10 n11 n12 n13 n14 n15 n16 n17 n18 n19 n20 n21 : Int} {H0 H1 : gH} (f0 : n0 ≤ 19) (f1 : (-1) ≤ n0) (f2 : n1 ≤ 240) (f3 : 0 ≤ n1) (f4 : n2 ≤ 19) (f5 : 0 ≤ n2) (f6 : n3 ≤ 19) (f7 : 0 ≤ n3) (f8 : n4 ≤ 19) (f9 : 0 ≤ n4) (f10 : n5 = 285) (f11 : n6 ≤ 19) (f12 : 0 ≤ n6) (f13 : n7 = 285) (f14 : (hLe T0 H0 H1 ∧ hFr s_265.2.2.2.2 H0 H1 ∧ hWt T0 H1) ∧ (Ab_265_75 n7 n6 n5 n4 n3 n2 n1 n0 H0 H1 ∧ preb_265 n7 n6 H0) ∧ some q0 = some (mub_265_75 n7 n6 n5 n4 n3 n2 n1 n0 H0 H1)) (f15 : 0 ≤ n0) (f16 : n8 = 331) (f17 : n8 = hV H1 (n5).toNat 69) (f18 : n9 = 343) (f19 : n9 = hV H1 (n5).toNat 81) (f20 : n10 ≤ 19) (f21 : 0 ≤ n10) (f22 : n10 = hV H1 (n9).toNat (n0).toNat) (f23 : n11 ≤ 2147483647) (f24 : (-2147483648) ≤ n11) (f25 : n11 = hV H1 (n8).toNat (n10).toNat) (f26 : n1 ≤ n11) (f27 : n12 = 330) (f28 : n12 = hV H1 (n5).toNat 68) (f29 : n13 = 343) (f30 : n13 = hV H1 (n5).toNat 81) (f31 : n14 ≤ 19) (f32 : 0 ≤ n14) (f33 : n14 = hV H1 (n13).toNat (n0).toNat) (f34 : n15 ≤ 2147483647) (f35 : (-2147483648) ≤ n15) (f36 : n15 = hV H1 (n12).toNat (n14).toNat) (f37 : n15 < n1) (f38 : n16 = 330) (f39 : n16 = hV H1 (n5).toNat 68) (f40 : n17 = 343) (f41 : n17 = hV H1 (n5).toNat 81) (f42 : n18 ≤ 19) (f43 : 0 ≤ n18) (f44 : n18 = hV H1 (n17).toNat (n0).toNat) (f45 : n19 ≤ 2147483647) (f46 : (-2147483648) ≤ n19) (f47 : n19 = hV H1 (n16).toNat (n18).toNat) (f48 : n20 = w32 (n1 - n19)) (f49 : n21 = w32 (n0 + (-1))) : n21 ≤ 19 := by
  have g4 := f14.2.1.1
  unfold Ab_265_75 at g4
  have g3 := f14.2.1.2
  unfold preb_265 at g3
  have e0 : n10 = hV H1 343 (n0).toNat := (by rw [f18] at f22; exact f22 : n10 = hV H1 343 (n0).toNat)
  have e2 : n11 = hV H0 331 (n10).toNat := (by rw [f16] at f25; exact f25 : n11 = hV H1 331 (n10).toNat).trans ((congrFun (fRow f14.1.2.1 331 kR_265_331) _))
  have e3 : n14 = hV H1 343 (n0).toNat := (by rw [f29] at f33; exact f33 : n14 = hV H1 343 (n0).toNat)
  have e4 : hV H1 330 = hV H0 330 := fRow f14.1.2.1 330 kR_265_330
  have e5 : n15 = hV H0 330 (n14).toNat := (by rw [f27] at f36; exact f36 : n15 = hV H1 330 (n14).toNat).trans ((congrFun e4 _))
  have e6 : n18 = hV H1 343 (n0).toNat := (by rw [f40] at f44; exact f44 : n18 = hV H1 343 (n0).toNat)
  have e7 : n19 = hV H0 330 (n18).toNat := (by rw [f38] at f47; exact f47 : n19 = hV H1 330 (n18).toNat).trans ((congrFun e4 _))
  have e10 : hV H1 328 = hV H0 328 := fRow f14.1.2.1 328 kR_265_328
  have e11 : hV H1 332 = hV H0 332 := fRow f14.1.2.1 332 kR_265_332
  have e12 : (0 : Int) ≤ hV H0 285 64 ∧ hV H0 285 64 ≤ 20 := bTo ((f14.1.2.1.1 285 64 kF_265_285_64)) (f14.1.2.2 285 64 _ _ kW_285_64)
  try simp only [e10, e4, e11] at g4
  have k0 := g4.1
  have y0 := g4.2.1
  have y1 := g4.2.2.1
  have y2 := g4.2.2.2.1
  have y3 := g4.2.2.2.2
  have p0 := g3.1
  have p1 := g3.2
  clear g3
  clear g4
  clear f17 f19 f22 f25 f28 f30 f33 f36 f39 f41 f44 f47 e4 e10 e11
  subst e0
  subst e2
  subst e3
  subst e5
  subst e6
  subst e7
  try (have c := y2.2.2 (n0).toNat (by omega); have t4 := SO4 p1 (by omega) c.1)
  first
  | (have ix0 : n21 = n0 + -1 := Eq.trans f49 (w32_iv (Iad (Iat f1 f0) (IC (-1))) (by decide)); subst ix0; clear f49)
  | (have ix0 : n21 = n0 + -1 := Eq.trans f49 (w32_id (by omega) (by omega)); subst ix0; clear f49)
  | (unfold w32 at f49; have ix0 : n21 = n0 + -1 := (by omega); subst ix0)
  | skip
  try unfold w32 at f48
  try unfold w32 at f49
  omega
theorem c_265_75_7 {q0 : Nat} : vOkm T0 (eP e_265 L_265 A_265 mu_265 (some q0)) 2 ([(10, [21, 7], [], -1), (2, [20, 6, 19], [], 0), (22, [19, 16, 18], [1], 0), (90, [19], [], -2147483648), (91, [19], [], 2147483647), (22, [18, 17, 7], [1], 0), (90, [18], [], 0), (91, [18], [], 19), (20, [17, 2], [1], 81), (0, [17], [], 343), (20, [16, 2], [1], 68), (0, [16], [], 330), (44, [6, 15], [], 0), (22, [15, 12, 14], [1], 0), (90, [15], [], -2147483648), (91, [15], [], 2147483647), (22, [14, 13, 7], [1], 0), (90, [14], [], 0), (91, [14], [], 19), (20, [13, 2], [1], 81), (0, [13], [], 343), (20, [12, 2], [1], 68), (0, [12], [], 330), (43, [11, 6], [], 0), (22, [11, 8, 10], [1], 0), (90, [11], [], -2147483648), (91, [11], [], 2147483647), (22, [10, 9, 7], [1], 0), (90, [10], [], 0), (91, [10], [], 19), (20, [9, 2], [1], 81), (0, [9], [], 343), (20, [8, 2], [1], 69), (0, [8], [], 331), (33, [7], [], 0), (5000, [0, 1, 2, 3, 4, 5, 6, 7], [0, 1], 75), (0, [0], [], 285), (90, [1], [], 0), (91, [1], [], 19), (0, [2], [], 285), (90, [3], [], 0), (91, [3], [], 19), (90, [4], [], 0), (91, [4], [], 19), (90, [5], [], 0), (91, [5], [], 19), (90, [6], [], 0), (91, [6], [], 240), (90, [7], [], -1), (91, [7], [], 19)], (91, [21], [], 19)) := vOk_inI fun ρ η f0 f1 f2 f3 f4 f5 f6 f7 f8 f9 f10 f11 f12 f13 f14 f15 f16 f17 f18 f19 f20 f21 f22 f23 f24 f25 f26 f27 f28 f29 f30 f31 f32 f33 f34 f35 f36 f37 f38 f39 f40 f41 f42 f43 f44 f45 f46 f47 f48 f49 => q_265_23 (q0 := q0) (n0 := ρ 7) (n1 := ρ 6) (n2 := ρ 5) (n3 := ρ 4) (n4 := ρ 3) (n5 := ρ 2) (n6 := ρ 1) (n7 := ρ 0) (n8 := ρ 8) (n9 := ρ 9) (n10 := ρ 10) (n11 := ρ 11) (n12 := ρ 12) (n13 := ρ 13) (n14 := ρ 14) (n15 := ρ 15) (n16 := ρ 16) (n17 := ρ 17) (n18 := ρ 18) (n19 := ρ 19) (n20 := ρ 20) (n21 := ρ 21) (H0 := η 0) (H1 := η 1) f49 f48 f47 f46 f45 f44 f43 f42 f41 f40 f39 f38 f37 f36 f35 f34 f33 f32 f31 f30 f29 f28 f27 f26 f25 f24 f23 f22 f21 f20 f19 f18 f17 f16 f15 f14 f13 f12 f11 f10 f9 f8 f7 f6 f5 f4 f3 f2 f1 f0
theorem q_265_24 {q0 : Nat} {n0 n1 n2 n3 n4 n5 n6 n7 n8 n9 n10 n11 n12 n13 n14 n15 n16 n17 n18 n19 n20 n21 : Int} {H0 H1 : gH} (f0 : n0 ≤ 19) (f1 : (-1) ≤ n0) (f2 : n1 ≤ 240) (f3 : 0 ≤ n1) (f4 : n2 ≤ 19) (f5 : 0 ≤ n2) (f6 : n3 ≤ 19) (f7 : 0 ≤ n3) (f8 : n4 ≤ 19) (f9 : 0 ≤ n4) (f10 : n5 = 285) (f11 : n6 ≤ 19) (f12 : 0 ≤ n6) (f13 : n7 = 285) (f14 : (hLe T0 H0 H1 ∧ hFr s_265.2.2.2.2 H0 H1 ∧ hWt T0 H1) ∧ (Ab_265_75 n7 n6 n5 n4 n3 n2 n1 n0 H0 H1 ∧ preb_265 n7 n6 H0) ∧ some q0 = some (mub_265_75 n7 n6 n5 n4 n3 n2 n1 n0 H0 H1)) (f15 : 0 ≤ n0) (f16 : n8 = 331) (f17 : n8 = hV H1 (n5).toNat 69) (f18 : n9 = 343) (f19 : n9 = hV H1 (n5).toNat 81) (f20 : n10 ≤ 19) (f21 : 0 ≤ n10) (f22 : n10 = hV H1 (n9).toNat (n0).toNat) (f23 : n11 ≤ 2147483647) (f24 : (-2147483648) ≤ n11) (f25 : n11 = hV H1 (n8).toNat (n10).toNat) (f26 : n1 ≤ n11) (f27 : n12 = 330) (f28 : n12 = hV H1 (n5).toNat 68) (f29 : n13 = 343) (f30 : n13 = hV H1 (n5).toNat 81) (f31 : n14 ≤ 19) (f32 : 0 ≤ n14) (f33 : n14 = hV H1 (n13).toNat (n0).toNat) (f34 : n15 ≤ 2147483647) (f35 : (-2147483648) ≤ n15) (f36 : n15 = hV H1 (n12).toNat (n14).toNat) (f37 : n15 < n1) (f38 : n16 = 330) (f39 : n16 = hV H1 (n5).toNat 68) (f40 : n17 = 343) (f41 : n17 = hV H1 (n5).toNat 81) (f42 : n18 ≤ 19) (f43 : 0 ≤ n18) (f44 : n18 = hV H1 (n17).toNat (n0).toNat) (f45 : n19 ≤ 2147483647) (f46 : (-2147483648) ≤ n19) (f47 : n19 = hV H1 (n16).toNat (n18).toNat) (f48 : n20 = w32 (n1 - n19)) (f49 : n21 = w32 (n0 + (-1))) : Ab_265_75 n7 n6 n5 n4 n3 n2 n20 n21 H0 H1 ∧ ∀ q, some q0 = some q → mub_265_75 n7 n6 n5 n4 n3 n2 n20 n21 H0 H1 < q := by
  have g4 := f14.2.1.1
  unfold Ab_265_75 at g4
  have g3 := f14.2.1.2
  unfold preb_265 at g3
  have g5 := Option.some.inj f14.2.2
  unfold mub_265_75 at g5
  unfold Ab_265_75
  unfold mub_265_75
  have e0 : n10 = hV H1 343 (n0).toNat := (by rw [f18] at f22; exact f22 : n10 = hV H1 343 (n0).toNat)
  have e2 : n11 = hV H0 331 (n10).toNat := (by rw [f16] at f25; exact f25 : n11 = hV H1 331 (n10).toNat).trans ((congrFun (fRow f14.1.2.1 331 kR_265_331) _))
  have e3 : n14 = hV H1 343 (n0).toNat := (by rw [f29] at f33; exact f33 : n14 = hV H1 343 (n0).toNat)
  have e4 : hV H1 330 = hV H0 330 := fRow f14.1.2.1 330 kR_265_330
  have e5 : n15 = hV H0 330 (n14).toNat := (by rw [f27] at f36; exact f36 : n15 = hV H1 330 (n14).toNat).trans ((congrFun e4 _))
  have e6 : n18 = hV H1 343 (n0).toNat := (by rw [f40] at f44; exact f44 : n18 = hV H1 343 (n0).toNat)
  have e7 : n19 = hV H0 330 (n18).toNat := (by rw [f38] at f47; exact f47 : n19 = hV H1 330 (n18).toNat).trans ((congrFun e4 _))
  have e10 : hV H1 328 = hV H0 328 := fRow f14.1.2.1 328 kR_265_328
  have e11 : hV H1 332 = hV H0 332 := fRow f14.1.2.1 332 kR_265_332
  have e12 : (0 : Int) ≤ hV H0 285 64 ∧ hV H0 285 64 ≤ 20 := bTo ((f14.1.2.1.1 285 64 kF_265_285_64)) (f14.1.2.2 285 64 _ _ kW_285_64)
  try simp only [e10, e4, e11] at g4
  try simp only [e10, e4, e11]
  have k0 := g4.1
  have y0 := g4.2.1
  have y1 := g4.2.2.1
  have y2 := g4.2.2.2.1
  have y3 := g4.2.2.2.2
  have p0 := g3.1
  have p1 := g3.2
  clear g3
  clear g4
  clear f17 f19 f22 f25 f28 f30 f33 f36 f39 f41 f44 f47 e4 e10 e11
  subst e0
  subst e2
  subst e3
  subst e5
  subst e6
  subst e7
  try (have c := y2.2.2 (n0).toNat (by omega); have t4 := SO4 p1 (by omega) c.1)
  first
  | (have ix0 : n20 = n1 - (hV H0 330 (hV H1 343 (n0).toNat).toNat) := Eq.trans f48 (w32_id (by omega) (by omega)); subst ix0; clear f48)
  | (unfold w32 at f48; have ix0 : n20 = n1 - (hV H0 330 (hV H1 343 (n0).toNat).toNat) := (by omega); subst ix0)
  | skip
  first
  | (have ix1 : n21 = n0 + -1 := Eq.trans f49 (w32_iv (Iad (Iat f1 f0) (IC (-1))) (by decide)); subst ix1; clear f49)
  | (have ix1 : n21 = n0 + -1 := Eq.trans f49 (w32_id (by omega) (by omega)); subst ix1; clear f49)
  | (unfold w32 at f49; have ix1 : n21 = n0 + -1 := (by omega); subst ix1)
  | skip
  try unfold w32 at f48
  try unfold w32 at f49

  refine ⟨?_, fun q hq => ?_⟩
  · exact ⟨by omega, by omega, by omega, y2, LNp_step p1 (by omega) (by omega) y2 (by omega) (by omega) y3 (by omega) (by omega) (by omega)⟩
  · have g6 := Option.some.inj hq
    subst g6
    omega
theorem c_265_75_8 {q0 : Nat} : vOkm T0 (eP e_265 L_265 A_265 mu_265 (some q0)) 2 ([(10, [21, 7], [], -1), (2, [20, 6, 19], [], 0), (22, [19, 16, 18], [1], 0), (90, [19], [], -2147483648), (91, [19], [], 2147483647), (22, [18, 17, 7], [1], 0), (90, [18], [], 0), (91, [18], [], 19), (20, [17, 2], [1], 81), (0, [17], [], 343), (20, [16, 2], [1], 68), (0, [16], [], 330), (44, [6, 15], [], 0), (22, [15, 12, 14], [1], 0), (90, [15], [], -2147483648), (91, [15], [], 2147483647), (22, [14, 13, 7], [1], 0), (90, [14], [], 0), (91, [14], [], 19), (20, [13, 2], [1], 81), (0, [13], [], 343), (20, [12, 2], [1], 68), (0, [12], [], 330), (43, [11, 6], [], 0), (22, [11, 8, 10], [1], 0), (90, [11], [], -2147483648), (91, [11], [], 2147483647), (22, [10, 9, 7], [1], 0), (90, [10], [], 0), (91, [10], [], 19), (20, [9, 2], [1], 81), (0, [9], [], 343), (20, [8, 2], [1], 69), (0, [8], [], 331), (33, [7], [], 0), (5000, [0, 1, 2, 3, 4, 5, 6, 7], [0, 1], 75), (0, [0], [], 285), (90, [1], [], 0), (91, [1], [], 19), (0, [2], [], 285), (90, [3], [], 0), (91, [3], [], 19), (90, [4], [], 0), (91, [4], [], 19), (90, [5], [], 0), (91, [5], [], 19), (90, [6], [], 0), (91, [6], [], 240), (90, [7], [], -1), (91, [7], [], 19)], (4000, [2, 3, 4, 5, 20, 21], [1], 75)) := vOk_inI fun ρ η f0 f1 f2 f3 f4 f5 f6 f7 f8 f9 f10 f11 f12 f13 f14 f15 f16 f17 f18 f19 f20 f21 f22 f23 f24 f25 f26 f27 f28 f29 f30 f31 f32 f33 f34 f35 f36 f37 f38 f39 f40 f41 f42 f43 f44 f45 f46 f47 f48 f49 => q_265_24 (q0 := q0) (n0 := ρ 7) (n1 := ρ 6) (n2 := ρ 5) (n3 := ρ 4) (n4 := ρ 3) (n5 := ρ 2) (n6 := ρ 1) (n7 := ρ 0) (n8 := ρ 8) (n9 := ρ 9) (n10 := ρ 10) (n11 := ρ 11) (n12 := ρ 12) (n13 := ρ 13) (n14 := ρ 14) (n15 := ρ 15) (n16 := ρ 16) (n17 := ρ 17) (n18 := ρ 18) (n19 := ρ 19) (n20 := ρ 20) (n21 := ρ 21) (H0 := η 0) (H1 := η 1) f49 f48 f47 f46 f45 f44 f43 f42 f41 f40 f39 f38 f37 f36 f35 f34 f33 f32 f31 f30 f29 f28 f27 f26 f25 f24 f23 f22 f21 f20 f19 f18 f17 f16 f15 f14 f13 f12 f11 f10 f9 f8 f7 f6 f5 f4 f3 f2 f1 f0
theorem q_265_25 {q0 : Nat} {n0 n1 n2 n3 n4 n5 n6 n7 n8 n9 n10 n11 n12 n13 n14 n15 n16 n17 n18 n19 n20 : Int} {H0 H1 : gH} (f0 : n0 ≤ 19) (f1 : (-1) ≤ n0) (f2 : n1 ≤ 240) (f3 : 0 ≤ n1) (f4 : n2 ≤ 19) (f5 : 0 ≤ n2) (f6 : n3 ≤ 19) (f7 : 0 ≤ n3) (f8 : n4 ≤ 19) (f9 : 0 ≤ n4) (f10 : n5 = 285) (f11 : n6 ≤ 19) (f12 : 0 ≤ n6) (f13 : n7 = 285) (f14 : (hLe T0 H0 H1 ∧ hFr s_265.2.2.2.2 H0 H1 ∧ hWt T0 H1) ∧ (Ab_265_75 n7 n6 n5 n4 n3 n2 n1 n0 H0 H1 ∧ preb_265 n7 n6 H0) ∧ some q0 = some (mub_265_75 n7 n6 n5 n4 n3 n2 n1 n0 H0 H1)) (f15 : 0 ≤ n0) (f16 : n8 = 331) (f17 : n8 = hV H1 (n5).toNat 69) (f18 : n9 = 343) (f19 : n9 = hV H1 (n5).toNat 81) (f20 : n10 ≤ 19) (f21 : 0 ≤ n10) (f22 : n10 = hV H1 (n9).toNat (n0).toNat) (f23 : n11 ≤ 2147483647) (f24 : (-2147483648) ≤ n11) (f25 : n11 = hV H1 (n8).toNat (n10).toNat) (f26 : n11 < n1) (f27 : n12 = 331) (f28 : n12 = hV H1 (n5).toNat 69) (f29 : n13 = 343) (f30 : n13 = hV H1 (n5).toNat 81) (f31 : n14 ≤ 19) (f32 : 0 ≤ n14) (f33 : n14 = hV H1 (n13).toNat (n0).toNat) (f34 : n15 ≤ 2147483647) (f35 : (-2147483648) ≤ n15) (f36 : n15 = hV H1 (n12).toNat (n14).toNat) (f37 : n16 = 330) (f38 : n16 = hV H1 (n5).toNat 68) (f39 : n17 = 343) (f40 : n17 = hV H1 (n5).toNat 81) (f41 : n18 ≤ 19) (f42 : 0 ≤ n18) (f43 : n18 = hV H1 (n17).toNat (n0).toNat) (f44 : n19 ≤ 2147483647) (f45 : (-2147483648) ≤ n19) (f46 : n19 = hV H1 (n16).toNat (n18).toNat) (f47 : n15 ≤ n19) (f48 : n20 = w32 (n0 + (-1))) : (-1) ≤ n20 := by
  have g4 := f14.2.1.1
  unfold Ab_265_75 at g4
  have g3 := f14.2.1.2
  unfold preb_265 at g3
  have e0 : n10 = hV H1 343 (n0).toNat := (by rw [f18] at f22; exact f22 : n10 = hV H1 343 (n0).toNat)
  have e2 : n11 = hV H0 331 (n10).toNat := (by rw [f16] at f25; exact f25 : n11 = hV H1 331 (n10).toNat).trans ((congrFun (fRow f14.1.2.1 331 kR_265_331) _))
  have e3 : n14 = hV H1 343 (n0).toNat := (by rw [f29] at f33; exact f33 : n14 = hV H1 343 (n0).toNat)
  have e4 : n15 = hV H0 331 (n14).toNat := (by rw [f27] at f36; exact f36 : n15 = hV H1 331 (n14).toNat).trans ((congrFun (fRow f14.1.2.1 331 kR_265_331) _))
  have e5 : n18 = hV H1 343 (n0).toNat := (by rw [f39] at f43; exact f43 : n18 = hV H1 343 (n0).toNat)
  have e6 : hV H1 330 = hV H0 330 := fRow f14.1.2.1 330 kR_265_330
  have e7 : n19 = hV H0 330 (n18).toNat := (by rw [f37] at f46; exact f46 : n19 = hV H1 330 (n18).toNat).trans ((congrFun e6 _))
  have e10 : hV H1 328 = hV H0 328 := fRow f14.1.2.1 328 kR_265_328
  have e11 : hV H1 332 = hV H0 332 := fRow f14.1.2.1 332 kR_265_332
  have e12 : (0 : Int) ≤ hV H0 285 64 ∧ hV H0 285 64 ≤ 20 := bTo ((f14.1.2.1.1 285 64 kF_265_285_64)) (f14.1.2.2 285 64 _ _ kW_285_64)
  try simp only [e10, e6, e11] at g4
  have k0 := g4.1
  have y0 := g4.2.1
  have y1 := g4.2.2.1
  have y2 := g4.2.2.2.1
  have y3 := g4.2.2.2.2
  have p0 := g3.1
  have p1 := g3.2
  clear g3
  clear g4
  clear f17 f19 f22 f25 f28 f30 f33 f36 f38 f40 f43 f46 e6 e10 e11
  subst e0
  subst e2
  subst e3
  subst e4
  subst e5
  subst e7
  try (have c := y2.2.2 (n0).toNat (by omega); have t4 := SO4 p1 (by omega) c.1)
  first
  | (have ix0 : n20 = n0 + -1 := Eq.trans f48 (w32_iv (Iad (Iat f1 f0) (IC (-1))) (by decide)); subst ix0; clear f48)
  | (have ix0 : n20 = n0 + -1 := Eq.trans f48 (w32_id (by omega) (by omega)); subst ix0; clear f48)
  | (unfold w32 at f48; have ix0 : n20 = n0 + -1 := (by omega); subst ix0)
  | skip
  try unfold w32 at f48
  omega
theorem c_265_75_9 {q0 : Nat} : vOkm T0 (eP e_265 L_265 A_265 mu_265 (some q0)) 2 ([(10, [21, 7], [], -1), (45, [15, 19], [], 0), (22, [19, 16, 18], [1], 0), (90, [19], [], -2147483648), (91, [19], [], 2147483647), (22, [18, 17, 7], [1], 0), (90, [18], [], 0), (91, [18], [], 19), (20, [17, 2], [1], 81), (0, [17], [], 343), (20, [16, 2], [1], 68), (0, [16], [], 330), (22, [15, 12, 14], [1], 0), (90, [15], [], -2147483648), (91, [15], [], 2147483647), (22, [14, 13, 7], [1], 0), (90, [14], [], 0), (91, [14], [], 19), (20, [13, 2], [1], 81), (0, [13], [], 343), (20, [12, 2], [1], 69), (0, [12], [], 331), (42, [11, 6], [], 0), (22, [11, 8, 10], [1], 0), (90, [11], [], -2147483648), (91, [11], [], 2147483647), (22, [10, 9, 7], [1], 0), (90, [10], [], 0), (91, [10], [], 19), (20, [9, 2], [1], 81), (0, [9], [], 343), (20, [8, 2], [1], 69), (0, [8], [], 331), (33, [7], [], 0), (5000, [0, 1, 2, 3, 4, 5, 6, 7], [0, 1], 75), (0, [0], [], 285), (90, [1], [], 0), (91, [1], [], 19), (0, [2], [], 285), (90, [3], [], 0), (91, [3], [], 19), (90, [4], [], 0), (91, [4], [], 19), (90, [5], [], 0), (91, [5], [], 19), (90, [6], [], 0), (91, [6], [], 240), (90, [7], [], -1), (91, [7], [], 19)], (90, [21], [], -1)) := vOk_inI fun ρ η f0 f1 f2 f3 f4 f5 f6 f7 f8 f9 f10 f11 f12 f13 f14 f15 f16 f17 f18 f19 f20 f21 f22 f23 f24 f25 f26 f27 f28 f29 f30 f31 f32 f33 f34 f35 f36 f37 f38 f39 f40 f41 f42 f43 f44 f45 f46 f47 f48 => q_265_25 (q0 := q0) (n0 := ρ 7) (n1 := ρ 6) (n2 := ρ 5) (n3 := ρ 4) (n4 := ρ 3) (n5 := ρ 2) (n6 := ρ 1) (n7 := ρ 0) (n8 := ρ 8) (n9 := ρ 9) (n10 := ρ 10) (n11 := ρ 11) (n12 := ρ 12) (n13 := ρ 13) (n14 := ρ 14) (n15 := ρ 15) (n16 := ρ 16) (n17 := ρ 17) (n18 := ρ 18) (n19 := ρ 19) (n20 := ρ 21) (H0 := η 0) (H1 := η 1) f48 f47 f46 f45 f44 f43 f42 f41 f40 f39 f38 f37 f36 f35 f34 f33 f32 f31 f30 f29 f28 f27 f26 f25 f24 f23 f22 f21 f20 f19 f18 f17 f16 f15 f14 f13 f12 f11 f10 f9 f8 f7 f6 f5 f4 f3 f2 f1 f0
theorem q_265_26 {q0 : Nat} {n0 n1 n2 n3 n4 n5 n6 n7 n8 n9 n10 n11 n12 n13 n14 n15 n16 n17 n18 n19 n20 : Int} {H0 H1 : gH} (f0 : n0 ≤ 19) (f1 : (-1) ≤ n0) (f2 : n1 ≤ 240) (f3 : 0 ≤ n1) (f4 : n2 ≤ 19) (f5 : 0 ≤ n2) (f6 : n3 ≤ 19) (f7 : 0 ≤ n3) (f8 : n4 ≤ 19) (f9 : 0 ≤ n4) (f10 : n5 = 285) (f11 : n6 ≤ 19) (f12 : 0 ≤ n6) (f13 : n7 = 285) (f14 : (hLe T0 H0 H1 ∧ hFr s_265.2.2.2.2 H0 H1 ∧ hWt T0 H1) ∧ (Ab_265_75 n7 n6 n5 n4 n3 n2 n1 n0 H0 H1 ∧ preb_265 n7 n6 H0) ∧ some q0 = some (mub_265_75 n7 n6 n5 n4 n3 n2 n1 n0 H0 H1)) (f15 : 0 ≤ n0) (f16 : n8 = 331) (f17 : n8 = hV H1 (n5).toNat 69) (f18 : n9 = 343) (f19 : n9 = hV H1 (n5).toNat 81) (f20 : n10 ≤ 19) (f21 : 0 ≤ n10) (f22 : n10 = hV H1 (n9).toNat (n0).toNat) (f23 : n11 ≤ 2147483647) (f24 : (-2147483648) ≤ n11) (f25 : n11 = hV H1 (n8).toNat (n10).toNat) (f26 : n11 < n1) (f27 : n12 = 331) (f28 : n12 = hV H1 (n5).toNat 69) (f29 : n13 = 343) (f30 : n13 = hV H1 (n5).toNat 81) (f31 : n14 ≤ 19) (f32 : 0 ≤ n14) (f33 : n14 = hV H1 (n13).toNat (n0).toNat) (f34 : n15 ≤ 2147483647) (f35 : (-2147483648) ≤ n15) (f36 : n15 = hV H1 (n12).toNat (n14).toNat) (f37 : n16 = 330) (f38 : n16 = hV H1 (n5).toNat 68) (f39 : n17 = 343) (f40 : n17 = hV H1 (n5).toNat 81) (f41 : n18 ≤ 19) (f42 : 0 ≤ n18) (f43 : n18 = hV H1 (n17).toNat (n0).toNat) (f44 : n19 ≤ 2147483647) (f45 : (-2147483648) ≤ n19) (f46 : n19 = hV H1 (n16).toNat (n18).toNat) (f47 : n15 ≤ n19) (f48 : n20 = w32 (n0 + (-1))) : n20 ≤ 19 := by
  have g4 := f14.2.1.1
  unfold Ab_265_75 at g4
  have g3 := f14.2.1.2
  unfold preb_265 at g3
  have e0 : n10 = hV H1 343 (n0).toNat := (by rw [f18] at f22; exact f22 : n10 = hV H1 343 (n0).toNat)
  have e2 : n11 = hV H0 331 (n10).toNat := (by rw [f16] at f25; exact f25 : n11 = hV H1 331 (n10).toNat).trans ((congrFun (fRow f14.1.2.1 331 kR_265_331) _))
  have e3 : n14 = hV H1 343 (n0).toNat := (by rw [f29] at f33; exact f33 : n14 = hV H1 343 (n0).toNat)
  have e4 : n15 = hV H0 331 (n14).toNat := (by rw [f27] at f36; exact f36 : n15 = hV H1 331 (n14).toNat).trans ((congrFun (fRow f14.1.2.1 331 kR_265_331) _))
  have e5 : n18 = hV H1 343 (n0).toNat := (by rw [f39] at f43; exact f43 : n18 = hV H1 343 (n0).toNat)
  have e6 : hV H1 330 = hV H0 330 := fRow f14.1.2.1 330 kR_265_330
  have e7 : n19 = hV H0 330 (n18).toNat := (by rw [f37] at f46; exact f46 : n19 = hV H1 330 (n18).toNat).trans ((congrFun e6 _))
  have e10 : hV H1 328 = hV H0 328 := fRow f14.1.2.1 328 kR_265_328
  have e11 : hV H1 332 = hV H0 332 := fRow f14.1.2.1 332 kR_265_332
  have e12 : (0 : Int) ≤ hV H0 285 64 ∧ hV H0 285 64 ≤ 20 := bTo ((f14.1.2.1.1 285 64 kF_265_285_64)) (f14.1.2.2 285 64 _ _ kW_285_64)
  try simp only [e10, e6, e11] at g4
  have k0 := g4.1
  have y0 := g4.2.1
  have y1 := g4.2.2.1
  have y2 := g4.2.2.2.1
  have y3 := g4.2.2.2.2
  have p0 := g3.1
  have p1 := g3.2
  clear g3
  clear g4
  clear f17 f19 f22 f25 f28 f30 f33 f36 f38 f40 f43 f46 e6 e10 e11
  subst e0
  subst e2
  subst e3
  subst e4
  subst e5
  subst e7
  try (have c := y2.2.2 (n0).toNat (by omega); have t4 := SO4 p1 (by omega) c.1)
  first
  | (have ix0 : n20 = n0 + -1 := Eq.trans f48 (w32_iv (Iad (Iat f1 f0) (IC (-1))) (by decide)); subst ix0; clear f48)
  | (have ix0 : n20 = n0 + -1 := Eq.trans f48 (w32_id (by omega) (by omega)); subst ix0; clear f48)
  | (unfold w32 at f48; have ix0 : n20 = n0 + -1 := (by omega); subst ix0)
  | skip
  try unfold w32 at f48
  omega
theorem c_265_75_10 {q0 : Nat} : vOkm T0 (eP e_265 L_265 A_265 mu_265 (some q0)) 2 ([(10, [21, 7], [], -1), (45, [15, 19], [], 0), (22, [19, 16, 18], [1], 0), (90, [19], [], -2147483648), (91, [19], [], 2147483647), (22, [18, 17, 7], [1], 0), (90, [18], [], 0), (91, [18], [], 19), (20, [17, 2], [1], 81), (0, [17], [], 343), (20, [16, 2], [1], 68), (0, [16], [], 330), (22, [15, 12, 14], [1], 0), (90, [15], [], -2147483648), (91, [15], [], 2147483647), (22, [14, 13, 7], [1], 0), (90, [14], [], 0), (91, [14], [], 19), (20, [13, 2], [1], 81), (0, [13], [], 343), (20, [12, 2], [1], 69), (0, [12], [], 331), (42, [11, 6], [], 0), (22, [11, 8, 10], [1], 0), (90, [11], [], -2147483648), (91, [11], [], 2147483647), (22, [10, 9, 7], [1], 0), (90, [10], [], 0), (91, [10], [], 19), (20, [9, 2], [1], 81), (0, [9], [], 343), (20, [8, 2], [1], 69), (0, [8], [], 331), (33, [7], [], 0), (5000, [0, 1, 2, 3, 4, 5, 6, 7], [0, 1], 75), (0, [0], [], 285), (90, [1], [], 0), (91, [1], [], 19), (0, [2], [], 285), (90, [3], [], 0), (91, [3], [], 19), (90, [4], [], 0), (91, [4], [], 19), (90, [5], [], 0), (91, [5], [], 19), (90, [6], [], 0), (91, [6], [], 240), (90, [7], [], -1), (91, [7], [], 19)], (91, [21], [], 19)) := vOk_inI fun ρ η f0 f1 f2 f3 f4 f5 f6 f7 f8 f9 f10 f11 f12 f13 f14 f15 f16 f17 f18 f19 f20 f21 f22 f23 f24 f25 f26 f27 f28 f29 f30 f31 f32 f33 f34 f35 f36 f37 f38 f39 f40 f41 f42 f43 f44 f45 f46 f47 f48 => q_265_26 (q0 := q0) (n0 := ρ 7) (n1 := ρ 6) (n2 := ρ 5) (n3 := ρ 4) (n4 := ρ 3) (n5 := ρ 2) (n6 := ρ 1) (n7 := ρ 0) (n8 := ρ 8) (n9 := ρ 9) (n10 := ρ 10) (n11 := ρ 11) (n12 := ρ 12) (n13 := ρ 13) (n14 := ρ 14) (n15 := ρ 15) (n16 := ρ 16) (n17 := ρ 17) (n18 := ρ 18) (n19 := ρ 19) (n20 := ρ 21) (H0 := η 0) (H1 := η 1) f48 f47 f46 f45 f44 f43 f42 f41 f40 f39 f38 f37 f36 f35 f34 f33 f32 f31 f30 f29 f28 f27 f26 f25 f24 f23 f22 f21 f20 f19 f18 f17 f16 f15 f14 f13 f12 f11 f10 f9 f8 f7 f6 f5 f4 f3 f2 f1 f0
theorem q_265_27 {q0 : Nat} {n0 n1 n2 n3 n4 n5 n6 n7 n8 n9 n10 n11 n12 n13 n14 n15 n16 n17 n18 n19 n20 n21 : Int} {H0 H1 : gH} (f0 : n0 ≤ 19) (f1 : (-1) ≤ n0) (f2 : n1 ≤ 240) (f3 : 0 ≤ n1) (f4 : n2 ≤ 19) (f5 : 0 ≤ n2) (f6 : n3 ≤ 19) (f7 : 0 ≤ n3) (f8 : n4 ≤ 19) (f9 : 0 ≤ n4) (f10 : n5 = 285) (f11 : n6 ≤ 19) (f12 : 0 ≤ n6) (f13 : n7 = 285) (f14 : (hLe T0 H0 H1 ∧ hFr s_265.2.2.2.2 H0 H1 ∧ hWt T0 H1) ∧ (Ab_265_75 n7 n6 n5 n4 n3 n2 n1 n0 H0 H1 ∧ preb_265 n7 n6 H0) ∧ some q0 = some (mub_265_75 n7 n6 n5 n4 n3 n2 n1 n0 H0 H1)) (f15 : 0 ≤ n0) (f16 : n8 = 331) (f17 : n8 = hV H1 (n5).toNat 69) (f18 : n9 = 343) (f19 : n9 = hV H1 (n5).toNat 81) (f20 : n10 ≤ 19) (f21 : 0 ≤ n10) (f22 : n10 = hV H1 (n9).toNat (n0).toNat) (f23 : n11 ≤ 2147483647) (f24 : (-2147483648) ≤ n11) (f25 : n11 = hV H1 (n8).toNat (n10).toNat) (f26 : n11 < n1) (f27 : n12 = 331) (f28 : n12 = hV H1 (n5).toNat 69) (f29 : n13 = 343) (f30 : n13 = hV H1 (n5).toNat 81) (f31 : n14 ≤ 19) (f32 : 0 ≤ n14) (f33 : n14 = hV H1 (n13).toNat (n0).toNat) (f34 : n15 ≤ 2147483647) (f35 : (-2147483648) ≤ n15) (f36 : n15 = hV H1 (n12).toNat (n14).toNat) (f37 : n16 = 330) (f38 : n16 = hV H1 (n5).toNat 68) (f39 : n17 = 343) (f40 : n17 = hV H1 (n5).toNat 81) (f41 : n18 ≤ 19) (f42 : 0 ≤ n18) (f43 : n18 = hV H1 (n17).toNat (n0).toNat) (f44 : n19 ≤ 2147483647) (f45 : (-2147483648) ≤ n19) (f46 : n19 = hV H1 (n16).toNat (n18).toNat) (f47 : n15 ≤ n19) (f48 : n20 = 0) (f49 : n21 = w32 (n0 + (-1))) : Ab_265_75 n7 n6 n5 n4 n3 n2 n20 n21 H0 H1 ∧ ∀ q, some q0 = some q → mub_265_75 n7 n6 n5 n4 n3 n2 n20 n21 H0 H1 < q := by
  have g4 := f14.2.1.1
  unfold Ab_265_75 at g4
  have g3 := f14.2.1.2
  unfold preb_265 at g3
  have g5 := Option.some.inj f14.2.2
  unfold mub_265_75 at g5
  unfold Ab_265_75
  unfold mub_265_75
  have e0 : n10 = hV H1 343 (n0).toNat := (by rw [f18] at f22; exact f22 : n10 = hV H1 343 (n0).toNat)
  have e2 : n11 = hV H0 331 (n10).toNat := (by rw [f16] at f25; exact f25 : n11 = hV H1 331 (n10).toNat).trans ((congrFun (fRow f14.1.2.1 331 kR_265_331) _))
  have e3 : n14 = hV H1 343 (n0).toNat := (by rw [f29] at f33; exact f33 : n14 = hV H1 343 (n0).toNat)
  have e4 : n15 = hV H0 331 (n14).toNat := (by rw [f27] at f36; exact f36 : n15 = hV H1 331 (n14).toNat).trans ((congrFun (fRow f14.1.2.1 331 kR_265_331) _))
  have e5 : n18 = hV H1 343 (n0).toNat := (by rw [f39] at f43; exact f43 : n18 = hV H1 343 (n0).toNat)
  have e6 : hV H1 330 = hV H0 330 := fRow f14.1.2.1 330 kR_265_330
  have e7 : n19 = hV H0 330 (n18).toNat := (by rw [f37] at f46; exact f46 : n19 = hV H1 330 (n18).toNat).trans ((congrFun e6 _))
  have e10 : hV H1 328 = hV H0 328 := fRow f14.1.2.1 328 kR_265_328
  have e11 : hV H1 332 = hV H0 332 := fRow f14.1.2.1 332 kR_265_332
  have e12 : (0 : Int) ≤ hV H0 285 64 ∧ hV H0 285 64 ≤ 20 := bTo ((f14.1.2.1.1 285 64 kF_265_285_64)) (f14.1.2.2 285 64 _ _ kW_285_64)
  try simp only [e10, e6, e11] at g4
  try simp only [e10, e6, e11]
  have k0 := g4.1
  have y0 := g4.2.1
  have y1 := g4.2.2.1
  have y2 := g4.2.2.2.1
  have y3 := g4.2.2.2.2
  have p0 := g3.1
  have p1 := g3.2
  clear g3
  clear g4
  clear f17 f19 f22 f25 f28 f30 f33 f36 f38 f40 f43 f46 e6 e10 e11
  subst e0
  subst e2
  subst e3
  subst e4
  subst e5
  subst e7
  try (have c := y2.2.2 (n0).toNat (by omega); have t4 := SO4 p1 (by omega) c.1)
  first
  | (have ix0 : n21 = n0 + -1 := Eq.trans f49 (w32_iv (Iad (Iat f1 f0) (IC (-1))) (by decide)); subst ix0; clear f49)
  | (have ix0 : n21 = n0 + -1 := Eq.trans f49 (w32_id (by omega) (by omega)); subst ix0; clear f49)
  | (unfold w32 at f49; have ix0 : n21 = n0 + -1 := (by omega); subst ix0)
  | skip
  try unfold w32 at f49

  refine ⟨?_, fun q hq => ?_⟩
  · exact ⟨by omega, by omega, by omega, y2, LNp_step p1 (by omega) (by omega) y2 (by omega) (by omega) y3 (by omega) (by omega) (by omega)⟩
  · have g6 := Option.some.inj hq
    subst g6
    omega
theorem c_265_75_11 {q0 : Nat} : vOkm T0 (eP e_265 L_265 A_265 mu_265 (some q0)) 2 ([(10, [21, 7], [], -1), (0, [20], [], 0), (45, [15, 19], [], 0), (22, [19, 16, 18], [1], 0), (90, [19], [], -2147483648), (91, [19], [], 2147483647), (22, [18, 17, 7], [1], 0), (90, [18], [], 0), (91, [18], [], 19), (20, [17, 2], [1], 81), (0, [17], [], 343), (20, [16, 2], [1], 68), (0, [16], [], 330), (22, [15, 12, 14], [1], 0), (90, [15], [], -2147483648), (91, [15], [], 2147483647), (22, [14, 13, 7], [1], 0), (90, [14], [], 0), (91, [14], [], 19), (20, [13, 2], [1], 81), (0, [13], [], 343), (20, [12, 2], [1], 69), (0, [12], [], 331), (42, [11, 6], [], 0), (22, [11, 8, 10], [1], 0), (90, [11], [], -2147483648), (91, [11], [], 2147483647), (22, [10, 9, 7], [1], 0), (90, [10], [], 0), (91, [10], [], 19), (20, [9, 2], [1], 81), (0, [9], [], 343), (20, [8, 2], [1], 69), (0, [8], [], 331), (33, [7], [], 0), (5000, [0, 1, 2, 3, 4, 5, 6, 7], [0, 1], 75), (0, [0], [], 285), (90, [1], [], 0), (91, [1], [], 19), (0, [2], [], 285), (90, [3], [], 0), (91, [3], [], 19), (90, [4], [], 0), (91, [4], [], 19), (90, [5], [], 0), (91, [5], [], 19), (90, [6], [], 0), (91, [6], [], 240), (90, [7], [], -1), (91, [7], [], 19)], (4000, [2, 3, 4, 5, 20, 21], [1], 75)) := vOk_inI fun ρ η f0 f1 f2 f3 f4 f5 f6 f7 f8 f9 f10 f11 f12 f13 f14 f15 f16 f17 f18 f19 f20 f21 f22 f23 f24 f25 f26 f27 f28 f29 f30 f31 f32 f33 f34 f35 f36 f37 f38 f39 f40 f41 f42 f43 f44 f45 f46 f47 f48 f49 => q_265_27 (q0 := q0) (n0 := ρ 7) (n1 := ρ 6) (n2 := ρ 5) (n3 := ρ 4) (n4 := ρ 3) (n5 := ρ 2) (n6 := ρ 1) (n7 := ρ 0) (n8 := ρ 8) (n9 := ρ 9) (n10 := ρ 10) (n11 := ρ 11) (n12 := ρ 12) (n13 := ρ 13) (n14 := ρ 14) (n15 := ρ 15) (n16 := ρ 16) (n17 := ρ 17) (n18 := ρ 18) (n19 := ρ 19) (n20 := ρ 20) (n21 := ρ 21) (H0 := η 0) (H1 := η 1) f49 f48 f47 f46 f45 f44 f43 f42 f41 f40 f39 f38 f37 f36 f35 f34 f33 f32 f31 f30 f29 f28 f27 f26 f25 f24 f23 f22 f21 f20 f19 f18 f17 f16 f15 f14 f13 f12 f11 f10 f9 f8 f7 f6 f5 f4 f3 f2 f1 f0
theorem q_265_28 {q0 : Nat} {n0 n1 n2 n3 n4 n5 n6 n7 n8 n9 n10 n11 n12 n13 n14 n15 n16 n17 n18 n19 n20 n21 n22 n23 n24 n25 : Int} {H0 H1 : gH} (f0 : n0 ≤ 19) (f1 : (-1) ≤ n0) (f2 : n1 ≤ 240) (f3 : 0 ≤ n1) (f4 : n2 ≤ 19) (f5 : 0 ≤ n2) (f6 : n3 ≤ 19) (f7 : 0 ≤ n3) (f8 : n4 ≤ 19) (f9 : 0 ≤ n4) (f10 : n5 = 285) (f11 : n6 ≤ 19) (f12 : 0 ≤ n6) (f13 : n7 = 285) (f14 : (hLe T0 H0 H1 ∧ hFr s_265.2.2.2.2 H0 H1 ∧ hWt T0 H1) ∧ (Ab_265_75 n7 n6 n5 n4 n3 n2 n1 n0 H0 H1 ∧ preb_265 n7 n6 H0) ∧ some q0 = some (mub_265_75 n7 n6 n5 n4 n3 n2 n1 n0 H0 H1)) (f15 : 0 ≤ n0) (f16 : n8 = 331) (f17 : n8 = hV H1 (n5).toNat 69) (f18 : n9 = 343) (f19 : n9 = hV H1 (n5).toNat 81) (f20 : n10 ≤ 19) (f21 : 0 ≤ n10) (f22 : n10 = hV H1 (n9).toNat (n0).toNat) (f23 : n11 ≤ 2147483647) (f24 : (-2147483648) ≤ n11) (f25 : n11 = hV H1 (n8).toNat (n10).toNat) (f26 : n11 < n1) (f27 : n12 = 331) (f28 : n12 = hV H1 (n5).toNat 69) (f29 : n13 = 343) (f30 : n13 = hV H1 (n5).toNat 81) (f31 : n14 ≤ 19) (f32 : 0 ≤ n14) (f33 : n14 = hV H1 (n13).toNat (n0).toNat) (f34 : n15 ≤ 2147483647) (f35 : (-2147483648) ≤ n15) (f36 : n15 = hV H1 (n12).toNat (n14).toNat) (f37 : n16 = 330) (f38 : n16 = hV H1 (n5).toNat 68) (f39 : n17 = 343) (f40 : n17 = hV H1 (n5).toNat 81) (f41 : n18 ≤ 19) (f42 : 0 ≤ n18) (f43 : n18 = hV H1 (n17).toNat (n0).toNat) (f44 : n19 ≤ 2147483647) (f45 : (-2147483648) ≤ n19) (f46 : n19 = hV H1 (n16).toNat (n18).toNat) (f47 : n19 < n15) (f48 : n20 = 330) (f49 : n20 = hV H1 (n5).toNat 68) (f50 : n21 = 343) (f51 : n21 = hV H1 (n5).toNat 81) (f52 : n22 ≤ 19) (f53 : 0 ≤ n22) (f54 : n22 = hV H1 (n21).toNat (n0).toNat) (f55 : n23 ≤ 2147483647) (f56 : (-2147483648) ≤ n23) (f57 : n23 = hV H1 (n20).toNat (n22).toNat) (f58 : n24 = w32 (n15 - n23)) (f59 : n25 = w32 (n0 + (-1))) : 0 ≤ n24 := by
  have g4 := f14.2.1.1
  unfold Ab_265_75 at g4
  have g3 := f14.2.1.2
  unfold preb_265 at g3
  have e0 : n10 = hV H1 343 (n0).toNat := (by rw [f18] at f22; exact f22 : n10 = hV H1 343 (n0).toNat)
  have e2 : n11 = hV H0 331 (n10).toNat := (by rw [f16] at f25; exact f25 : n11 = hV H1 331 (n10).toNat).trans ((congrFun (fRow f14.1.2.1 331 kR_265_331) _))
  have e3 : n14 = hV H1 343 (n0).toNat := (by rw [f29] at f33; exact f33 : n14 = hV H1 343 (n0).toNat)
  have e4 : n15 = hV H0 331 (n14).toNat := (by rw [f27] at f36; exact f36 : n15 = hV H1 331 (n14).toNat).trans ((congrFun (fRow f14.1.2.1 331 kR_265_331) _))
  have e5 : n18 = hV H1 343 (n0).toNat := (by rw [f39] at f43; exact f43 : n18 = hV H1 343 (n0).toNat)
  have e6 : hV H1 330 = hV H0 330 := fRow f14.1.2.1 330 kR_265_330
  have e7 : n19 = hV H0 330 (n18).toNat := (by rw [f37] at f46; exact f46 : n19 = hV H1 330 (n18).toNat).trans ((congrFun e6 _))
  have e8 : n22 = hV H1 343 (n0).toNat := (by rw [f50] at f54; exact f54 : n22 = hV H1 343 (n0).toNat)
  have e9 : n23 = hV H0 330 (n22).toNat := (by rw [f48] at f57; exact f57 : n23 = hV H1 330 (n22).toNat).trans ((congrFun e6 _))
  have e12 : hV H1 328 = hV H0 328 := fRow f14.1.2.1 328 kR_265_328
  have e13 : hV H1 332 = hV H0 332 := fRow f14.1.2.1 332 kR_265_332
  have e14 : (0 : Int) ≤ hV H0 285 64 ∧ hV H0 285 64 ≤ 20 := bTo ((f14.1.2.1.1 285 64 kF_265_285_64)) (f14.1.2.2 285 64 _ _ kW_285_64)
  try simp only [e12, e6, e13] at g4
  have k0 := g4.1
  have y0 := g4.2.1
  have y1 := g4.2.2.1
  have y2 := g4.2.2.2.1
  have y3 := g4.2.2.2.2
  have p0 := g3.1
  have p1 := g3.2
  clear g3
  clear g4
  clear f17 f19 f22 f25 f28 f30 f33 f36 f38 f40 f43 f46 f49 f51 f54 f57 e6 e12 e13
  subst e0
  subst e2
  subst e3
  subst e4
  subst e5
  subst e7
  subst e8
  subst e9
  try (have c := y2.2.2 (n0).toNat (by omega); have t4 := SO4 p1 (by omega) c.1)
  first
  | (have ix0 : n24 = hV H0 331 (hV H1 343 (n0).toNat).toNat - (hV H0 330 (hV H1 343 (n0).toNat).toNat) := Eq.trans f58 (w32_id (by omega) (by omega)); subst ix0; clear f58)
  | (unfold w32 at f58; have ix0 : n24 = hV H0 331 (hV H1 343 (n0).toNat).toNat - (hV H0 330 (hV H1 343 (n0).toNat).toNat) := (by omega); subst ix0)
  | skip
  try unfold w32 at f58
  try unfold w32 at f59
  omega
theorem c_265_75_12 {q0 : Nat} : vOkm T0 (eP e_265 L_265 A_265 mu_265 (some q0)) 2 ([(10, [25, 7], [], -1), (2, [24, 15, 23], [], 0), (22, [23, 20, 22], [1], 0), (90, [23], [], -2147483648), (91, [23], [], 2147483647), (22, [22, 21, 7], [1], 0), (90, [22], [], 0), (91, [22], [], 19), (20, [21, 2], [1], 81), (0, [21], [], 343), (20, [20, 2], [1], 68), (0, [20], [], 330), (44, [15, 19], [], 0), (22, [19, 16, 18], [1], 0), (90, [19], [], -2147483648), (91, [19], [], 2147483647), (22, [18, 17, 7], [1], 0), (90, [18], [], 0), (91, [18], [], 19), (20, [17, 2], [1], 81), (0, [17], [], 343), (20, [16, 2], [1], 68), (0, [16], [], 330), (22, [15, 12, 14], [1], 0), (90, [15], [], -2147483648), (91, [15], [], 2147483647), (22, [14, 13, 7], [1], 0), (90, [14], [], 0), (91, [14], [], 19), (20, [13, 2], [1], 81), (0, [13], [], 343), (20, [12, 2], [1], 69), (0, [12], [], 331), (42, [11, 6], [], 0), (22, [11, 8, 10], [1], 0), (90, [11], [], -2147483648), (91, [11], [], 2147483647), (22, [10, 9, 7], [1], 0), (90, [10], [], 0), (91, [10], [], 19), (20, [9, 2], [1], 81), (0, [9], [], 343), (20, [8, 2], [1], 69), (0, [8], [], 331), (33, [7], [], 0), (5000, [0, 1, 2, 3, 4, 5, 6, 7], [0, 1], 75), (0, [0], [], 285), (90, [1], [], 0), (91, [1], [], 19), (0, [2], [], 285), (90, [3], [], 0), (91, [3], [], 19), (90, [4], [], 0), (91, [4], [], 19), (90, [5], [], 0), (91, [5], [], 19), (90, [6], [], 0), (91, [6], [], 240), (90, [7], [], -1), (91, [7], [], 19)], (90, [24], [], 0)) := vOk_inI fun ρ η f0 f1 f2 f3 f4 f5 f6 f7 f8 f9 f10 f11 f12 f13 f14 f15 f16 f17 f18 f19 f20 f21 f22 f23 f24 f25 f26 f27 f28 f29 f30 f31 f32 f33 f34 f35 f36 f37 f38 f39 f40 f41 f42 f43 f44 f45 f46 f47 f48 f49 f50 f51 f52 f53 f54 f55 f56 f57 f58 f59 => q_265_28 (q0 := q0) (n0 := ρ 7) (n1 := ρ 6) (n2 := ρ 5) (n3 := ρ 4) (n4 := ρ 3) (n5 := ρ 2) (n6 := ρ 1) (n7 := ρ 0) (n8 := ρ 8) (n9 := ρ 9) (n10 := ρ 10) (n11 := ρ 11) (n12 := ρ 12) (n13 := ρ 13) (n14 := ρ 14) (n15 := ρ 15) (n16 := ρ 16) (n17 := ρ 17) (n18 := ρ 18) (n19 := ρ 19) (n20 := ρ 20) (n21 := ρ 21) (n22 := ρ 22) (n23 := ρ 23) (n24 := ρ 24) (n25 := ρ 25) (H0 := η 0) (H1 := η 1) f59 f58 f57 f56 f55 f54 f53 f52 f51 f50 f49 f48 f47 f46 f45 f44 f43 f42 f41 f40 f39 f38 f37 f36 f35 f34 f33 f32 f31 f30 f29 f28 f27 f26 f25 f24 f23 f22 f21 f20 f19 f18 f17 f16 f15 f14 f13 f12 f11 f10 f9 f8 f7 f6 f5 f4 f3 f2 f1 f0
theorem q_265_29 {q0 : Nat} {n0 n1 n2 n3 n4 n5 n6 n7 n8 n9 n10 n11 n12 n13 n14 n15 n16 n17 n18 n19 n20 n21 n22 n23 n24 n25 : Int} {H0 H1 : gH} (f0 : n0 ≤ 19) (f1 : (-1) ≤ n0) (f2 : n1 ≤ 240) (f3 : 0 ≤ n1) (f4 : n2 ≤ 19) (f5 : 0 ≤ n2) (f6 : n3 ≤ 19) (f7 : 0 ≤ n3) (f8 : n4 ≤ 19) (f9 : 0 ≤ n4) (f10 : n5 = 285) (f11 : n6 ≤ 19) (f12 : 0 ≤ n6) (f13 : n7 = 285) (f14 : (hLe T0 H0 H1 ∧ hFr s_265.2.2.2.2 H0 H1 ∧ hWt T0 H1) ∧ (Ab_265_75 n7 n6 n5 n4 n3 n2 n1 n0 H0 H1 ∧ preb_265 n7 n6 H0) ∧ some q0 = some (mub_265_75 n7 n6 n5 n4 n3 n2 n1 n0 H0 H1)) (f15 : 0 ≤ n0) (f16 : n8 = 331) (f17 : n8 = hV H1 (n5).toNat 69) (f18 : n9 = 343) (f19 : n9 = hV H1 (n5).toNat 81) (f20 : n10 ≤ 19) (f21 : 0 ≤ n10) (f22 : n10 = hV H1 (n9).toNat (n0).toNat) (f23 : n11 ≤ 2147483647) (f24 : (-2147483648) ≤ n11) (f25 : n11 = hV H1 (n8).toNat (n10).toNat) (f26 : n11 < n1) (f27 : n12 = 331) (f28 : n12 = hV H1 (n5).toNat 69) (f29 : n13 = 343) (f30 : n13 = hV H1 (n5).toNat 81) (f31 : n14 ≤ 19) (f32 : 0 ≤ n14) (f33 : n14 = hV H1 (n13).toNat (n0).toNat) (f34 : n15 ≤ 2147483647) (f35 : (-2147483648) ≤ n15) (f36 : n15 = hV H1 (n12).toNat (n14).toNat) (f37 : n16 = 330) (f38 : n16 = hV H1 (n5).toNat 68) (f39 : n17 = 343) (f40 : n17 = hV H1 (n5).toNat 81) (f41 : n18 ≤ 19) (f42 : 0 ≤ n18) (f43 : n18 = hV H1 (n17).toNat (n0).toNat) (f44 : n19 ≤ 2147483647) (f45 : (-2147483648) ≤ n19) (f46 : n19 = hV H1 (n16).toNat (n18).toNat) (f47 : n19 < n15) (f48 : n20 = 330) (f49 : n20 = hV H1 (n5).toNat 68) (f50 : n21 = 343) (f51 : n21 = hV H1 (n5).toNat 81) (f52 : n22 ≤ 19) (f53 : 0 ≤ n22) (f54 : n22 = hV H1 (n21).toNat (n0).toNat) (f55 : n23 ≤ 2147483647) (f56 : (-2147483648) ≤ n23) (f57 : n23 = hV H1 (n20).toNat (n22).toNat) (f58 : n24 = w32 (n15 - n23)) (f59 : n25 = w32 (n0 + (-1))) : n24 ≤ 240 := by
  have g4 := f14.2.1.1
  unfold Ab_265_75 at g4
  have g3 := f14.2.1.2
  unfold preb_265 at g3
  have e0 : n10 = hV H1 343 (n0).toNat := (by rw [f18] at f22; exact f22 : n10 = hV H1 343 (n0).toNat)
  have e2 : n11 = hV H0 331 (n10).toNat := (by rw [f16] at f25; exact f25 : n11 = hV H1 331 (n10).toNat).trans ((congrFun (fRow f14.1.2.1 331 kR_265_331) _))
  have e3 : n14 = hV H1 343 (n0).toNat := (by rw [f29] at f33; exact f33 : n14 = hV H1 343 (n0).toNat)
  have e4 : n15 = hV H0 331 (n14).toNat := (by rw [f27] at f36; exact f36 : n15 = hV H1 331 (n14).toNat).trans ((congrFun (fRow f14.1.2.1 331 kR_265_331) _))
  have e5 : n18 = hV H1 343 (n0).toNat := (by rw [f39] at f43; exact f43 : n18 = hV H1 343 (n0).toNat)
  have e6 : hV H1 330 = hV H0 330 := fRow f14.1.2.1 330 kR_265_330
  have e7 : n19 = hV H0 330 (n18).toNat := (by rw [f37] at f46; exact f46 : n19 = hV H1 330 (n18).toNat).trans ((congrFun e6 _))
  have e8 : n22 = hV H1 343 (n0).toNat := (by rw [f50] at f54; exact f54 : n22 = hV H1 343 (n0).toNat)
  have e9 : n23 = hV H0 330 (n22).toNat := (by rw [f48] at f57; exact f57 : n23 = hV H1 330 (n22).toNat).trans ((congrFun e6 _))
  have e12 : hV H1 328 = hV H0 328 := fRow f14.1.2.1 328 kR_265_328
  have e13 : hV H1 332 = hV H0 332 := fRow f14.1.2.1 332 kR_265_332
  have e14 : (0 : Int) ≤ hV H0 285 64 ∧ hV H0 285 64 ≤ 20 := bTo ((f14.1.2.1.1 285 64 kF_265_285_64)) (f14.1.2.2 285 64 _ _ kW_285_64)
  try simp only [e12, e6, e13] at g4
  have k0 := g4.1
  have y0 := g4.2.1
  have y1 := g4.2.2.1
  have y2 := g4.2.2.2.1
  have y3 := g4.2.2.2.2
  have p0 := g3.1
  have p1 := g3.2
  clear g3
  clear g4
  clear f17 f19 f22 f25 f28 f30 f33 f36 f38 f40 f43 f46 f49 f51 f54 f57 e6 e12 e13
  subst e0
  subst e2
  subst e3
  subst e4
  subst e5
  subst e7
  subst e8
  subst e9
  try (have c := y2.2.2 (n0).toNat (by omega); have t4 := SO4 p1 (by omega) c.1)
  first
  | (have ix0 : n24 = hV H0 331 (hV H1 343 (n0).toNat).toNat - (hV H0 330 (hV H1 343 (n0).toNat).toNat) := Eq.trans f58 (w32_id (by omega) (by omega)); subst ix0; clear f58)
  | (unfold w32 at f58; have ix0 : n24 = hV H0 331 (hV H1 343 (n0).toNat).toNat - (hV H0 330 (hV H1 343 (n0).toNat).toNat) := (by omega); subst ix0)
  | skip
  try unfold w32 at f58
  try unfold w32 at f59
  omega
theorem c_265_75_13 {q0 : Nat} : vOkm T0 (eP e_265 L_265 A_265 mu_265 (some q0)) 2 ([(10, [25, 7], [], -1), (2, [24, 15, 23], [], 0), (22, [23, 20, 22], [1], 0), (90, [23], [], -2147483648), (91, [23], [], 2147483647), (22, [22, 21, 7], [1], 0), (90, [22], [], 0), (91, [22], [], 19), (20, [21, 2], [1], 81), (0, [21], [], 343), (20, [20, 2], [1], 68), (0, [20], [], 330), (44, [15, 19], [], 0), (22, [19, 16, 18], [1], 0), (90, [19], [], -2147483648), (91, [19], [], 2147483647), (22, [18, 17, 7], [1], 0), (90, [18], [], 0), (91, [18], [], 19), (20, [17, 2], [1], 81), (0, [17], [], 343), (20, [16, 2], [1], 68), (0, [16], [], 330), (22, [15, 12, 14], [1], 0), (90, [15], [], -2147483648), (91, [15], [], 2147483647), (22, [14, 13, 7], [1], 0), (90, [14], [], 0), (91, [14], [], 19), (20, [13, 2], [1], 81), (0, [13], [], 343), (20, [12, 2], [1], 69), (0, [12], [], 331), (42, [11, 6], [], 0), (22, [11, 8, 10], [1], 0), (90, [11], [], -2147483648), (91, [11], [], 2147483647), (22, [10, 9, 7], [1], 0), (90, [10], [], 0), (91, [10], [], 19), (20, [9, 2], [1], 81), (0, [9], [], 343), (20, [8, 2], [1], 69), (0, [8], [], 331), (33, [7], [], 0), (5000, [0, 1, 2, 3, 4, 5, 6, 7], [0, 1], 75), (0, [0], [], 285), (90, [1], [], 0), (91, [1], [], 19), (0, [2], [], 285), (90, [3], [], 0), (91, [3], [], 19), (90, [4], [], 0), (91, [4], [], 19), (90, [5], [], 0), (91, [5], [], 19), (90, [6], [], 0), (91, [6], [], 240), (90, [7], [], -1), (91, [7], [], 19)], (91, [24], [], 240)) := vOk_inI fun ρ η f0 f1 f2 f3 f4 f5 f6 f7 f8 f9 f10 f11 f12 f13 f14 f15 f16 f17 f18 f19 f20 f21 f22 f23 f24 f25 f26 f27 f28 f29 f30 f31 f32 f33 f34 f35 f36 f37 f38 f39 f40 f41 f42 f43 f44 f45 f46 f47 f48 f49 f50 f51 f52 f53 f54 f55 f56 f57 f58 f59 => q_265_29 (q0 := q0) (n0 := ρ 7) (n1 := ρ 6) (n2 := ρ 5) (n3 := ρ 4) (n4 := ρ 3) (n5 := ρ 2) (n6 := ρ 1) (n7 := ρ 0) (n8 := ρ 8) (n9 := ρ 9) (n10 := ρ 10) (n11 := ρ 11) (n12 := ρ 12) (n13 := ρ 13) (n14 := ρ 14) (n15 := ρ 15) (n16 := ρ 16) (n17 := ρ 17) (n18 := ρ 18) (n19 := ρ 19) (n20 := ρ 20) (n21 := ρ 21) (n22 := ρ 22) (n23 := ρ 23) (n24 := ρ 24) (n25 := ρ 25) (H0 := η 0) (H1 := η 1) f59 f58 f57 f56 f55 f54 f53 f52 f51 f50 f49 f48 f47 f46 f45 f44 f43 f42 f41 f40 f39 f38 f37 f36 f35 f34 f33 f32 f31 f30 f29 f28 f27 f26 f25 f24 f23 f22 f21 f20 f19 f18 f17 f16 f15 f14 f13 f12 f11 f10 f9 f8 f7 f6 f5 f4 f3 f2 f1 f0
theorem q_265_30 {q0 : Nat} {n0 n1 n2 n3 n4 n5 n6 n7 n8 n9 n10 n11 n12 n13 n14 n15 n16 n17 n18 n19 n20 n21 n22 n23 n24 n25 : Int} {H0 H1 : gH} (f0 : n0 ≤ 19) (f1 : (-1) ≤ n0) (f2 : n1 ≤ 240) (f3 : 0 ≤ n1) (f4 : n2 ≤ 19) (f5 : 0 ≤ n2) (f6 : n3 ≤ 19) (f7 : 0 ≤ n3) (f8 : n4 ≤ 19) (f9 : 0 ≤ n4) (f10 : n5 = 285) (f11 : n6 ≤ 19) (f12 : 0 ≤ n6) (f13 : n7 = 285) (f14 : (hLe T0 H0 H1 ∧ hFr s_265.2.2.2.2 H0 H1 ∧ hWt T0 H1) ∧ (Ab_265_75 n7 n6 n5 n4 n3 n2 n1 n0 H0 H1 ∧ preb_265 n7 n6 H0) ∧ some q0 = some (mub_265_75 n7 n6 n5 n4 n3 n2 n1 n0 H0 H1)) (f15 : 0 ≤ n0) (f16 : n8 = 331) (f17 : n8 = hV H1 (n5).toNat 69) (f18 : n9 = 343) (f19 : n9 = hV H1 (n5).toNat 81) (f20 : n10 ≤ 19) (f21 : 0 ≤ n10) (f22 : n10 = hV H1 (n9).toNat (n0).toNat) (f23 : n11 ≤ 2147483647) (f24 : (-2147483648) ≤ n11) (f25 : n11 = hV H1 (n8).toNat (n10).toNat) (f26 : n11 < n1) (f27 : n12 = 331) (f28 : n12 = hV H1 (n5).toNat 69) (f29 : n13 = 343) (f30 : n13 = hV H1 (n5).toNat 81) (f31 : n14 ≤ 19) (f32 : 0 ≤ n14) (f33 : n14 = hV H1 (n13).toNat (n0).toNat) (f34 : n15 ≤ 2147483647) (f35 : (-2147483648) ≤ n15) (f36 : n15 = hV H1 (n12).toNat (n14).toNat) (f37 : n16 = 330) (f38 : n16 = hV H1 (n5).toNat 68) (f39 : n17 = 343) (f40 : n17 = hV H1 (n5).toNat 81) (f41 : n18 ≤ 19) (f42 : 0 ≤ n18) (f43 : n18 = hV H1 (n17).toNat (n0).toNat) (f44 : n19 ≤ 2147483647) (f45 : (-2147483648) ≤ n19) (f46 : n19 = hV H1 (n16).toNat (n18).toNat) (f47 : n19 < n15) (f48 : n20 = 330) (f49 : n20 = hV H1 (n5).toNat 68) (f50 : n21 = 343) (f51 : n21 = hV H1 (n5).toNat 81) (f52 : n22 ≤ 19) (f53 : 0 ≤ n22) (f54 : n22 = hV H1 (n21).toNat (n0).toNat) (f55 : n23 ≤ 2147483647) (f56 : (-2147483648) ≤ n23) (f57 : n23 = hV H1 (n20).toNat (n22).toNat) (f58 : n24 = w32 (n15 - n23)) (f59 : n25 = w32 (n0 + (-1))) : (-1) ≤ n25 := by
  have g4 := f14.2.1.1
  unfold Ab_265_75 at g4
  have g3 := f14.2.1.2
  unfold preb_265 at g3
  have e0 : n10 = hV H1 343 (n0).toNat := (by rw [f18] at f22; exact f22 : n10 = hV H1 343 (n0).toNat)
  have e2 : n11 = hV H0 331 (n10).toNat := (by rw [f16] at f25; exact f25 : n11 = hV H1 331 (n10).toNat).trans ((congrFun (fRow f14.1.2.1 331 kR_265_331) _))
  have e3 : n14 = hV H1 343 (n0).toNat := (by rw [f29] at f33; exact f33 : n14 = hV H1 343 (n0).toNat)
  have e4 : n15 = hV H0 331 (n14).toNat := (by rw [f27] at f36; exact f36 : n15 = hV H1 331 (n14).toNat).trans ((congrFun (fRow f14.1.2.1 331 kR_265_331) _))
  have e5 : n18 = hV H1 343 (n0).toNat := (by rw [f39] at f43; exact f43 : n18 = hV H1 343 (n0).toNat)
  have e6 : hV H1 330 = hV H0 330 := fRow f14.1.2.1 330 kR_265_330
  have e7 : n19 = hV H0 330 (n18).toNat := (by rw [f37] at f46; exact f46 : n19 = hV H1 330 (n18).toNat).trans ((congrFun e6 _))
  have e8 : n22 = hV H1 343 (n0).toNat := (by rw [f50] at f54; exact f54 : n22 = hV H1 343 (n0).toNat)
  have e9 : n23 = hV H0 330 (n22).toNat := (by rw [f48] at f57; exact f57 : n23 = hV H1 330 (n22).toNat).trans ((congrFun e6 _))
  have e12 : hV H1 328 = hV H0 328 := fRow f14.1.2.1 328 kR_265_328
  have e13 : hV H1 332 = hV H0 332 := fRow f14.1.2.1 332 kR_265_332
  have e14 : (0 : Int) ≤ hV H0 285 64 ∧ hV H0 285 64 ≤ 20 := bTo ((f14.1.2.1.1 285 64 kF_265_285_64)) (f14.1.2.2 285 64 _ _ kW_285_64)
  try simp only [e12, e6, e13] at g4
  have k0 := g4.1
  have y0 := g4.2.1
  have y1 := g4.2.2.1
  have y2 := g4.2.2.2.1
  have y3 := g4.2.2.2.2
  have p0 := g3.1
  have p1 := g3.2
  clear g3
  clear g4
  clear f17 f19 f22 f25 f28 f30 f33 f36 f38 f40 f43 f46 f49 f51 f54 f57 e6 e12 e13
  subst e0
  subst e2
  subst e3
  subst e4
  subst e5
  subst e7
  subst e8
  subst e9
  try (have c := y2.2.2 (n0).toNat (by omega); have t4 := SO4 p1 (by omega) c.1)
  first
  | (have ix0 : n25 = n0 + -1 := Eq.trans f59 (w32_iv (Iad (Iat f1 f0) (IC (-1))) (by decide)); subst ix0; clear f59)
  | (have ix0 : n25 = n0 + -1 := Eq.trans f59 (w32_id (by omega) (by omega)); subst ix0; clear f59)
  | (unfold w32 at f59; have ix0 : n25 = n0 + -1 := (by omega); subst ix0)
  | skip
  try unfold w32 at f58
  try unfold w32 at f59
  omega
theorem c_265_75_14 {q0 : Nat} : vOkm T0 (eP e_265 L_265 A_265 mu_265 (some q0)) 2 ([(10, [25, 7], [], -1), (2, [24, 15, 23], [], 0), (22, [23, 20, 22], [1], 0), (90, [23], [], -2147483648), (91, [23], [], 2147483647), (22, [22, 21, 7], [1], 0), (90, [22], [], 0), (91, [22], [], 19), (20, [21, 2], [1], 81), (0, [21], [], 343), (20, [20, 2], [1], 68), (0, [20], [], 330), (44, [15, 19], [], 0), (22, [19, 16, 18], [1], 0), (90, [19], [], -2147483648), (91, [19], [], 2147483647), (22, [18, 17, 7], [1], 0), (90, [18], [], 0), (91, [18], [], 19), (20, [17, 2], [1], 81), (0, [17], [], 343), (20, [16, 2], [1], 68), (0, [16], [], 330), (22, [15, 12, 14], [1], 0), (90, [15], [], -2147483648), (91, [15], [], 2147483647), (22, [14, 13, 7], [1], 0), (90, [14], [], 0), (91, [14], [], 19), (20, [13, 2], [1], 81), (0, [13], [], 343), (20, [12, 2], [1], 69), (0, [12], [], 331), (42, [11, 6], [], 0), (22, [11, 8, 10], [1], 0), (90, [11], [], -2147483648), (91, [11], [], 2147483647), (22, [10, 9, 7], [1], 0), (90, [10], [], 0), (91, [10], [], 19), (20, [9, 2], [1], 81), (0, [9], [], 343), (20, [8, 2], [1], 69), (0, [8], [], 331), (33, [7], [], 0), (5000, [0, 1, 2, 3, 4, 5, 6, 7], [0, 1], 75), (0, [0], [], 285), (90, [1], [], 0), (91, [1], [], 19), (0, [2], [], 285), (90, [3], [], 0), (91, [3], [], 19), (90, [4], [], 0), (91, [4], [], 19), (90, [5], [], 0), (91, [5], [], 19), (90, [6], [], 0), (91, [6], [], 240), (90, [7], [], -1), (91, [7], [], 19)], (90, [25], [], -1)) := vOk_inI fun ρ η f0 f1 f2 f3 f4 f5 f6 f7 f8 f9 f10 f11 f12 f13 f14 f15 f16 f17 f18 f19 f20 f21 f22 f23 f24 f25 f26 f27 f28 f29 f30 f31 f32 f33 f34 f35 f36 f37 f38 f39 f40 f41 f42 f43 f44 f45 f46 f47 f48 f49 f50 f51 f52 f53 f54 f55 f56 f57 f58 f59 => q_265_30 (q0 := q0) (n0 := ρ 7) (n1 := ρ 6) (n2 := ρ 5) (n3 := ρ 4) (n4 := ρ 3) (n5 := ρ 2) (n6 := ρ 1) (n7 := ρ 0) (n8 := ρ 8) (n9 := ρ 9) (n10 := ρ 10) (n11 := ρ 11) (n12 := ρ 12) (n13 := ρ 13) (n14 := ρ 14) (n15 := ρ 15) (n16 := ρ 16) (n17 := ρ 17) (n18 := ρ 18) (n19 := ρ 19) (n20 := ρ 20) (n21 := ρ 21) (n22 := ρ 22) (n23 := ρ 23) (n24 := ρ 24) (n25 := ρ 25) (H0 := η 0) (H1 := η 1) f59 f58 f57 f56 f55 f54 f53 f52 f51 f50 f49 f48 f47 f46 f45 f44 f43 f42 f41 f40 f39 f38 f37 f36 f35 f34 f33 f32 f31 f30 f29 f28 f27 f26 f25 f24 f23 f22 f21 f20 f19 f18 f17 f16 f15 f14 f13 f12 f11 f10 f9 f8 f7 f6 f5 f4 f3 f2 f1 f0
theorem q_265_31 {q0 : Nat} {n0 n1 n2 n3 n4 n5 n6 n7 n8 n9 n10 n11 n12 n13 n14 n15 n16 n17 n18 n19 n20 n21 n22 n23 n24 n25 : Int} {H0 H1 : gH} (f0 : n0 ≤ 19) (f1 : (-1) ≤ n0) (f2 : n1 ≤ 240) (f3 : 0 ≤ n1) (f4 : n2 ≤ 19) (f5 : 0 ≤ n2) (f6 : n3 ≤ 19) (f7 : 0 ≤ n3) (f8 : n4 ≤ 19) (f9 : 0 ≤ n4) (f10 : n5 = 285) (f11 : n6 ≤ 19) (f12 : 0 ≤ n6) (f13 : n7 = 285) (f14 : (hLe T0 H0 H1 ∧ hFr s_265.2.2.2.2 H0 H1 ∧ hWt T0 H1) ∧ (Ab_265_75 n7 n6 n5 n4 n3 n2 n1 n0 H0 H1 ∧ preb_265 n7 n6 H0) ∧ some q0 = some (mub_265_75 n7 n6 n5 n4 n3 n2 n1 n0 H0 H1)) (f15 : 0 ≤ n0) (f16 : n8 = 331) (f17 : n8 = hV H1 (n5).toNat 69) (f18 : n9 = 343) (f19 : n9 = hV H1 (n5).toNat 81) (f20 : n10 ≤ 19) (f21 : 0 ≤ n10) (f22 : n10 = hV H1 (n9).toNat (n0).toNat) (f23 : n11 ≤ 2147483647) (f24 : (-2147483648) ≤ n11) (f25 : n11 = hV H1 (n8).toNat (n10).toNat) (f26 : n11 < n1) (f27 : n12 = 331) (f28 : n12 = hV H1 (n5).toNat 69) (f29 : n13 = 343) (f30 : n13 = hV H1 (n5).toNat 81) (f31 : n14 ≤ 19) (f32 : 0 ≤ n14) (f33 : n14 = hV H1 (n13).toNat (n0).toNat) (f34 : n15 ≤ 2147483647) (f35 : (-2147483648) ≤ n15) (f36 : n15 = hV H1 (n12).toNat (n14).toNat) (f37 : n16 = 330) (f38 : n16 = hV H1 (n5).toNat 68) (f39 : n17 = 343) (f40 : n17 = hV H1 (n5).toNat 81) (f41 : n18 ≤ 19) (f42 : 0 ≤ n18) (f43 : n18 = hV H1 (n17).toNat (n0).toNat) (f44 : n19 ≤ 2147483647) (f45 : (-2147483648) ≤ n19) (f46 : n19 = hV H1 (n16).toNat (n18).toNat) (f47 : n19 < n15) (f48 : n20 = 330) (f49 : n20 = hV H1 (n5).toNat 68) (f50 : n21 = 343) (f51 : n21 = hV H1 (n5).toNat 81) (f52 : n22 ≤ 19) (f53 : 0 ≤ n22) (f54 : n22 = hV H1 (n21).toNat (n0).toNat) (f55 : n23 ≤ 2147483647) (f56 : (-2147483648) ≤ n23) (f57 : n23 = hV H1 (n20).toNat (n22).toNat) (f58 : n24 = w32 (n15 - n23)) (f59 : n25 = w32 (n0 + (-1))) : n25 ≤ 19 := by
  have g4 := f14.2.1.1
  unfold Ab_265_75 at g4
  have g3 := f14.2.1.2
  unfold preb_265 at g3
  have e0 : n10 = hV H1 343 (n0).toNat := (by rw [f18] at f22; exact f22 : n10 = hV H1 343 (n0).toNat)
  have e2 : n11 = hV H0 331 (n10).toNat := (by rw [f16] at f25; exact f25 : n11 = hV H1 331 (n10).toNat).trans ((congrFun (fRow f14.1.2.1 331 kR_265_331) _))
  have e3 : n14 = hV H1 343 (n0).toNat := (by rw [f29] at f33; exact f33 : n14 = hV H1 343 (n0).toNat)
  have e4 : n15 = hV H0 331 (n14).toNat := (by rw [f27] at f36; exact f36 : n15 = hV H1 331 (n14).toNat).trans ((congrFun (fRow f14.1.2.1 331 kR_265_331) _))
  have e5 : n18 = hV H1 343 (n0).toNat := (by rw [f39] at f43; exact f43 : n18 = hV H1 343 (n0).toNat)
  have e6 : hV H1 330 = hV H0 330 := fRow f14.1.2.1 330 kR_265_330
  have e7 : n19 = hV H0 330 (n18).toNat := (by rw [f37] at f46; exact f46 : n19 = hV H1 330 (n18).toNat).trans ((congrFun e6 _))
  have e8 : n22 = hV H1 343 (n0).toNat := (by rw [f50] at f54; exact f54 : n22 = hV H1 343 (n0).toNat)
  have e9 : n23 = hV H0 330 (n22).toNat := (by rw [f48] at f57; exact f57 : n23 = hV H1 330 (n22).toNat).trans ((congrFun e6 _))
  have e12 : hV H1 328 = hV H0 328 := fRow f14.1.2.1 328 kR_265_328
  have e13 : hV H1 332 = hV H0 332 := fRow f14.1.2.1 332 kR_265_332
  have e14 : (0 : Int) ≤ hV H0 285 64 ∧ hV H0 285 64 ≤ 20 := bTo ((f14.1.2.1.1 285 64 kF_265_285_64)) (f14.1.2.2 285 64 _ _ kW_285_64)
  try simp only [e12, e6, e13] at g4
  have k0 := g4.1
  have y0 := g4.2.1
  have y1 := g4.2.2.1
  have y2 := g4.2.2.2.1
  have y3 := g4.2.2.2.2
  have p0 := g3.1
  have p1 := g3.2
  clear g3
  clear g4
  clear f17 f19 f22 f25 f28 f30 f33 f36 f38 f40 f43 f46 f49 f51 f54 f57 e6 e12 e13
  subst e0
  subst e2
  subst e3
  subst e4
  subst e5
  subst e7
  subst e8
  subst e9
  try (have c := y2.2.2 (n0).toNat (by omega); have t4 := SO4 p1 (by omega) c.1)
  first
  | (have ix0 : n25 = n0 + -1 := Eq.trans f59 (w32_iv (Iad (Iat f1 f0) (IC (-1))) (by decide)); subst ix0; clear f59)
  | (have ix0 : n25 = n0 + -1 := Eq.trans f59 (w32_id (by omega) (by omega)); subst ix0; clear f59)
  | (unfold w32 at f59; have ix0 : n25 = n0 + -1 := (by omega); subst ix0)
  | skip
  try unfold w32 at f58
  try unfold w32 at f59
  omega
theorem c_265_75_15 {q0 : Nat} : vOkm T0 (eP e_265 L_265 A_265 mu_265 (some q0)) 2 ([(10, [25, 7], [], -1), (2, [24, 15, 23], [], 0), (22, [23, 20, 22], [1], 0), (90, [23], [], -2147483648), (91, [23], [], 2147483647), (22, [22, 21, 7], [1], 0), (90, [22], [], 0), (91, [22], [], 19), (20, [21, 2], [1], 81), (0, [21], [], 343), (20, [20, 2], [1], 68), (0, [20], [], 330), (44, [15, 19], [], 0), (22, [19, 16, 18], [1], 0), (90, [19], [], -2147483648), (91, [19], [], 2147483647), (22, [18, 17, 7], [1], 0), (90, [18], [], 0), (91, [18], [], 19), (20, [17, 2], [1], 81), (0, [17], [], 343), (20, [16, 2], [1], 68), (0, [16], [], 330), (22, [15, 12, 14], [1], 0), (90, [15], [], -2147483648), (91, [15], [], 2147483647), (22, [14, 13, 7], [1], 0), (90, [14], [], 0), (91, [14], [], 19), (20, [13, 2], [1], 81), (0, [13], [], 343), (20, [12, 2], [1], 69), (0, [12], [], 331), (42, [11, 6], [], 0), (22, [11, 8, 10], [1], 0), (90, [11], [], -2147483648), (91, [11], [], 2147483647), (22, [10, 9, 7], [1], 0), (90, [10], [], 0), (91, [10], [], 19), (20, [9, 2], [1], 81), (0, [9], [], 343), (20, [8, 2], [1], 69), (0, [8], [], 331), (33, [7], [], 0), (5000, [0, 1, 2, 3, 4, 5, 6, 7], [0, 1], 75), (0, [0], [], 285), (90, [1], [], 0), (91, [1], [], 19), (0, [2], [], 285), (90, [3], [], 0), (91, [3], [], 19), (90, [4], [], 0), (91, [4], [], 19), (90, [5], [], 0), (91, [5], [], 19), (90, [6], [], 0), (91, [6], [], 240), (90, [7], [], -1), (91, [7], [], 19)], (91, [25], [], 19)) := vOk_inI fun ρ η f0 f1 f2 f3 f4 f5 f6 f7 f8 f9 f10 f11 f12 f13 f14 f15 f16 f17 f18 f19 f20 f21 f22 f23 f24 f25 f26 f27 f28 f29 f30 f31 f32 f33 f34 f35 f36 f37 f38 f39 f40 f41 f42 f43 f44 f45 f46 f47 f48 f49 f50 f51 f52 f53 f54 f55 f56 f57 f58 f59 => q_265_31 (q0 := q0) (n0 := ρ 7) (n1 := ρ 6) (n2 := ρ 5) (n3 := ρ 4) (n4 := ρ 3) (n5 := ρ 2) (n6 := ρ 1) (n7 := ρ 0) (n8 := ρ 8) (n9 := ρ 9) (n10 := ρ 10) (n11 := ρ 11) (n12 := ρ 12) (n13 := ρ 13) (n14 := ρ 14) (n15 := ρ 15) (n16 := ρ 16) (n17 := ρ 17) (n18 := ρ 18) (n19 := ρ 19) (n20 := ρ 20) (n21 := ρ 21) (n22 := ρ 22) (n23 := ρ 23) (n24 := ρ 24) (n25 := ρ 25) (H0 := η 0) (H1 := η 1) f59 f58 f57 f56 f55 f54 f53 f52 f51 f50 f49 f48 f47 f46 f45 f44 f43 f42 f41 f40 f39 f38 f37 f36 f35 f34 f33 f32 f31 f30 f29 f28 f27 f26 f25 f24 f23 f22 f21 f20 f19 f18 f17 f16 f15 f14 f13 f12 f11 f10 f9 f8 f7 f6 f5 f4 f3 f2 f1 f0
theorem q_265_32 {q0 : Nat} {n0 n1 n2 n3 n4 n5 n6 n7 n8 n9 n10 n11 n12 n13 n14 n15 n16 n17 n18 n19 n20 n21 n22 n23 n24 n25 : Int} {H0 H1 : gH} (f0 : n0 ≤ 19) (f1 : (-1) ≤ n0) (f2 : n1 ≤ 240) (f3 : 0 ≤ n1) (f4 : n2 ≤ 19) (f5 : 0 ≤ n2) (f6 : n3 ≤ 19) (f7 : 0 ≤ n3) (f8 : n4 ≤ 19) (f9 : 0 ≤ n4) (f10 : n5 = 285) (f11 : n6 ≤ 19) (f12 : 0 ≤ n6) (f13 : n7 = 285) (f14 : (hLe T0 H0 H1 ∧ hFr s_265.2.2.2.2 H0 H1 ∧ hWt T0 H1) ∧ (Ab_265_75 n7 n6 n5 n4 n3 n2 n1 n0 H0 H1 ∧ preb_265 n7 n6 H0) ∧ some q0 = some (mub_265_75 n7 n6 n5 n4 n3 n2 n1 n0 H0 H1)) (f15 : 0 ≤ n0) (f16 : n8 = 331) (f17 : n8 = hV H1 (n5).toNat 69) (f18 : n9 = 343) (f19 : n9 = hV H1 (n5).toNat 81) (f20 : n10 ≤ 19) (f21 : 0 ≤ n10) (f22 : n10 = hV H1 (n9).toNat (n0).toNat) (f23 : n11 ≤ 2147483647) (f24 : (-2147483648) ≤ n11) (f25 : n11 = hV H1 (n8).toNat (n10).toNat) (f26 : n11 < n1) (f27 : n12 = 331) (f28 : n12 = hV H1 (n5).toNat 69) (f29 : n13 = 343) (f30 : n13 = hV H1 (n5).toNat 81) (f31 : n14 ≤ 19) (f32 : 0 ≤ n14) (f33 : n14 = hV H1 (n13).toNat (n0).toNat) (f34 : n15 ≤ 2147483647) (f35 : (-2147483648) ≤ n15) (f36 : n15 = hV H1 (n12).toNat (n14).toNat) (f37 : n16 = 330) (f38 : n16 = hV H1 (n5).toNat 68) (f39 : n17 = 343) (f40 : n17 = hV H1 (n5).toNat 81) (f41 : n18 ≤ 19) (f42 : 0 ≤ n18) (f43 : n18 = hV H1 (n17).toNat (n0).toNat) (f44 : n19 ≤ 2147483647) (f45 : (-2147483648) ≤ n19) (f46 : n19 = hV H1 (n16).toNat (n18).toNat) (f47 : n19 < n15) (f48 : n20 = 330) (f49 : n20 = hV H1 (n5).toNat 68) (f50 : n21 = 343) (f51 : n21 = hV H1 (n5).toNat 81) (f52 : n22 ≤ 19) (f53 : 0 ≤ n22) (f54 : n22 = hV H1 (n21).toNat (n0).toNat) (f55 : n23 ≤ 2147483647) (f56 : (-2147483648) ≤ n23) (f57 : n23 = hV H1 (n20).toNat (n22).toNat) (f58 : n24 = w32 (n15 - n23)) (f59 : n25 = w32 (n0 + (-1))) : Ab_265_75 n7 n6 n5 n4 n3 n2 n24 n25 H0 H1 ∧ ∀ q, some q0 = some q → mub_265_75 n7 n6 n5 n4 n3 n2 n24 n25 H0 H1 < q := by
  have g4 := f14.2.1.1
  unfold Ab_265_75 at g4
  have g3 := f14.2.1.2
  unfold preb_265 at g3
  have g5 := Option.some.inj f14.2.2
  unfold mub_265_75 at g5
  unfold Ab_265_75
  unfold mub_265_75
  have e0 : n10 = hV H1 343 (n0).toNat := (by rw [f18] at f22; exact f22 : n10 = hV H1 343 (n0).toNat)
  have e2 : n11 = hV H0 331 (n10).toNat := (by rw [f16] at f25; exact f25 : n11 = hV H1 331 (n10).toNat).trans ((congrFun (fRow f14.1.2.1 331 kR_265_331) _))
  have e3 : n14 = hV H1 343 (n0).toNat := (by rw [f29] at f33; exact f33 : n14 = hV H1 343 (n0).toNat)
  have e4 : n15 = hV H0 331 (n14).toNat := (by rw [f27] at f36; exact f36 : n15 = hV H1 331 (n14).toNat).trans ((congrFun (fRow f14.1.2.1 331 kR_265_331) _))
  have e5 : n18 = hV H1 343 (n0).toNat := (by rw [f39] at f43; exact f43 : n18 = hV H1 343 (n0).toNat)
  have e6 : hV H1 330 = hV H0 330 := fRow f14.1.2.1 330 kR_265_330
  have e7 : n19 = hV H0 330 (n18).toNat := (by rw [f37] at f46; exact f46 : n19 = hV H1 330 (n18).toNat).trans ((congrFun e6 _))
  have e8 : n22 = hV H1 343 (n0).toNat := (by rw [f50] at f54; exact f54 : n22 = hV H1 343 (n0).toNat)
  have e9 : n23 = hV H0 330 (n22).toNat := (by rw [f48] at f57; exact f57 : n23 = hV H1 330 (n22).toNat).trans ((congrFun e6 _))
  have e12 : hV H1 328 = hV H0 328 := fRow f14.1.2.1 328 kR_265_328
  have e13 : hV H1 332 = hV H0 332 := fRow f14.1.2.1 332 kR_265_332
  have e14 : (0 : Int) ≤ hV H0 285 64 ∧ hV H0 285 64 ≤ 20 := bTo ((f14.1.2.1.1 285 64 kF_265_285_64)) (f14.1.2.2 285 64 _ _ kW_285_64)
  try simp only [e12, e6, e13] at g4
  try simp only [e12, e6, e13]
  have k0 := g4.1
  have y0 := g4.2.1
  have y1 := g4.2.2.1
  have y2 := g4.2.2.2.1
  have y3 := g4.2.2.2.2
  have p0 := g3.1
  have p1 := g3.2
  clear g3
  clear g4
  clear f17 f19 f22 f25 f28 f30 f33 f36 f38 f40 f43 f46 f49 f51 f54 f57 e6 e12 e13
  subst e0
  subst e2
  subst e3
  subst e4
  subst e5
  subst e7
  subst e8
  subst e9
  try (have c := y2.2.2 (n0).toNat (by omega); have t4 := SO4 p1 (by omega) c.1)
  first
  | (have ix0 : n24 = hV H0 331 (hV H1 343 (n0).toNat).toNat - (hV H0 330 (hV H1 343 (n0).toNat).toNat) := Eq.trans f58 (w32_id (by omega) (by omega)); subst ix0; clear f58)
  | (unfold w32 at f58; have ix0 : n24 = hV H0 331 (hV H1 343 (n0).toNat).toNat - (hV H0 330 (hV H1 343 (n0).toNat).toNat) := (by omega); subst ix0)
  | skip
  first
  | (have ix1 : n25 = n0 + -1 := Eq.trans f59 (w32_iv (Iad (Iat f1 f0) (IC (-1))) (by decide)); subst ix1; clear f59)
  | (have ix1 : n25 = n0 + -1 := Eq.trans f59 (w32_id (by omega) (by omega)); subst ix1; clear f59)
  | (unfold w32 at f59; have ix1 : n25 = n0 + -1 := (by omega); subst ix1)
  | skip
  try unfold w32 at f58
  try unfold w32 at f59

  refine ⟨?_, fun q hq => ?_⟩
  · exact ⟨by omega, by omega, by omega, y2, LNp_step p1 (by omega) (by omega) y2 (by omega) (by omega) y3 (by omega) (by omega) (by omega)⟩
  · have g6 := Option.some.inj hq
    subst g6
    omega
theorem c_265_75_16 {q0 : Nat} : vOkm T0 (eP e_265 L_265 A_265 mu_265 (some q0)) 2 ([(10, [25, 7], [], -1), (2, [24, 15, 23], [], 0), (22, [23, 20, 22], [1], 0), (90, [23], [], -2147483648), (91, [23], [], 2147483647), (22, [22, 21, 7], [1], 0), (90, [22], [], 0), (91, [22], [], 19), (20, [21, 2], [1], 81), (0, [21], [], 343), (20, [20, 2], [1], 68), (0, [20], [], 330), (44, [15, 19], [], 0), (22, [19, 16, 18], [1], 0), (90, [19], [], -2147483648), (91, [19], [], 2147483647), (22, [18, 17, 7], [1], 0), (90, [18], [], 0), (91, [18], [], 19), (20, [17, 2], [1], 81), (0, [17], [], 343), (20, [16, 2], [1], 68), (0, [16], [], 330), (22, [15, 12, 14], [1], 0), (90, [15], [], -2147483648), (91, [15], [], 2147483647), (22, [14, 13, 7], [1], 0), (90, [14], [], 0), (91, [14], [], 19), (20, [13, 2], [1], 81), (0, [13], [], 343), (20, [12, 2], [1], 69), (0, [12], [], 331), (42, [11, 6], [], 0), (22, [11, 8, 10], [1], 0), (90, [11], [], -2147483648), (91, [11], [], 2147483647), (22, [10, 9, 7], [1], 0), (90, [10], [], 0), (91, [10], [], 19), (20, [9, 2], [1], 81), (0, [9], [], 343), (20, [8, 2], [1], 69), (0, [8], [], 331), (33, [7], [], 0), (5000, [0, 1, 2, 3, 4, 5, 6, 7], [0, 1], 75), (0, [0], [], 285), (90, [1], [], 0), (91, [1], [], 19), (0, [2], [], 285), (90, [3], [], 0), (91, [3], [], 19), (90, [4], [], 0), (91, [4], [], 19), (90, [5], [], 0), (91, [5], [], 19), (90, [6], [], 0), (91, [6], [], 240), (90, [7], [], -1), (91, [7], [], 19)], (4000, [2, 3, 4, 5, 24, 25], [1], 75)) := vOk_inI fun ρ η f0 f1 f2 f3 f4 f5 f6 f7 f8 f9 f10 f11 f12 f13 f14 f15 f16 f17 f18 f19 f20 f21 f22 f23 f24 f25 f26 f27 f28 f29 f30 f31 f32 f33 f34 f35 f36 f37 f38 f39 f40 f41 f42 f43 f44 f45 f46 f47 f48 f49 f50 f51 f52 f53 f54 f55 f56 f57 f58 f59 => q_265_32 (q0 := q0) (n0 := ρ 7) (n1 := ρ 6) (n2 := ρ 5) (n3 := ρ 4) (n4 := ρ 3) (n5 := ρ 2) (n6 := ρ 1) (n7 := ρ 0) (n8 := ρ 8) (n9 := ρ 9) (n10 := ρ 10) (n11 := ρ 11) (n12 := ρ 12) (n13 := ρ 13) (n14 := ρ 14) (n15 := ρ 15) (n16 := ρ 16) (n17 := ρ 17) (n18 := ρ 18) (n19 := ρ 19) (n20 := ρ 20) (n21 := ρ 21) (n22 := ρ 22) (n23 := ρ 23) (n24 := ρ 24) (n25 := ρ 25) (H0 := η 0) (H1 := η 1) f59 f58 f57 f56 f55 f54 f53 f52 f51 f50 f49 f48 f47 f46 f45 f44 f43 f42 f41 f40 f39 f38 f37 f36 f35 f34 f33 f32 f31 f30 f29 f28 f27 f26 f25 f24 f23 f22 f21 f20 f19 f18 f17 f16 f15 f14 f13 f12 f11 f10 f9 f8 f7 f6 f5 f4 f3 f2 f1 f0
def p_265_75 : List vG := [([(32, [7], [], 0), (5000, [0, 1, 2, 3, 4, 5, 6, 7], [0, 1], 75), (0, [0], [], 285), (90, [1], [], 0), (91, [1], [], 19), (0, [2], [], 285), (90, [3], [], 0), (91, [3], [], 19), (90, [4], [], 0), (91, [4], [], 19), (90, [5], [], 0), (91, [5], [], 19), (90, [6], [], 0), (91, [6], [], 240), (90, [7], [], -1), (91, [7], [], 19)], (3000, [6], [1], 162)),
  ([(10, [17, 7], [], -1), (45, [6, 15], [], 0), (22, [15, 12, 14], [1], 0), (90, [15], [], -2147483648), (91, [15], [], 2147483647), (22, [14, 13, 7], [1], 0), (90, [14], [], 0), (91, [14], [], 19), (20, [13, 2], [1], 81), (0, [13], [], 343), (20, [12, 2], [1], 68), (0, [12], [], 330), (43, [11, 6], [], 0), (22, [11, 8, 10], [1], 0), (90, [11], [], -2147483648), (91, [11], [], 2147483647), (22, [10, 9, 7], [1], 0), (90, [10], [], 0), (91, [10], [], 19), (20, [9, 2], [1], 81), (0, [9], [], 343), (20, [8, 2], [1], 69), (0, [8], [], 331), (33, [7], [], 0), (5000, [0, 1, 2, 3, 4, 5, 6, 7], [0, 1], 75), (0, [0], [], 285), (90, [1], [], 0), (91, [1], [], 19), (0, [2], [], 285), (90, [3], [], 0), (91, [3], [], 19), (90, [4], [], 0), (91, [4], [], 19), (90, [5], [], 0), (91, [5], [], 19), (90, [6], [], 0), (91, [6], [], 240), (90, [7], [], -1), (91, [7], [], 19)], (90, [17], [], -1)),
  ([(10, [17, 7], [], -1), (45, [6, 15], [], 0), (22, [15, 12, 14], [1], 0), (90, [15], [], -2147483648), (91, [15], [], 2147483647), (22, [14, 13, 7], [1], 0), (90, [14], [], 0), (91, [14], [], 19), (20, [13, 2], [1], 81), (0, [13], [], 343), (20, [12, 2], [1], 68), (0, [12], [], 330), (43, [11, 6], [], 0), (22, [11, 8, 10], [1], 0), (90, [11], [], -2147483648), (91, [11], [], 2147483647), (22, [10, 9, 7], [1], 0), (90, [10], [], 0), (91, [10], [], 19), (20, [9, 2], [1], 81), (0, [9], [], 343), (20, [8, 2], [1], 69), (0, [8], [], 331), (33, [7], [], 0), (5000, [0, 1, 2, 3, 4, 5, 6, 7], [0, 1], 75), (0, [0], [], 285), (90, [1], [], 0), (91, [1], [], 19), (0, [2], [], 285), (90, [3], [], 0), (91, [3], [], 19), (90, [4], [], 0), (91, [4], [], 19), (90, [5], [], 0), (91, [5], [], 19), (90, [6], [], 0), (91, [6], [], 240), (90, [7], [], -1), (91, [7], [], 19)], (91, [17], [], 19)),
  ([(10, [17, 7], [], -1), (0, [16], [], 0), (45, [6, 15], [], 0), (22, [15, 12, 14], [1], 0), (90, [15], [], -2147483648), (91, [15], [], 2147483647), (22, [14, 13, 7], [1], 0), (90, [14], [], 0), (91, [14], [], 19), (20, [13, 2], [1], 81), (0, [13], [], 343), (20, [12, 2], [1], 68), (0, [12], [], 330), (43, [11, 6], [], 0), (22, [11, 8, 10], [1], 0), (90, [11], [], -2147483648), (91, [11], [], 2147483647), (22, [10, 9, 7], [1], 0), (90, [10], [], 0), (91, [10], [], 19), (20, [9, 2], [1], 81), (0, [9], [], 343), (20, [8, 2], [1], 69), (0, [8], [], 331), (33, [7], [], 0), (5000, [0, 1, 2, 3, 4, 5, 6, 7], [0, 1], 75), (0, [0], [], 285), (90, [1], [], 0), (91, [1], [], 19), (0, [2], [], 285), (90, [3], [], 0), (91, [3], [], 19), (90, [4], [], 0), (91, [4], [], 19), (90, [5], [], 0), (91, [5], [], 19), (90, [6], [], 0), (91, [6], [], 240), (90, [7], [], -1), (91, [7], [], 19)], (4000, [2, 3, 4, 5, 16, 17], [1], 75)),
  ([(10, [21, 7], [], -1), (2, [20, 6, 19], [], 0), (22, [19, 16, 18], [1], 0), (90, [19], [], -2147483648), (91, [19], [], 2147483647), (22, [18, 17, 7], [1], 0), (90, [18], [], 0), (91, [18], [], 19), (20, [17, 2], [1], 81), (0, [17], [], 343), (20, [16, 2], [1], 68), (0, [16], [], 330), (44, [6, 15], [], 0), (22, [15, 12, 14], [1], 0), (90, [15], [], -2147483648), (91, [15], [], 2147483647), (22, [14, 13, 7], [1], 0), (90, [14], [], 0), (91, [14], [], 19), (20, [13, 2], [1], 81), (0, [13], [], 343), (20, [12, 2], [1], 68), (0, [12], [], 330), (43, [11, 6], [], 0), (22, [11, 8, 10], [1], 0), (90, [11], [], -2147483648), (91, [11], [], 2147483647), (22, [10, 9, 7], [1], 0), (90, [10], [], 0), (91, [10], [], 19), (20, [9, 2], [1], 81), (0, [9], [], 343), (20, [8, 2], [1], 69), (0, [8], [], 331), (33, [7], [], 0), (5000, [0, 1, 2, 3, 4, 5, 6, 7], [0, 1], 75), (0, [0], [], 285), (90, [1], [], 0), (91, [1], [], 19), (0, [2], [], 285), (90, [3], [], 0), (91, [3], [], 19), (90, [4], [], 0), (91, [4], [], 19), (90, [5], [], 0), (91, [5], [], 19), (90, [6], [], 0), (91, [6], [], 240), (90, [7], [], -1), (91, [7], [], 19)], (90, [20], [], 0)),
  ([(10, [21, 7], [], -1), (2, [20, 6, 19], [], 0), (22, [19, 16, 18], [1], 0), (90, [19], [], -2147483648), (91, [19], [], 2147483647), (22, [18, 17, 7], [1], 0), (90, [18], [], 0), (91, [18], [], 19), (20, [17, 2], [1], 81), (0, [17], [], 343), (20, [16, 2], [1], 68), (0, [16], [], 330), (44, [6, 15], [], 0), (22, [15, 12, 14], [1], 0), (90, [15], [], -2147483648), (91, [15], [], 2147483647), (22, [14, 13, 7], [1], 0), (90, [14], [], 0), (91, [14], [], 19), (20, [13, 2], [1], 81), (0, [13], [], 343), (20, [12, 2], [1], 68), (0, [12], [], 330), (43, [11, 6], [], 0), (22, [11, 8, 10], [1], 0), (90, [11], [], -2147483648), (91, [11], [], 2147483647), (22, [10, 9, 7], [1], 0), (90, [10], [], 0), (91, [10], [], 19), (20, [9, 2], [1], 81), (0, [9], [], 343), (20, [8, 2], [1], 69), (0, [8], [], 331), (33, [7], [], 0), (5000, [0, 1, 2, 3, 4, 5, 6, 7], [0, 1], 75), (0, [0], [], 285), (90, [1], [], 0), (91, [1], [], 19), (0, [2], [], 285), (90, [3], [], 0), (91, [3], [], 19), (90, [4], [], 0), (91, [4], [], 19), (90, [5], [], 0), (91, [5], [], 19), (90, [6], [], 0), (91, [6], [], 240), (90, [7], [], -1), (91, [7], [], 19)], (91, [20], [], 240)),
  ([(10, [21, 7], [], -1), (2, [20, 6, 19], [], 0), (22, [19, 16, 18], [1], 0), (90, [19], [], -2147483648), (91, [19], [], 2147483647), (22, [18, 17, 7], [1], 0), (90, [18], [], 0), (91, [18], [], 19), (20, [17, 2], [1], 81), (0, [17], [], 343), (20, [16, 2], [1], 68), (0, [16], [], 330), (44, [6, 15], [], 0), (22, [15, 12, 14], [1], 0), (90, [15], [], -2147483648), (91, [15], [], 2147483647), (22, [14, 13, 7], [1], 0), (90, [14], [], 0), (91, [14], [], 19), (20, [13, 2], [1], 81), (0, [13], [], 343), (20, [12, 2], [1], 68), (0, [12], [], 330), (43, [11, 6], [], 0), (22, [11, 8, 10], [1], 0), (90, [11], [], -2147483648), (91, [11], [], 2147483647), (22, [10, 9, 7], [1], 0), (90, [10], [], 0), (91, [10], [], 19), (20, [9, 2], [1], 81), (0, [9], [], 343), (20, [8, 2], [1], 69), (0, [8], [], 331), (33, [7], [], 0), (5000, [0, 1, 2, 3, 4, 5, 6, 7], [0, 1], 75), (0, [0], [], 285), (90, [1], [], 0), (91, [1], [], 19), (0, [2], [], 285), (90, [3], [], 0), (91, [3], [], 19), (90, [4], [], 0), (91, [4], [], 19), (90, [5], [], 0), (91, [5], [], 19), (90, [6], [], 0), (91, [6], [], 240), (90, [7], [], -1), (91, [7], [], 19)], (90, [21], [], -1)),
  ([(10, [21, 7], [], -1), (2, [20, 6, 19], [], 0), (22, [19, 16, 18], [1], 0), (90, [19], [], -2147483648), (91, [19], [], 2147483647), (22, [18, 17, 7], [1], 0), (90, [18], [], 0), (91, [18], [], 19), (20, [17, 2], [1], 81), (0, [17], [], 343), (20, [16, 2], [1], 68), (0, [16], [], 330), (44, [6, 15], [], 0), (22, [15, 12, 14], [1], 0), (90, [15], [], -2147483648), (91, [15], [], 2147483647), (22, [14, 13, 7], [1], 0), (90, [14], [], 0), (91, [14], [], 19), (20, [13, 2], [1], 81), (0, [13], [], 343), (20, [12, 2], [1], 68), (0, [12], [], 330), (43, [11, 6], [], 0), (22, [11, 8, 10], [1], 0), (90, [11], [], -2147483648), (91, [11], [], 2147483647), (22, [10, 9, 7], [1], 0), (90, [10], [], 0), (91, [10], [], 19), (20, [9, 2], [1], 81), (0, [9], [], 343), (20, [8, 2], [1], 69), (0, [8], [], 331), (33, [7], [], 0), (5000, [0, 1, 2, 3, 4, 5, 6, 7], [0, 1], 75), (0, [0], [], 285), (90, [1], [], 0), (91, [1], [], 19), (0, [2], [], 285), (90, [3], [], 0), (91, [3], [], 19), (90, [4], [], 0), (91, [4], [], 19), (90, [5], [], 0), (91, [5], [], 19), (90, [6], [], 0), (91, [6], [], 240), (90, [7], [], -1), (91, [7], [], 19)], (91, [21], [], 19)),
  ([(10, [21, 7], [], -1), (2, [20, 6, 19], [], 0), (22, [19, 16, 18], [1], 0), (90, [19], [], -2147483648), (91, [19], [], 2147483647), (22, [18, 17, 7], [1], 0), (90, [18], [], 0), (91, [18], [], 19), (20, [17, 2], [1], 81), (0, [17], [], 343), (20, [16, 2], [1], 68), (0, [16], [], 330), (44, [6, 15], [], 0), (22, [15, 12, 14], [1], 0), (90, [15], [], -2147483648), (91, [15], [], 2147483647), (22, [14, 13, 7], [1], 0), (90, [14], [], 0), (91, [14], [], 19), (20, [13, 2], [1], 81), (0, [13], [], 343), (20, [12, 2], [1], 68), (0, [12], [], 330), (43, [11, 6], [], 0), (22, [11, 8, 10], [1], 0), (90, [11], [], -2147483648), (91, [11], [], 2147483647), (22, [10, 9, 7], [1], 0), (90, [10], [], 0), (91, [10], [], 19), (20, [9, 2], [1], 81), (0, [9], [], 343), (20, [8, 2], [1], 69), (0, [8], [], 331), (33, [7], [], 0), (5000, [0, 1, 2, 3, 4, 5, 6, 7], [0, 1], 75), (0, [0], [], 285), (90, [1], [], 0), (91, [1], [], 19), (0, [2], [], 285), (90, [3], [], 0), (91, [3], [], 19), (90, [4], [], 0), (91, [4], [], 19), (90, [5], [], 0), (91, [5], [], 19), (90, [6], [], 0), (91, [6], [], 240), (90, [7], [], -1), (91, [7], [], 19)], (4000, [2, 3, 4, 5, 20, 21], [1], 75)),
  ([(10, [21, 7], [], -1), (45, [15, 19], [], 0), (22, [19, 16, 18], [1], 0), (90, [19], [], -2147483648), (91, [19], [], 2147483647), (22, [18, 17, 7], [1], 0), (90, [18], [], 0), (91, [18], [], 19), (20, [17, 2], [1], 81), (0, [17], [], 343), (20, [16, 2], [1], 68), (0, [16], [], 330), (22, [15, 12, 14], [1], 0), (90, [15], [], -2147483648), (91, [15], [], 2147483647), (22, [14, 13, 7], [1], 0), (90, [14], [], 0), (91, [14], [], 19), (20, [13, 2], [1], 81), (0, [13], [], 343), (20, [12, 2], [1], 69), (0, [12], [], 331), (42, [11, 6], [], 0), (22, [11, 8, 10], [1], 0), (90, [11], [], -2147483648), (91, [11], [], 2147483647), (22, [10, 9, 7], [1], 0), (90, [10], [], 0), (91, [10], [], 19), (20, [9, 2], [1], 81), (0, [9], [], 343), (20, [8, 2], [1], 69), (0, [8], [], 331), (33, [7], [], 0), (5000, [0, 1, 2, 3, 4, 5, 6, 7], [0, 1], 75), (0, [0], [], 285), (90, [1], [], 0), (91, [1], [], 19), (0, [2], [], 285), (90, [3], [], 0), (91, [3], [], 19), (90, [4], [], 0), (91, [4], [], 19), (90, [5], [], 0), (91, [5], [], 19), (90, [6], [], 0), (91, [6], [], 240), (90, [7], [], -1), (91, [7], [], 19)], (90, [21], [], -1)),
  ([(10, [21, 7], [], -1), (45, [15, 19], [], 0), (22, [19, 16, 18], [1], 0), (90, [19], [], -2147483648), (91, [19], [], 2147483647), (22, [18, 17, 7], [1], 0), (90, [18], [], 0), (91, [18], [], 19), (20, [17, 2], [1], 81), (0, [17], [], 343), (20, [16, 2], [1], 68), (0, [16], [], 330), (22, [15, 12, 14], [1], 0), (90, [15], [], -2147483648), (91, [15], [], 2147483647), (22, [14, 13, 7], [1], 0), (90, [14], [], 0), (91, [14], [], 19), (20, [13, 2], [1], 81), (0, [13], [], 343), (20, [12, 2], [1], 69), (0, [12], [], 331), (42, [11, 6], [], 0), (22, [11, 8, 10], [1], 0), (90, [11], [], -2147483648), (91, [11], [], 2147483647), (22, [10, 9, 7], [1], 0), (90, [10], [], 0), (91, [10], [], 19), (20, [9, 2], [1], 81), (0, [9], [], 343), (20, [8, 2], [1], 69), (0, [8], [], 331), (33, [7], [], 0), (5000, [0, 1, 2, 3, 4, 5, 6, 7], [0, 1], 75), (0, [0], [], 285), (90, [1], [], 0), (91, [1], [], 19), (0, [2], [], 285), (90, [3], [], 0), (91, [3], [], 19), (90, [4], [], 0), (91, [4], [], 19), (90, [5], [], 0), (91, [5], [], 19), (90, [6], [], 0), (91, [6], [], 240), (90, [7], [], -1), (91, [7], [], 19)], (91, [21], [], 19)),
  ([(10, [21, 7], [], -1), (0, [20], [], 0), (45, [15, 19], [], 0), (22, [19, 16, 18], [1], 0), (90, [19], [], -2147483648), (91, [19], [], 2147483647), (22, [18, 17, 7], [1], 0), (90, [18], [], 0), (91, [18], [], 19), (20, [17, 2], [1], 81), (0, [17], [], 343), (20, [16, 2], [1], 68), (0, [16], [], 330), (22, [15, 12, 14], [1], 0), (90, [15], [], -2147483648), (91, [15], [], 2147483647), (22, [14, 13, 7], [1], 0), (90, [14], [], 0), (91, [14], [], 19), (20, [13, 2], [1], 81), (0, [13], [], 343), (20, [12, 2], [1], 69), (0, [12], [], 331), (42, [11, 6], [], 0), (22, [11, 8, 10], [1], 0), (90, [11], [], -2147483648), (91, [11], [], 2147483647), (22, [10, 9, 7], [1], 0), (90, [10], [], 0), (91, [10], [], 19), (20, [9, 2], [1], 81), (0, [9], [], 343), (20, [8, 2], [1], 69), (0, [8], [], 331), (33, [7], [], 0), (5000, [0, 1, 2, 3, 4, 5, 6, 7], [0, 1], 75), (0, [0], [], 285), (90, [1], [], 0), (91, [1], [], 19), (0, [2], [], 285), (90, [3], [], 0), (91, [3], [], 19), (90, [4], [], 0), (91, [4], [], 19), (90, [5], [], 0), (91, [5], [], 19), (90, [6], [], 0), (91, [6], [], 240), (90, [7], [], -1), (91, [7], [], 19)], (4000, [2, 3, 4, 5, 20, 21], [1], 75)),
  ([(10, [25, 7], [], -1), (2, [24, 15, 23], [], 0), (22, [23, 20, 22], [1], 0), (90, [23], [], -2147483648), (91, [23], [], 2147483647), (22, [22, 21, 7], [1], 0), (90, [22], [], 0), (91, [22], [], 19), (20, [21, 2], [1], 81), (0, [21], [], 343), (20, [20, 2], [1], 68), (0, [20], [], 330), (44, [15, 19], [], 0), (22, [19, 16, 18], [1], 0), (90, [19], [], -2147483648), (91, [19], [], 2147483647), (22, [18, 17, 7], [1], 0), (90, [18], [], 0), (91, [18], [], 19), (20, [17, 2], [1], 81), (0, [17], [], 343), (20, [16, 2], [1], 68), (0, [16], [], 330), (22, [15, 12, 14], [1], 0), (90, [15], [], -2147483648), (91, [15], [], 2147483647), (22, [14, 13, 7], [1], 0), (90, [14], [], 0), (91, [14], [], 19), (20, [13, 2], [1], 81), (0, [13], [], 343), (20, [12, 2], [1], 69), (0, [12], [], 331), (42, [11, 6], [], 0), (22, [11, 8, 10], [1], 0), (90, [11], [], -2147483648), (91, [11], [], 2147483647), (22, [10, 9, 7], [1], 0), (90, [10], [], 0), (91, [10], [], 19), (20, [9, 2], [1], 81), (0, [9], [], 343), (20, [8, 2], [1], 69), (0, [8], [], 331), (33, [7], [], 0), (5000, [0, 1, 2, 3, 4, 5, 6, 7], [0, 1], 75), (0, [0], [], 285), (90, [1], [], 0), (91, [1], [], 19), (0, [2], [], 285), (90, [3], [], 0), (91, [3], [], 19), (90, [4], [], 0), (91, [4], [], 19), (90, [5], [], 0), (91, [5], [], 19), (90, [6], [], 0), (91, [6], [], 240), (90, [7], [], -1), (91, [7], [], 19)], (90, [24], [], 0)),
  ([(10, [25, 7], [], -1), (2, [24, 15, 23], [], 0), (22, [23, 20, 22], [1], 0), (90, [23], [], -2147483648), (91, [23], [], 2147483647), (22, [22, 21, 7], [1], 0), (90, [22], [], 0), (91, [22], [], 19), (20, [21, 2], [1], 81), (0, [21], [], 343), (20, [20, 2], [1], 68), (0, [20], [], 330), (44, [15, 19], [], 0), (22, [19, 16, 18], [1], 0), (90, [19], [], -2147483648), (91, [19], [], 2147483647), (22, [18, 17, 7], [1], 0), (90, [18], [], 0), (91, [18], [], 19), (20, [17, 2], [1], 81), (0, [17], [], 343), (20, [16, 2], [1], 68), (0, [16], [], 330), (22, [15, 12, 14], [1], 0), (90, [15], [], -2147483648), (91, [15], [], 2147483647), (22, [14, 13, 7], [1], 0), (90, [14], [], 0), (91, [14], [], 19), (20, [13, 2], [1], 81), (0, [13], [], 343), (20, [12, 2], [1], 69), (0, [12], [], 331), (42, [11, 6], [], 0), (22, [11, 8, 10], [1], 0), (90, [11], [], -2147483648), (91, [11], [], 2147483647), (22, [10, 9, 7], [1], 0), (90, [10], [], 0), (91, [10], [], 19), (20, [9, 2], [1], 81), (0, [9], [], 343), (20, [8, 2], [1], 69), (0, [8], [], 331), (33, [7], [], 0), (5000, [0, 1, 2, 3, 4, 5, 6, 7], [0, 1], 75), (0, [0], [], 285), (90, [1], [], 0), (91, [1], [], 19), (0, [2], [], 285), (90, [3], [], 0), (91, [3], [], 19), (90, [4], [], 0), (91, [4], [], 19), (90, [5], [], 0), (91, [5], [], 19), (90, [6], [], 0), (91, [6], [], 240), (90, [7], [], -1), (91, [7], [], 19)], (91, [24], [], 240)),
  ([(10, [25, 7], [], -1), (2, [24, 15, 23], [], 0), (22, [23, 20, 22], [1], 0), (90, [23], [], -2147483648), (91, [23], [], 2147483647), (22, [22, 21, 7], [1], 0), (90, [22], [], 0), (91, [22], [], 19), (20, [21, 2], [1], 81), (0, [21], [], 343), (20, [20, 2], [1], 68), (0, [20], [], 330), (44, [15, 19], [], 0), (22, [19, 16, 18], [1], 0), (90, [19], [], -2147483648), (91, [19], [], 2147483647), (22, [18, 17, 7], [1], 0), (90, [18], [], 0), (91, [18], [], 19), (20, [17, 2], [1], 81), (0, [17], [], 343), (20, [16, 2], [1], 68), (0, [16], [], 330), (22, [15, 12, 14], [1], 0), (90, [15], [], -2147483648), (91, [15], [], 2147483647), (22, [14, 13, 7], [1], 0), (90, [14], [], 0), (91, [14], [], 19), (20, [13, 2], [1], 81), (0, [13], [], 343), (20, [12, 2], [1], 69), (0, [12], [], 331), (42, [11, 6], [], 0), (22, [11, 8, 10], [1], 0), (90, [11], [], -2147483648), (91, [11], [], 2147483647), (22, [10, 9, 7], [1], 0), (90, [10], [], 0), (91, [10], [], 19), (20, [9, 2], [1], 81), (0, [9], [], 343), (20, [8, 2], [1], 69), (0, [8], [], 331), (33, [7], [], 0), (5000, [0, 1, 2, 3, 4, 5, 6, 7], [0, 1], 75), (0, [0], [], 285), (90, [1], [], 0), (91, [1], [], 19), (0, [2], [], 285), (90, [3], [], 0), (91, [3], [], 19), (90, [4], [], 0), (91, [4], [], 19), (90, [5], [], 0), (91, [5], [], 19), (90, [6], [], 0), (91, [6], [], 240), (90, [7], [], -1), (91, [7], [], 19)], (90, [25], [], -1)),
  ([(10, [25, 7], [], -1), (2, [24, 15, 23], [], 0), (22, [23, 20, 22], [1], 0), (90, [23], [], -2147483648), (91, [23], [], 2147483647), (22, [22, 21, 7], [1], 0), (90, [22], [], 0), (91, [22], [], 19), (20, [21, 2], [1], 81), (0, [21], [], 343), (20, [20, 2], [1], 68), (0, [20], [], 330), (44, [15, 19], [], 0), (22, [19, 16, 18], [1], 0), (90, [19], [], -2147483648), (91, [19], [], 2147483647), (22, [18, 17, 7], [1], 0), (90, [18], [], 0), (91, [18], [], 19), (20, [17, 2], [1], 81), (0, [17], [], 343), (20, [16, 2], [1], 68), (0, [16], [], 330), (22, [15, 12, 14], [1], 0), (90, [15], [], -2147483648), (91, [15], [], 2147483647), (22, [14, 13, 7], [1], 0), (90, [14], [], 0), (91, [14], [], 19), (20, [13, 2], [1], 81), (0, [13], [], 343), (20, [12, 2], [1], 69), (0, [12], [], 331), (42, [11, 6], [], 0), (22, [11, 8, 10], [1], 0), (90, [11], [], -2147483648), (91, [11], [], 2147483647), (22, [10, 9, 7], [1], 0), (90, [10], [], 0), (91, [10], [], 19), (20, [9, 2], [1], 81), (0, [9], [], 343), (20, [8, 2], [1], 69), (0, [8], [], 331), (33, [7], [], 0), (5000, [0, 1, 2, 3, 4, 5, 6, 7], [0, 1], 75), (0, [0], [], 285), (90, [1], [], 0), (91, [1], [], 19), (0, [2], [], 285), (90, [3], [], 0), (91, [3], [], 19), (90, [4], [], 0), (91, [4], [], 19), (90, [5], [], 0), (91, [5], [], 19), (90, [6], [], 0), (91, [6], [], 240), (90, [7], [], -1), (91, [7], [], 19)], (91, [25], [], 19)),
  ([(10, [25, 7], [], -1), (2, [24, 15, 23], [], 0), (22, [23, 20, 22], [1], 0), (90, [23], [], -2147483648), (91, [23], [], 2147483647), (22, [22, 21, 7], [1], 0), (90, [22], [], 0), (91, [22], [], 19), (20, [21, 2], [1], 81), (0, [21], [], 343), (20, [20, 2], [1], 68), (0, [20], [], 330), (44, [15, 19], [], 0), (22, [19, 16, 18], [1], 0), (90, [19], [], -2147483648), (91, [19], [], 2147483647), (22, [18, 17, 7], [1], 0), (90, [18], [], 0), (91, [18], [], 19), (20, [17, 2], [1], 81), (0, [17], [], 343), (20, [16, 2], [1], 68), (0, [16], [], 330), (22, [15, 12, 14], [1], 0), (90, [15], [], -2147483648), (91, [15], [], 2147483647), (22, [14, 13, 7], [1], 0), (90, [14], [], 0), (91, [14], [], 19), (20, [13, 2], [1], 81), (0, [13], [], 343), (20, [12, 2], [1], 69), (0, [12], [], 331), (42, [11, 6], [], 0), (22, [11, 8, 10], [1], 0), (90, [11], [], -2147483648), (91, [11], [], 2147483647), (22, [10, 9, 7], [1], 0), (90, [10], [], 0), (91, [10], [], 19), (20, [9, 2], [1], 81), (0, [9], [], 343), (20, [8, 2], [1], 69), (0, [8], [], 331), (33, [7], [], 0), (5000, [0, 1, 2, 3, 4, 5, 6, 7], [0, 1], 75), (0, [0], [], 285), (90, [1], [], 0), (91, [1], [], 19), (0, [2], [], 285), (90, [3], [], 0), (91, [3], [], 19), (90, [4], [], 0), (91, [4], [], 19), (90, [5], [], 0), (91, [5], [], 19), (90, [6], [], 0), (91, [6], [], 240), (90, [7], [], -1), (91, [7], [], 19)], (4000, [2, 3, 4, 5, 24, 25], [1], 75))]
theorem r_265_75 : vCovO false (eRc e_265 L_265 cs_265 2000 (75, [(0, (3, 12, 285, 0)), (1, (0, 0, 19, 0)), (2, (0, 0, 19, 0)), (3, (0, 0, 19, 0)), (4, (0, 0, 240, 0)), (5, (0, -1, 19, 0))])) p_265_75 = true := by decide +kernel
theorem m_265 (d : Nat) : eC e_265 (d + 1) := eC_ok (e := e_265) (L := L_265) (cs := cs_265) (n := 2000) (d := d + 0) (A := A_265) (μ := mu_265) (tp := false) (p0 := p_265_s) rfl trivial rfl (.inl rfl) (by decide +kernel) (fun z => nomatch z) r_265_s (allC c_265_s_0 allN) (allC (.inl ⟨p_265_4, r_265_4, fun q0 => (allC c_265_4_0 (allC c_265_4_1 (allC c_265_4_2 (allC c_265_4_3 (allC c_265_4_4 (allC c_265_4_5 (allC c_265_4_6 (allC c_265_4_7 (allC c_265_4_8 (allC c_265_4_9 (allC c_265_4_10 (allC c_265_4_11 (allC c_265_4_12 (allC c_265_4_13 (allC c_265_4_14 (allC c_265_4_15 (allC c_265_4_16 (allC c_265_4_17 (allC c_265_4_18 allN)))))))))))))))))))⟩) (allC (.inl ⟨p_265_75, r_265_75, fun q0 => (allC c_265_75_0 (allC c_265_75_1 (allC c_265_75_2 (allC c_265_75_3 (allC c_265_75_4 (allC c_265_75_5 (allC c_265_75_6 (allC c_265_75_7 (allC c_265_75_8 (allC c_265_75_9 (allC c_265_75_10 (allC c_265_75_11 (allC c_265_75_12 (allC c_265_75_13 (allC c_265_75_14 (allC c_265_75_15 (allC c_265_75_16 allN)))))))))))))))))⟩) allN))
/- MixStageModel.sampleOf (II)I -/
noncomputable def s_266 : vM := ([(3, 12, 285, 0), (0, 0, 19, 0), (0, -2147483648, 2147483647, 0)], (0, -2147483648, 2147483647, 0), 1, 0, [(572, 0)])
def preb_266 (a0 a1 a2 : Int) (h : gH) : Prop := a1 < hV h 285 64 ∧ SO h
def pre_266 : List Int → gH → Prop := fun xs h => match xs with
  | [a0, a1, a2] => preb_266 a0 a1 a2 h
  | _ => False
noncomputable def e_266 : vE := (266, s_266, pre_266, post0)
noncomputable def L_266 : List vE := [e_265]
def cs_266 : List vC := [(20, [(0, (3, 12, 285, 0)), (1, (0, 0, 19, 0)), (2, (0, -2147483648, 2147483647, 0)), (3, (0, 0, 19, 0)), (4, (0, 0, 239, 0))])]
def Ab_266_20 (a0 a1 a2 x0 x1 x2 x3 x4 : Int) (h0 h : gH) : Prop := x1 = a1 ∧ x2 = a2 ∧ x3 < hV h 285 64 ∧ x4 + sumF (hV h 328) (hV h 332) (hV h 330) 20 (x3).toNat ≤ 239
def mub_266_20 (a0 a1 a2 x0 x1 x2 x3 x4 : Int) (h0 h : gH) : Nat := x3.toNat
def A_266 : Int → List Int → gH → gH → Prop := fun c xs h0 h => match c.toNat with
  | 20 => (match xs with
    | [a0, a1, a2, x0, x1, x2, x3, x4] => Ab_266_20 a0 a1 a2 x0 x1 x2 x3 x4 h0 h
    | _ => False)
  | _ => True
def mu_266 : Int → List Int → gH → gH → Nat := fun c xs h0 h => match c.toNat with
  | 20 => (match xs with
    | [a0, a1, a2, x0, x1, x2, x3, x4] => mub_266_20 a0 a1 a2 x0 x1 x2 x3 x4 h0 h
    | _ => 0)
  | _ => 0
theorem q_266_0 {n0 n1 n2 : Int} {H0 : gH} (f0 : n0 ≤ 2147483647) (f1 : (-2147483648) ≤ n0) (f2 : n1 ≤ 19) (f3 : 0 ≤ n1) (f4 : n2 = 285) (f5 : hWt T0 H0 ∧ preb_266 n2 n1 n0 H0) (f6 : 0 ≤ n0) : preb_265 n2 n1 H0 := by
  unfold preb_266 at f5
  unfold preb_265
  have e0 : (0 : Int) ≤ hV H0 285 64 ∧ hV H0 285 64 ≤ 20 := f5.1 285 64 _ _ kW_285_64
  have p0 := f5.2.1
  have p1 := f5.2.2
  refine ⟨?_, ?_⟩ <;> first | assumption | omega | trivial
theorem c_266_s_0 : vOkm T0 (eP e_266 L_266 A_266 mu_266 none) 3 ([(33, [2], [], 0), (6000, [0, 1, 2], [0], 0), (0, [0], [], 285), (90, [1], [], 0), (91, [1], [], 19), (90, [2], [], -2147483648), (91, [2], [], 2147483647)], (2265, [0, 1], [0], 0)) := vOk_inI fun ρ η f0 f1 f2 f3 f4 f5 f6 => q_266_0 (n0 := ρ 2) (n1 := ρ 1) (n2 := ρ 0) (H0 := η 0) f6 f5 f4 f3 f2 f1 f0
theorem q_266_1 {n0 n1 n2 n3 : Int} {H0 H1 : gH} (f0 : n0 ≤ 2147483647) (f1 : (-2147483648) ≤ n0) (f2 : n1 ≤ 19) (f3 : 0 ≤ n1) (f4 : n2 = 285) (f5 : hWt T0 H0 ∧ preb_266 n2 n1 n0 H0) (f6 : 0 ≤ n0) (f7 : n3 ≤ 240) (f8 : 0 ≤ n3) (f9 : (hLe T0 H0 H1 ∧ hFr s_265.2.2.2.2 H0 H1 ∧ ((0 : Int) = 0 → H1.length = H0.length) ∧ hWt T0 H1) ∧ postb_265 n3 n2 n1 H0 H1) (f10 : n0 < n3) : n0 ≤ 239 := by
  unfold preb_266 at f5
  unfold postb_265 at f9
  have e0 : hV H1 328 = hV H0 328 := fRow f9.1.2.1 328 kR_265_328
  have e1 : hV H1 330 = hV H0 330 := fRow f9.1.2.1 330 kR_265_330
  have e2 : hV H1 332 = hV H0 332 := fRow f9.1.2.1 332 kR_265_332
  have e3 : (0 : Int) ≤ hV H0 285 64 ∧ hV H0 285 64 ≤ 20 := f5.1 285 64 _ _ kW_285_64
  try simp only [e0, e1, e2] at f9
  have p0 := f5.2.1
  have p1 := f5.2.2
  have r0_0 := f9.2
  clear e0 e1 e2
  omega
theorem c_266_s_1 : vOkm T0 (eP e_266 L_266 A_266 mu_266 none) 3 ([(42, [2, 3], [], 0), (1265, [3, 0, 1], [0, 1], 0), (90, [3], [], 0), (91, [3], [], 240), (33, [2], [], 0), (6000, [0, 1, 2], [0], 0), (0, [0], [], 285), (90, [1], [], 0), (91, [1], [], 19), (90, [2], [], -2147483648), (91, [2], [], 2147483647)], (91, [2], [], 239)) := vOk_inI fun ρ η f0 f1 f2 f3 f4 f5 f6 f7 f8 f9 f10 => q_266_1 (n0 := ρ 2) (n1 := ρ 1) (n2 := ρ 0) (n3 := ρ 3) (H0 := η 0) (H1 := η 1) f10 f9 f8 f7 f6 f5 f4 f3 f2 f1 f0
theorem q_266_2 {n0 n1 n2 n3 : Int} {H0 H1 : gH} (f0 : n0 ≤ 2147483647) (f1 : (-2147483648) ≤ n0) (f2 : n1 ≤ 19) (f3 : 0 ≤ n1) (f4 : n2 = 285) (f5 : hWt T0 H0 ∧ preb_266 n2 n1 n0 H0) (f6 : 0 ≤ n0) (f7 : n3 ≤ 240) (f8 : 0 ≤ n3) (f9 : (hLe T0 H0 H1 ∧ hFr s_265.2.2.2.2 H0 H1 ∧ ((0 : Int) = 0 → H1.length = H0.length) ∧ hWt T0 H1) ∧ postb_265 n3 n2 n1 H0 H1) (f10 : n0 < n3) : Ab_266_20 n2 n1 n0 n2 n1 n0 n1 n0 H0 H1 ∧ ∀ q, none = some q → mub_266_20 n2 n1 n0 n2 n1 n0 n1 n0 H0 H1 < q := by
  unfold preb_266 at f5
  unfold postb_265 at f9
  unfold Ab_266_20
  have e1 : hV H1 285 64 = hV H0 285 64 := (f9.1.2.1.1 285 64 kF_265_285_64)
  have e2 : hV H1 328 = hV H0 328 := fRow f9.1.2.1 328 kR_265_328
  have e3 : hV H1 330 = hV H0 330 := fRow f9.1.2.1 330 kR_265_330
  have e4 : hV H1 332 = hV H0 332 := fRow f9.1.2.1 332 kR_265_332
  have e5 : (0 : Int) ≤ hV H0 285 64 ∧ hV H0 285 64 ≤ 20 := f5.1 285 64 _ _ kW_285_64
  try simp only [e2, e3, e4] at f9
  try simp only [e1, e2, e3, e4]
  have p0 := f5.2.1
  have p1 := f5.2.2
  have r0_0 := f9.2
  clear e1 e2 e3 e4
  refine ⟨?_, fun q hq => ?_⟩
  · refine ⟨?_, ?_, ?_, ?_⟩ <;> first | assumption | omega | trivial
  · exact nomatch hq
theorem c_266_s_2 : vOkm T0 (eP e_266 L_266 A_266 mu_266 none) 3 ([(42, [2, 3], [], 0), (1265, [3, 0, 1], [0, 1], 0), (90, [3], [], 0), (91, [3], [], 240), (33, [2], [], 0), (6000, [0, 1, 2], [0], 0), (0, [0], [], 285), (90, [1], [], 0), (91, [1], [], 19), (90, [2], [], -2147483648), (91, [2], [], 2147483647)], (4000, [0, 1, 2, 1, 2], [1], 20)) := vOk_inI fun ρ η f0 f1 f2 f3 f4 f5 f6 f7 f8 f9 f10 => q_266_2 (n0 := ρ 2) (n1 := ρ 1) (n2 := ρ 0) (n3 := ρ 3) (H0 := η 0) (H1 := η 1) f10 f9 f8 f7 f6 f5 f4 f3 f2 f1 f0
def p_266_s : List vG := [([(33, [2], [], 0), (6000, [0, 1, 2], [0], 0), (0, [0], [], 285), (90, [1], [], 0), (91, [1], [], 19), (90, [2], [], -2147483648), (91, [2], [], 2147483647)], (2265, [0, 1], [0], 0)),
  ([(42, [2, 3], [], 0), (1265, [3, 0, 1], [0, 1], 0), (90, [3], [], 0), (91, [3], [], 240), (33, [2], [], 0), (6000, [0, 1, 2], [0], 0), (0, [0], [], 285), (90, [1], [], 0), (91, [1], [], 19), (90, [2], [], -2147483648), (91, [2], [], 2147483647)], (91, [2], [], 239)),
  ([(42, [2, 3], [], 0), (1265, [3, 0, 1], [0, 1], 0), (90, [3], [], 0), (91, [3], [], 240), (33, [2], [], 0), (6000, [0, 1, 2], [0], 0), (0, [0], [], 285), (90, [1], [], 0), (91, [1], [], 19), (90, [2], [], -2147483648), (91, [2], [], 2147483647)], (4000, [0, 1, 2, 1, 2], [1], 20))]
theorem r_266_s : vCovO true (eR0 e_266 L_266 cs_266 2000) p_266_s = true := by decide +kernel
theorem kR_266_328 : vFreeR s_266.2.2.2.2 328 = true := by decide +kernel
theorem kR_266_330 : vFreeR s_266.2.2.2.2 330 = true := by decide +kernel
theorem kR_266_332 : vFreeR s_266.2.2.2.2 332 = true := by decide +kernel
theorem kF_266_285_64 : vFree s_266.2.2.2.2 285 64 = true := by decide +kernel
theorem q_266_3 {q0 : Nat} {n0 n1 n2 n3 n4 n5 n6 n7 n8 n9 n10 n11 n12 n13 n14 n15 n16 : Int} {H0 H1 : gH} (f0 : n0 ≤ 239) (f1 : 0 ≤ n0) (f2 : n1 ≤ 19) (f3 : 0 ≤ n1) (f4 : n2 ≤ 2147483647) (f5 : (-2147483648) ≤ n2) (f6 : n3 ≤ 19) (f7 : 0 ≤ n3) (f8 : n4 = 285) (f9 : n5 ≤ 2147483647) (f10 : (-2147483648) ≤ n5) (f11 : n6 ≤ 19) (f12 : 0 ≤ n6) (f13 : n7 = 285) (f14 : (hLe T0 H0 H1 ∧ hFr s_266.2.2.2.2 H0 H1 ∧ hWt T0 H1) ∧ (Ab_266_20 n7 n6 n5 n4 n3 n2 n1 n0 H0 H1 ∧ preb_266 n7 n6 n5 H0) ∧ some q0 = some (mub_266_20 n7 n6 n5 n4 n3 n2 n1 n0 H0 H1)) (f15 : n8 = 328) (f16 : n8 = hV H1 (n4).toNat 66) (f17 : n9 ≤ 6) (f18 : 0 ≤ n9) (f19 : n9 = hV H1 (n8).toNat (n1).toNat) (f20 : n10 = 4) (f21 : n9 ≠ n10) (f22 : n11 = 328) (f23 : n11 = hV H1 (n4).toNat 66) (f24 : n12 ≤ 6) (f25 : 0 ≤ n12) (f26 : n12 = hV H1 (n11).toNat (n1).toNat) (f27 : n13 = 5) (f28 : n12 ≠ n13) (f29 : n14 = 240) (f30 : n15 = w32 (n14 * n1)) (f31 : n16 = w32 (n15 + n0)) : 0 ≤ n16 ∧ n16 < 4800 := by
  have g4 := f14.2.1.1
  unfold Ab_266_20 at g4
  have g3 := f14.2.1.2
  unfold preb_266 at g3
  have e0 : hV H1 328 = hV H0 328 := fRow f14.1.2.1 328 kR_266_328
  have e1 : n9 = hV H0 328 (n1).toNat := (by rw [f15] at f19; exact f19 : n9 = hV H1 328 (n1).toNat).trans ((congrFun e0 _))
  have e2 : n12 = hV H0 328 (n1).toNat := (by rw [f22] at f26; exact f26 : n12 = hV H1 328 (n1).toNat).trans ((congrFun e0 _))
  have e4 : hV H1 285 64 = hV H0 285 64 := (f14.1.2.1.1 285 64 kF_266_285_64)
  have e5 : hV H1 330 = hV H0 330 := fRow f14.1.2.1 330 kR_266_330
  have e6 : hV H1 332 = hV H0 332 := fRow f14.1.2.1 332 kR_266_332
  have e7 : (0 : Int) ≤ hV H0 285 64 ∧ hV H0 285 64 ≤ 20 := bTo e4 (f14.1.2.2 285 64 _ _ kW_285_64)
  try simp only [e4, e0, e5, e6] at g4
  have k0 := g4.1
  have k1 := g4.2.1
  have y0 := g4.2.2.1
  have y1 := g4.2.2.2
  have p0 := g3.1
  have p1 := g3.2
  clear g3
  clear g4
  clear f16 f19 f23 f26 e0 e4 e5 e6
  subst e1
  subst e2
  rw [f29] at f30
  try have t4 := SO4 p1 (s := (n1).toNat) (by omega) (by omega)
  try have st := sumF_step p1 (by omega) (k := (n1).toNat) (by omega) (by omega)
  try have sp := sumF_pos p1 20 (hV H0 332 (n1).toNat).toNat (by omega)
  first
  | (have ix0 : n15 = 240 * n1 := Eq.trans f30 (w32_iv (Iml 240 rfl (Iat f3 f2)) (by decide)); subst ix0; clear f30)
  | (have ix0 : n15 = 240 * n1 := Eq.trans f30 (w32_id (by omega) (by omega)); subst ix0; clear f30)
  | (unfold w32 at f30; have ix0 : n15 = 240 * n1 := (by omega); subst ix0)
  | skip
  first
  | (have ix1 : n16 = (240 * n1) + n0 := Eq.trans f31 (w32_iv (Iad (Iml 240 rfl (Iat f3 f2)) (Iat f1 f0)) (by decide)); subst ix1; clear f31)
  | (have ix1 : n16 = (240 * n1) + n0 := Eq.trans f31 (w32_id (by omega) (by omega)); subst ix1; clear f31)
  | (unfold w32 at f31; have ix1 : n16 = (240 * n1) + n0 := (by omega); subst ix1)
  | skip
  try unfold w32 at f30
  try unfold w32 at f31
  omega
theorem c_266_20_0 {q0 : Nat} : vOkm T0 (eP e_266 L_266 A_266 mu_266 (some q0)) 3 ([(1, [17, 16, 7], [], 0), (3, [16, 15, 6], [], 0), (0, [15], [], 240), (41, [12, 13], [], 0), (0, [13], [], 5), (22, [12, 11, 6], [1], 0), (90, [12], [], 0), (91, [12], [], 6), (20, [11, 3], [1], 66), (0, [11], [], 328), (41, [9, 10], [], 0), (0, [10], [], 4), (22, [9, 8, 6], [1], 0), (90, [9], [], 0), (91, [9], [], 6), (20, [8, 3], [1], 66), (0, [8], [], 328), (5000, [0, 1, 2, 3, 4, 5, 6, 7], [0, 1], 20), (0, [0], [], 285), (90, [1], [], 0), (91, [1], [], 19), (90, [2], [], -2147483648), (91, [2], [], 2147483647), (0, [3], [], 285), (90, [4], [], 0), (91, [4], [], 19), (90, [5], [], -2147483648), (91, [5], [], 2147483647), (90, [6], [], 0), (91, [6], [], 19), (90, [7], [], 0), (91, [7], [], 239)], (70, [17], [], 4800)) := vOk_inI fun ρ η f0 f1 f2 f3 f4 f5 f6 f7 f8 f9 f10 f11 f12 f13 f14 f15 f16 f17 f18 f19 f20 f21 f22 f23 f24 f25 f26 f27 f28 f29 f30 f31 => q_266_3 (q0 := q0) (n0 := ρ 7) (n1 := ρ 6) (n2 := ρ 5) (n3 := ρ 4) (n4 := ρ 3) (n5 := ρ 2) (n6 := ρ 1) (n7 := ρ 0) (n8 := ρ 8) (n9 := ρ 9) (n10 := ρ 10) (n11 := ρ 11) (n12 := ρ 12) (n13 := ρ 13) (n14 := ρ 15) (n15 := ρ 16) (n16 := ρ 17) (H0 := η 0) (H1 := η 1) f31 f30 f29 f28 f27 f26 f25 f24 f23 f22 f21 f20 f19 f18 f17 f16 f15 f14 f13 f12 f11 f10 f9 f8 f7 f6 f5 f4 f3 f2 f1 f0
theorem q_266_4 {q0 : Nat} {n0 n1 n2 n3 n4 n5 n6 n7 n8 n9 n10 n11 n12 n13 n14 n15 : Int} {H0 H1 : gH} (f0 : n0 ≤ 239) (f1 : 0 ≤ n0) (f2 : n1 ≤ 19) (f3 : 0 ≤ n1) (f4 : n2 ≤ 2147483647) (f5 : (-2147483648) ≤ n2) (f6 : n3 ≤ 19) (f7 : 0 ≤ n3) (f8 : n4 = 285) (f9 : n5 ≤ 2147483647) (f10 : (-2147483648) ≤ n5) (f11 : n6 ≤ 19) (f12 : 0 ≤ n6) (f13 : n7 = 285) (f14 : (hLe T0 H0 H1 ∧ hFr s_266.2.2.2.2 H0 H1 ∧ hWt T0 H1) ∧ (Ab_266_20 n7 n6 n5 n4 n3 n2 n1 n0 H0 H1 ∧ preb_266 n7 n6 n5 H0) ∧ some q0 = some (mub_266_20 n7 n6 n5 n4 n3 n2 n1 n0 H0 H1)) (f15 : n8 = 328) (f16 : n8 = hV H1 (n4).toNat 66) (f17 : n9 ≤ 6) (f18 : 0 ≤ n9) (f19 : n9 = hV H1 (n8).toNat (n1).toNat) (f20 : n10 = 4) (f21 : n9 = n10) (f22 : n11 = 330) (f23 : n11 = hV H1 (n4).toNat 68) (f24 : n12 ≤ 2147483647) (f25 : (-2147483648) ≤ n12) (f26 : n12 = hV H1 (n11).toNat (n1).toNat) (f27 : n13 = w32 (n0 + n12)) (f28 : n14 = 332) (f29 : n14 = hV H1 (n4).toNat 70) (f30 : n15 ≤ 19) (f31 : (-1) ≤ n15) (f32 : n15 = hV H1 (n14).toNat (n1).toNat) : 0 ≤ n15 := by
  have g4 := f14.2.1.1
  unfold Ab_266_20 at g4
  have g3 := f14.2.1.2
  unfold preb_266 at g3
  have e0 : hV H1 328 = hV H0 328 := fRow f14.1.2.1 328 kR_266_328
  have e1 : n9 = hV H0 328 (n1).toNat := (by rw [f15] at f19; exact f19 : n9 = hV H1 328 (n1).toNat).trans ((congrFun e0 _))
  have e2 : hV H1 330 = hV H0 330 := fRow f14.1.2.1 330 kR_266_330
  have e3 : n12 = hV H0 330 (n1).toNat := (by rw [f22] at f26; exact f26 : n12 = hV H1 330 (n1).toNat).trans ((congrFun e2 _))
  have e4 : hV H1 332 = hV H0 332 := fRow f14.1.2.1 332 kR_266_332
  have e5 : n15 = hV H0 332 (n1).toNat := (by rw [f28] at f32; exact f32 : n15 = hV H1 332 (n1).toNat).trans ((congrFun e4 _))
  have e7 : hV H1 285 64 = hV H0 285 64 := (f14.1.2.1.1 285 64 kF_266_285_64)
  have e8 : (0 : Int) ≤ hV H0 285 64 ∧ hV H0 285 64 ≤ 20 := bTo e7 (f14.1.2.2 285 64 _ _ kW_285_64)
  try simp only [e7, e0, e2, e4] at g4
  have k0 := g4.1
  have k1 := g4.2.1
  have y0 := g4.2.2.1
  have y1 := g4.2.2.2
  have p0 := g3.1
  have p1 := g3.2
  clear g3
  clear g4
  clear f16 f19 f23 f26 f29 f32 e0 e2 e4 e7
  subst e1
  subst e3
  subst e5
  unfold w32 at f27
  try have t4 := SO4 p1 (s := (n1).toNat) (by omega) (by omega)
  try have st := sumF_step p1 (by omega) (k := (n1).toNat) (by omega) (by omega)
  try have sp := sumF_pos p1 20 (hV H0 332 (n1).toNat).toNat (by omega)
  omega
theorem c_266_20_1 {q0 : Nat} : vOkm T0 (eP e_266 L_266 A_266 mu_266 (some q0)) 3 ([(22, [15, 14, 6], [1], 0), (90, [15], [], -1), (91, [15], [], 19), (20, [14, 3], [1], 70), (0, [14], [], 332), (1, [13, 7, 12], [], 0), (22, [12, 11, 6], [1], 0), (90, [12], [], -2147483648), (91, [12], [], 2147483647), (20, [11, 3], [1], 68), (0, [11], [], 330), (40, [9, 10], [], 0), (0, [10], [], 4), (22, [9, 8, 6], [1], 0), (90, [9], [], 0), (91, [9], [], 6), (20, [8, 3], [1], 66), (0, [8], [], 328), (5000, [0, 1, 2, 3, 4, 5, 6, 7], [0, 1], 20), (0, [0], [], 285), (90, [1], [], 0), (91, [1], [], 19), (90, [2], [], -2147483648), (91, [2], [], 2147483647), (0, [3], [], 285), (90, [4], [], 0), (91, [4], [], 19), (90, [5], [], -2147483648), (91, [5], [], 2147483647), (90, [6], [], 0), (91, [6], [], 19), (90, [7], [], 0), (91, [7], [], 239)], (90, [15], [], 0)) := vOk_inI fun ρ η f0 f1 f2 f3 f4 f5 f6 f7 f8 f9 f10 f11 f12 f13 f14 f15 f16 f17 f18 f19 f20 f21 f22 f23 f24 f25 f26 f27 f28 f29 f30 f31 f32 => q_266_4 (q0 := q0) (n0 := ρ 7) (n1 := ρ 6) (n2 := ρ 5) (n3 := ρ 4) (n4 := ρ 3) (n5 := ρ 2) (n6 := ρ 1) (n7 := ρ 0) (n8 := ρ 8) (n9 := ρ 9) (n10 := ρ 10) (n11 := ρ 11) (n12 := ρ 12) (n13 := ρ 13) (n14 := ρ 14) (n15 := ρ 15) (H0 := η 0) (H1 := η 1) f32 f31 f30 f29 f28 f27 f26 f25 f24 f23 f22 f21 f20 f19 f18 f17 f16 f15 f14 f13 f12 f11 f10 f9 f8 f7 f6 f5 f4 f3 f2 f1 f0
theorem q_266_5 {q0 : Nat} {n0 n1 n2 n3 n4 n5 n6 n7 n8 n9 n10 n11 n12 n13 n14 n15 : Int} {H0 H1 : gH} (f0 : n0 ≤ 239) (f1 : 0 ≤ n0) (f2 : n1 ≤ 19) (f3 : 0 ≤ n1) (f4 : n2 ≤ 2147483647) (f5 : (-2147483648) ≤ n2) (f6 : n3 ≤ 19) (f7 : 0 ≤ n3) (f8 : n4 = 285) (f9 : n5 ≤ 2147483647) (f10 : (-2147483648) ≤ n5) (f11 : n6 ≤ 19) (f12 : 0 ≤ n6) (f13 : n7 = 285) (f14 : (hLe T0 H0 H1 ∧ hFr s_266.2.2.2.2 H0 H1 ∧ hWt T0 H1) ∧ (Ab_266_20 n7 n6 n5 n4 n3 n2 n1 n0 H0 H1 ∧ preb_266 n7 n6 n5 H0) ∧ some q0 = some (mub_266_20 n7 n6 n5 n4 n3 n2 n1 n0 H0 H1)) (f15 : n8 = 328) (f16 : n8 = hV H1 (n4).toNat 66) (f17 : n9 ≤ 6) (f18 : 0 ≤ n9) (f19 : n9 = hV H1 (n8).toNat (n1).toNat) (f20 : n10 = 4) (f21 : n9 = n10) (f22 : n11 = 330) (f23 : n11 = hV H1 (n4).toNat 68) (f24 : n12 ≤ 2147483647) (f25 : (-2147483648) ≤ n12) (f26 : n12 = hV H1 (n11).toNat (n1).toNat) (f27 : n13 = w32 (n0 + n12)) (f28 : n14 = 332) (f29 : n14 = hV H1 (n4).toNat 70) (f30 : n15 ≤ 19) (f31 : (-1) ≤ n15) (f32 : n15 = hV H1 (n14).toNat (n1).toNat) : 0 ≤ n13 := by
  have g4 := f14.2.1.1
  unfold Ab_266_20 at g4
  have g3 := f14.2.1.2
  unfold preb_266 at g3
  have e0 : hV H1 328 = hV H0 328 := fRow f14.1.2.1 328 kR_266_328
  have e1 : n9 = hV H0 328 (n1).toNat := (by rw [f15] at f19; exact f19 : n9 = hV H1 328 (n1).toNat).trans ((congrFun e0 _))
  have e2 : hV H1 330 = hV H0 330 := fRow f14.1.2.1 330 kR_266_330
  have e3 : n12 = hV H0 330 (n1).toNat := (by rw [f22] at f26; exact f26 : n12 = hV H1 330 (n1).toNat).trans ((congrFun e2 _))
  have e4 : hV H1 332 = hV H0 332 := fRow f14.1.2.1 332 kR_266_332
  have e5 : n15 = hV H0 332 (n1).toNat := (by rw [f28] at f32; exact f32 : n15 = hV H1 332 (n1).toNat).trans ((congrFun e4 _))
  have e7 : hV H1 285 64 = hV H0 285 64 := (f14.1.2.1.1 285 64 kF_266_285_64)
  have e8 : (0 : Int) ≤ hV H0 285 64 ∧ hV H0 285 64 ≤ 20 := bTo e7 (f14.1.2.2 285 64 _ _ kW_285_64)
  try simp only [e7, e0, e2, e4] at g4
  have k0 := g4.1
  have k1 := g4.2.1
  have y0 := g4.2.2.1
  have y1 := g4.2.2.2
  have p0 := g3.1
  have p1 := g3.2
  clear g3
  clear g4
  clear f16 f19 f23 f26 f29 f32 e0 e2 e4 e7
  subst e1
  subst e3
  subst e5
  try have t4 := SO4 p1 (s := (n1).toNat) (by omega) (by omega)
  try have st := sumF_step p1 (by omega) (k := (n1).toNat) (by omega) (by omega)
  try have sp := sumF_pos p1 20 (hV H0 332 (n1).toNat).toNat (by omega)
  first
  | (have ix0 : n13 = n0 + hV H0 330 (n1).toNat := Eq.trans f27 (w32_id (by omega) (by omega)); subst ix0; clear f27)
  | (unfold w32 at f27; have ix0 : n13 = n0 + hV H0 330 (n1).toNat := (by omega); subst ix0)
  | skip
  try unfold w32 at f27
  omega
theorem c_266_20_2 {q0 : Nat} : vOkm T0 (eP e_266 L_266 A_266 mu_266 (some q0)) 3 ([(22, [15, 14, 6], [1], 0), (90, [15], [], -1), (91, [15], [], 19), (20, [14, 3], [1], 70), (0, [14], [], 332), (1, [13, 7, 12], [], 0), (22, [12, 11, 6], [1], 0), (90, [12], [], -2147483648), (91, [12], [], 2147483647), (20, [11, 3], [1], 68), (0, [11], [], 330), (40, [9, 10], [], 0), (0, [10], [], 4), (22, [9, 8, 6], [1], 0), (90, [9], [], 0), (91, [9], [], 6), (20, [8, 3], [1], 66), (0, [8], [], 328), (5000, [0, 1, 2, 3, 4, 5, 6, 7], [0, 1], 20), (0, [0], [], 285), (90, [1], [], 0), (91, [1], [], 19), (90, [2], [], -2147483648), (91, [2], [], 2147483647), (0, [3], [], 285), (90, [4], [], 0), (91, [4], [], 19), (90, [5], [], -2147483648), (91, [5], [], 2147483647), (90, [6], [], 0), (91, [6], [], 19), (90, [7], [], 0), (91, [7], [], 239)], (90, [13], [], 0)) := vOk_inI fun ρ η f0 f1 f2 f3 f4 f5 f6 f7 f8 f9 f10 f11 f12 f13 f14 f15 f16 f17 f18 f19 f20 f21 f22 f23 f24 f25 f26 f27 f28 f29 f30 f31 f32 => q_266_5 (q0 := q0) (n0 := ρ 7) (n1 := ρ 6) (n2 := ρ 5) (n3 := ρ 4) (n4 := ρ 3) (n5 := ρ 2) (n6 := ρ 1) (n7 := ρ 0) (n8 := ρ 8) (n9 := ρ 9) (n10 := ρ 10) (n11 := ρ 11) (n12 := ρ 12) (n13 := ρ 13) (n14 := ρ 14) (n15 := ρ 15) (H0 := η 0) (H1 := η 1) f32 f31 f30 f29 f28 f27 f26 f25 f24 f23 f22 f21 f20 f19 f18 f17 f16 f15 f14 f13 f12 f11 f10 f9 f8 f7 f6 f5 f4 f3 f2 f1 f0
theorem q_266_6 {q0 : Nat} {n0 n1 n2 n3 n4 n5 n6 n7 n8 n9 n10 n11 n12 n13 n14 n15 : Int} {H0 H1 : gH} (f0 : n0 ≤ 239) (f1 : 0 ≤ n0) (f2 : n1 ≤ 19) (f3 : 0 ≤ n1) (f4 : n2 ≤ 2147483647) (f5 : (-2147483648) ≤ n2) (f6 : n3 ≤ 19) (f7 : 0 ≤ n3) (f8 : n4 = 285) (f9 : n5 ≤ 2147483647) (f10 : (-2147483648) ≤ n5) (f11 : n6 ≤ 19) (f12 : 0 ≤ n6) (f13 : n7 = 285) (f14 : (hLe T0 H0 H1 ∧ hFr s_266.2.2.2.2 H0 H1 ∧ hWt T0 H1) ∧ (Ab_266_20 n7 n6 n5 n4 n3 n2 n1 n0 H0 H1 ∧ preb_266 n7 n6 n5 H0) ∧ some q0 = some (mub_266_20 n7 n6 n5 n4 n3 n2 n1 n0 H0 H1)) (f15 : n8 = 328) (f16 : n8 = hV H1 (n4).toNat 66) (f17 : n9 ≤ 6) (f18 : 0 ≤ n9) (f19 : n9 = hV H1 (n8).toNat (n1).toNat) (f20 : n10 = 4) (f21 : n9 = n10) (f22 : n11 = 330) (f23 : n11 = hV H1 (n4).toNat 68) (f24 : n12 ≤ 2147483647) (f25 : (-2147483648) ≤ n12) (f26 : n12 = hV H1 (n11).toNat (n1).toNat) (f27 : n13 = w32 (n0 + n12)) (f28 : n14 = 332) (f29 : n14 = hV H1 (n4).toNat 70) (f30 : n15 ≤ 19) (f31 : (-1) ≤ n15) (f32 : n15 = hV H1 (n14).toNat (n1).toNat) : n13 ≤ 239 := by
  have g4 := f14.2.1.1
  unfold Ab_266_20 at g4
  have g3 := f14.2.1.2
  unfold preb_266 at g3
  have e0 : hV H1 328 = hV H0 328 := fRow f14.1.2.1 328 kR_266_328
  have e1 : n9 = hV H0 328 (n1).toNat := (by rw [f15] at f19; exact f19 : n9 = hV H1 328 (n1).toNat).trans ((congrFun e0 _))
  have e2 : hV H1 330 = hV H0 330 := fRow f14.1.2.1 330 kR_266_330
  have e3 : n12 = hV H0 330 (n1).toNat := (by rw [f22] at f26; exact f26 : n12 = hV H1 330 (n1).toNat).trans ((congrFun e2 _))
  have e4 : hV H1 332 = hV H0 332 := fRow f14.1.2.1 332 kR_266_332
  have e5 : n15 = hV H0 332 (n1).toNat := (by rw [f28] at f32; exact f32 : n15 = hV H1 332 (n1).toNat).trans ((congrFun e4 _))
  have e7 : hV H1 285 64 = hV H0 285 64 := (f14.1.2.1.1 285 64 kF_266_285_64)
  have e8 : (0 : Int) ≤ hV H0 285 64 ∧ hV H0 285 64 ≤ 20 := bTo e7 (f14.1.2.2 285 64 _ _ kW_285_64)
  try simp only [e7, e0, e2, e4] at g4
  have k0 := g4.1
  have k1 := g4.2.1
  have y0 := g4.2.2.1
  have y1 := g4.2.2.2
  have p0 := g3.1
  have p1 := g3.2
  clear g3
  clear g4
  clear f16 f19 f23 f26 f29 f32 e0 e2 e4 e7
  subst e1
  subst e3
  subst e5
  try have t4 := SO4 p1 (s := (n1).toNat) (by omega) (by omega)
  try have st := sumF_step p1 (by omega) (k := (n1).toNat) (by omega) (by omega)
  try have sp := sumF_pos p1 20 (hV H0 332 (n1).toNat).toNat (by omega)
  first
  | (have ix0 : n13 = n0 + hV H0 330 (n1).toNat := Eq.trans f27 (w32_id (by omega) (by omega)); subst ix0; clear f27)
  | (unfold w32 at f27; have ix0 : n13 = n0 + hV H0 330 (n1).toNat := (by omega); subst ix0)
  | skip
  try unfold w32 at f27
  omega
theorem c_266_20_3 {q0 : Nat} : vOkm T0 (eP e_266 L_266 A_266 mu_266 (some q0)) 3 ([(22, [15, 14, 6], [1], 0), (90, [15], [], -1), (91, [15], [], 19), (20, [14, 3], [1], 70), (0, [14], [], 332), (1, [13, 7, 12], [], 0), (22, [12, 11, 6], [1], 0), (90, [12], [], -2147483648), (91, [12], [], 2147483647), (20, [11, 3], [1], 68), (0, [11], [], 330), (40, [9, 10], [], 0), (0, [10], [], 4), (22, [9, 8, 6], [1], 0), (90, [9], [], 0), (91, [9], [], 6), (20, [8, 3], [1], 66), (0, [8], [], 328), (5000, [0, 1, 2, 3, 4, 5, 6, 7], [0, 1], 20), (0, [0], [], 285), (90, [1], [], 0), (91, [1], [], 19), (90, [2], [], -2147483648), (91, [2], [], 2147483647), (0, [3], [], 285), (90, [4], [], 0), (91, [4], [], 19), (90, [5], [], -2147483648), (91, [5], [], 2147483647), (90, [6], [], 0), (91, [6], [], 19), (90, [7], [], 0), (91, [7], [], 239)], (91, [13], [], 239)) := vOk_inI fun ρ η f0 f1 f2 f3 f4 f5 f6 f7 f8 f9 f10 f11 f12 f13 f14 f15 f16 f17 f18 f19 f20 f21 f22 f23 f24 f25 f26 f27 f28 f29 f30 f31 f32 => q_266_6 (q0 := q0) (n0 := ρ 7) (n1 := ρ 6) (n2 := ρ 5) (n3 := ρ 4) (n4 := ρ 3) (n5 := ρ 2) (n6 := ρ 1) (n7 := ρ 0) (n8 := ρ 8) (n9 := ρ 9) (n10 := ρ 10) (n11 := ρ 11) (n12 := ρ 12) (n13 := ρ 13) (n14 := ρ 14) (n15 := ρ 15) (H0 := η 0) (H1 := η 1) f32 f31 f30 f29 f28 f27 f26 f25 f24 f23 f22 f21 f20 f19 f18 f17 f16 f15 f14 f13 f12 f11 f10 f9 f8 f7 f6 f5 f4 f3 f2 f1 f0
theorem q_266_7 {q0 : Nat} {n0 n1 n2 n3 n4 n5 n6 n7 n8 n9 n10 n11 n12 n13 n14 n15 : Int} {H0 H1 : gH} (f0 : n0 ≤ 239) (f1 : 0 ≤ n0) (f2 : n1 ≤ 19) (f3 : 0 ≤ n1) (f4 : n2 ≤ 2147483647) (f5 : (-2147483648) ≤ n2) (f6 : n3 ≤ 19) (f7 : 0 ≤ n3) (f8 : n4 = 285) (f9 : n5 ≤ 2147483647) (f10 : (-2147483648) ≤ n5) (f11 : n6 ≤ 19) (f12 : 0 ≤ n6) (f13 : n7 = 285) (f14 : (hLe T0 H0 H1 ∧ hFr s_266.2.2.2.2 H0 H1 ∧ hWt T0 H1) ∧ (Ab_266_20 n7 n6 n5 n4 n3 n2 n1 n0 H0 H1 ∧ preb_266 n7 n6 n5 H0) ∧ some q0 = some (mub_266_20 n7 n6 n5 n4 n3 n2 n1 n0 H0 H1)) (f15 : n8 = 328) (f16 : n8 = hV H1 (n4).toNat 66) (f17 : n9 ≤ 6) (f18 : 0 ≤ n9) (f19 : n9 = hV H1 (n8).toNat (n1).toNat) (f20 : n10 = 4) (f21 : n9 = n10) (f22 : n11 = 330) (f23 : n11 = hV H1 (n4).toNat 68) (f24 : n12 ≤ 2147483647) (f25 : (-2147483648) ≤ n12) (f26 : n12 = hV H1 (n11).toNat (n1).toNat) (f27 : n13 = w32 (n0 + n12)) (f28 : n14 = 332) (f29 : n14 = hV H1 (n4).toNat 70) (f30 : n15 ≤ 19) (f31 : (-1) ≤ n15) (f32 : n15 = hV H1 (n14).toNat (n1).toNat) : Ab_266_20 n7 n6 n5 n4 n3 n2 n15 n13 H0 H1 ∧ ∀ q, some q0 = some q → mub_266_20 n7 n6 n5 n4 n3 n2 n15 n13 H0 H1 < q := by
  have g4 := f14.2.1.1
  unfold Ab_266_20 at g4
  have g3 := f14.2.1.2
  unfold preb_266 at g3
  have g5 := Option.some.inj f14.2.2
  unfold mub_266_20 at g5
  unfold Ab_266_20
  unfold mub_266_20
  have e0 : hV H1 328 = hV H0 328 := fRow f14.1.2.1 328 kR_266_328
  have e1 : n9 = hV H0 328 (n1).toNat := (by rw [f15] at f19; exact f19 : n9 = hV H1 328 (n1).toNat).trans ((congrFun e0 _))
  have e2 : hV H1 330 = hV H0 330 := fRow f14.1.2.1 330 kR_266_330
  have e3 : n12 = hV H0 330 (n1).toNat := (by rw [f22] at f26; exact f26 : n12 = hV H1 330 (n1).toNat).trans ((congrFun e2 _))
  have e4 : hV H1 332 = hV H0 332 := fRow f14.1.2.1 332 kR_266_332
  have e5 : n15 = hV H0 332 (n1).toNat := (by rw [f28] at f32; exact f32 : n15 = hV H1 332 (n1).toNat).trans ((congrFun e4 _))
  have e7 : hV H1 285 64 = hV H0 285 64 := (f14.1.2.1.1 285 64 kF_266_285_64)
  have e8 : (0 : Int) ≤ hV H0 285 64 ∧ hV H0 285 64 ≤ 20 := bTo e7 (f14.1.2.2 285 64 _ _ kW_285_64)
  try simp only [e7, e0, e2, e4] at g4
  try simp only [e7, e0, e2, e4]
  have k0 := g4.1
  have k1 := g4.2.1
  have y0 := g4.2.2.1
  have y1 := g4.2.2.2
  have p0 := g3.1
  have p1 := g3.2
  clear g3
  clear g4
  clear f16 f19 f23 f26 f29 f32 e0 e2 e4 e7
  subst e1
  subst e3
  subst e5
  try have t4 := SO4 p1 (s := (n1).toNat) (by omega) (by omega)
  try have st := sumF_step p1 (by omega) (k := (n1).toNat) (by omega) (by omega)
  try have sp := sumF_pos p1 20 (hV H0 332 (n1).toNat).toNat (by omega)
  first
  | (have ix0 : n13 = n0 + hV H0 330 (n1).toNat := Eq.trans f27 (w32_id (by omega) (by omega)); subst ix0; clear f27)
  | (unfold w32 at f27; have ix0 : n13 = n0 + hV H0 330 (n1).toNat := (by omega); subst ix0)
  | skip
  try unfold w32 at f27
  refine ⟨?_, fun q hq => ?_⟩
  · refine ⟨?_, ?_, ?_, ?_⟩ <;> first | assumption | omega | trivial
  · have g6 := Option.some.inj hq
    subst g6
    omega
theorem c_266_20_4 {q0 : Nat} : vOkm T0 (eP e_266 L_266 A_266 mu_266 (some q0)) 3 ([(22, [15, 14, 6], [1], 0), (90, [15], [], -1), (91, [15], [], 19), (20, [14, 3], [1], 70), (0, [14], [], 332), (1, [13, 7, 12], [], 0), (22, [12, 11, 6], [1], 0), (90, [12], [], -2147483648), (91, [12], [], 2147483647), (20, [11, 3], [1], 68), (0, [11], [], 330), (40, [9, 10], [], 0), (0, [10], [], 4), (22, [9, 8, 6], [1], 0), (90, [9], [], 0), (91, [9], [], 6), (20, [8, 3], [1], 66), (0, [8], [], 328), (5000, [0, 1, 2, 3, 4, 5, 6, 7], [0, 1], 20), (0, [0], [], 285), (90, [1], [], 0), (91, [1], [], 19), (90, [2], [], -2147483648), (91, [2], [], 2147483647), (0, [3], [], 285), (90, [4], [], 0), (91, [4], [], 19), (90, [5], [], -2147483648), (91, [5], [], 2147483647), (90, [6], [], 0), (91, [6], [], 19), (90, [7], [], 0), (91, [7], [], 239)], (4000, [3, 4, 5, 15, 13], [1], 20)) := vOk_inI fun ρ η f0 f1 f2 f3 f4 f5 f6 f7 f8 f9 f10 f11 f12 f13 f14 f15 f16 f17 f18 f19 f20 f21 f22 f23 f24 f25 f26 f27 f28 f29 f30 f31 f32 => q_266_7 (q0 := q0) (n0 := ρ 7) (n1 := ρ 6) (n2 := ρ 5) (n3 := ρ 4) (n4 := ρ 3) (n5 := ρ 2) (n6 := ρ 1) (n7 := ρ 0) (n8 := ρ 8) (n9 := ρ 9) (n10 := ρ 10) (n11 := ρ 11) (n12 := ρ 12) (n13 := ρ 13) (n14 := ρ 14) (n15 := ρ 15) (H0 := η 0) (H1 := η 1) f32 f31 f30 f29 f28 f27 f26 f25 f24 f23 f22 f21 f20 f19 f18 f17 f16 f15 f14 f13 f12 f11 f10 f9 f8 f7 f6 f5 f4 f3 f2 f1 f0
def p_266_20 : List vG := [([(1, [17, 16, 7], [], 0), (3, [16, 15, 6], [], 0), (0, [15], [], 240), (41, [12, 13], [], 0), (0, [13], [], 5), (22, [12, 11, 6], [1], 0), (90, [12], [], 0), (91, [12], [], 6), (20, [11, 3], [1], 66), (0, [11], [], 328), (41, [9, 10], [], 0), (0, [10], [], 4), (22, [9, 8, 6], [1], 0), (90, [9], [], 0), (91, [9], [], 6), (20, [8, 3], [1], 66), (0, [8], [], 328), (5000, [0, 1, 2, 3, 4, 5, 6, 7], [0, 1], 20), (0, [0], [], 285), (90, [1], [], 0), (91, [1], [], 19), (90, [2], [], -2147483648), (91, [2], [], 2147483647), (0, [3], [], 285), (90, [4], [], 0), (91, [4], [], 19), (90, [5], [], -2147483648), (91, [5], [], 2147483647), (90, [6], [], 0), (91, [6], [], 19), (90, [7], [], 0), (91, [7], [], 239)], (70, [17], [], 4800)),
  ([(22, [15, 14, 6], [1], 0), (90, [15], [], -1), (91, [15], [], 19), (20, [14, 3], [1], 70), (0, [14], [], 332), (1, [13, 7, 12], [], 0), (22, [12, 11, 6], [1], 0), (90, [12], [], -2147483648), (91, [12], [], 2147483647), (20, [11, 3], [1], 68), (0, [11], [], 330), (40, [9, 10], [], 0), (0, [10], [], 4), (22, [9, 8, 6], [1], 0), (90, [9], [], 0), (91, [9], [], 6), (20, [8, 3], [1], 66), (0, [8], [], 328), (5000, [0, 1, 2, 3, 4, 5, 6, 7], [0, 1], 20), (0, [0], [], 285), (90, [1], [], 0), (91, [1], [], 19), (90, [2], [], -2147483648), (91, [2], [], 2147483647), (0, [3], [], 285), (90, [4], [], 0), (91, [4], [], 19), (90, [5], [], -2147483648), (91, [5], [], 2147483647), (90, [6], [], 0), (91, [6], [], 19), (90, [7], [], 0), (91, [7], [], 239)], (90, [15], [], 0)),
  ([(22, [15, 14, 6], [1], 0), (90, [15], [], -1), (91, [15], [], 19), (20, [14, 3], [1], 70), (0, [14], [], 332), (1, [13, 7, 12], [], 0), (22, [12, 11, 6], [1], 0), (90, [12], [], -2147483648), (91, [12], [], 2147483647), (20, [11, 3], [1], 68), (0, [11], [], 330), (40, [9, 10], [], 0), (0, [10], [], 4), (22, [9, 8, 6], [1], 0), (90, [9], [], 0), (91, [9], [], 6), (20, [8, 3], [1], 66), (0, [8], [], 328), (5000, [0, 1, 2, 3, 4, 5, 6, 7], [0, 1], 20), (0, [0], [], 285), (90, [1], [], 0), (91, [1], [], 19), (90, [2], [], -2147483648), (91, [2], [], 2147483647), (0, [3], [], 285), (90, [4], [], 0), (91, [4], [], 19), (90, [5], [], -2147483648), (91, [5], [], 2147483647), (90, [6], [], 0), (91, [6], [], 19), (90, [7], [], 0), (91, [7], [], 239)], (90, [13], [], 0)),
  ([(22, [15, 14, 6], [1], 0), (90, [15], [], -1), (91, [15], [], 19), (20, [14, 3], [1], 70), (0, [14], [], 332), (1, [13, 7, 12], [], 0), (22, [12, 11, 6], [1], 0), (90, [12], [], -2147483648), (91, [12], [], 2147483647), (20, [11, 3], [1], 68), (0, [11], [], 330), (40, [9, 10], [], 0), (0, [10], [], 4), (22, [9, 8, 6], [1], 0), (90, [9], [], 0), (91, [9], [], 6), (20, [8, 3], [1], 66), (0, [8], [], 328), (5000, [0, 1, 2, 3, 4, 5, 6, 7], [0, 1], 20), (0, [0], [], 285), (90, [1], [], 0), (91, [1], [], 19), (90, [2], [], -2147483648), (91, [2], [], 2147483647), (0, [3], [], 285), (90, [4], [], 0), (91, [4], [], 19), (90, [5], [], -2147483648), (91, [5], [], 2147483647), (90, [6], [], 0), (91, [6], [], 19), (90, [7], [], 0), (91, [7], [], 239)], (91, [13], [], 239)),
  ([(22, [15, 14, 6], [1], 0), (90, [15], [], -1), (91, [15], [], 19), (20, [14, 3], [1], 70), (0, [14], [], 332), (1, [13, 7, 12], [], 0), (22, [12, 11, 6], [1], 0), (90, [12], [], -2147483648), (91, [12], [], 2147483647), (20, [11, 3], [1], 68), (0, [11], [], 330), (40, [9, 10], [], 0), (0, [10], [], 4), (22, [9, 8, 6], [1], 0), (90, [9], [], 0), (91, [9], [], 6), (20, [8, 3], [1], 66), (0, [8], [], 328), (5000, [0, 1, 2, 3, 4, 5, 6, 7], [0, 1], 20), (0, [0], [], 285), (90, [1], [], 0), (91, [1], [], 19), (90, [2], [], -2147483648), (91, [2], [], 2147483647), (0, [3], [], 285), (90, [4], [], 0), (91, [4], [], 19), (90, [5], [], -2147483648), (91, [5], [], 2147483647), (90, [6], [], 0), (91, [6], [], 19), (90, [7], [], 0), (91, [7], [], 239)], (4000, [3, 4, 5, 15, 13], [1], 20))]
theorem r_266_20 : vCovO true (eRc e_266 L_266 cs_266 2000 (20, [(0, (3, 12, 285, 0)), (1, (0, 0, 19, 0)), (2, (0, -2147483648, 2147483647, 0)), (3, (0, 0, 19, 0)), (4, (0, 0, 239, 0))])) p_266_20 = true := by decide +kernel
theorem m_266 (d : Nat) : eC e_266 (d + 2) := eC_ok (e := e_266) (L := L_266) (cs := cs_266) (n := 2000) (d := d + 1) (A := A_266) (μ := mu_266) (tp := true) (p0 := p_266_s) rfl ⟨m_265 d, trivial⟩ rfl (.inl rfl) (by decide +kernel) (fun _ => post0_ok) r_266_s (allC c_266_s_0 (allC c_266_s_1 (allC c_266_s_2 allN))) (allC (.inl ⟨p_266_20, r_266_20, fun q0 => (allC c_266_20_0 (allC c_266_20_1 (allC c_266_20_2 (allC c_266_20_3 (allC c_266_20_4 allN)))))⟩) allN)
/- MixStageModel.length (I)I -/
noncomputable def s_267 : vM := ([(3, 12, 285, 0), (0, -2147483648, 2147483647, 0)], (0, -2147483648, 2147483647, 0), 1, 0, [(572, 0)])
def preb_267 (a0 a1 : Int) (h : gH) : Prop := SO h
def pre_267 : List Int → gH → Prop := fun xs h => match xs with
  | [a0, a1] => preb_267 a0 a1 h
  | _ => False
noncomputable def e_267 : vE := (267, s_267, pre_267, post0)
noncomputable def L_267 : List vE := [e_250, e_265]
def cs_267 : List vC := []
def A_267 : Int → List Int → gH → gH → Prop := fun c xs h0 h => True
def mu_267 : Int → List Int → gH → gH → Nat := fun c xs h0 h => 0
theorem q_267_0 {n0 n1 n2 : Int} {H0 H1 : gH} (f0 : n0 ≤ 2147483647) (f1 : (-2147483648) ≤ n0) (f2 : n1 = 285) (f3 : hWt T0 H0 ∧ preb_267 n1 n0 H0) (f4 : n2 ≤ 1) (f5 : 0 ≤ n2) (f6 : (hLe T0 H0 H1 ∧ hFr s_250.2.2.2.2 H0 H1 ∧ ((0 : Int) = 0 → H1.length = H0.length) ∧ hWt T0 H1) ∧ postb_250 n2 n1 n0 H0 H1) (f7 : n2 ≠ 0) : 0 ≤ n0 := by
  unfold preb_267 at f3
  unfold postb_250 at f6
  have e1 : hV H1 285 64 = hV H0 285 64 := (f6.1.2.1.1 285 64 kF_250_285_64)
  have e2 : (0 : Int) ≤ hV H0 285 64 ∧ hV H0 285 64 ≤ 20 := bTo e1 (f6.1.2.2.2 285 64 _ _ kW_285_64)
  try simp only [e1] at f6
  have p0 := f3.2
  have r0_0 := f6.2
  clear e1
  omega
theorem c_267_s_0 : vOkm T0 (eP e_267 L_267 A_267 mu_267 none) 2 ([(31, [2], [], 0), (1250, [2, 0, 1], [0, 1], 0), (90, [2], [], 0), (91, [2], [], 1), (6000, [0, 1], [0], 0), (0, [0], [], 285), (90, [1], [], -2147483648), (91, [1], [], 2147483647)], (90, [1], [], 0)) := vOk_inI fun ρ η f0 f1 f2 f3 f4 f5 f6 f7 => q_267_0 (n0 := ρ 1) (n1 := ρ 0) (n2 := ρ 2) (H0 := η 0) (H1 := η 1) f7 f6 f5 f4 f3 f2 f1 f0
theorem q_267_1 {n0 n1 n2 : Int} {H0 H1 : gH} (f0 : n0 ≤ 2147483647) (f1 : (-2147483648) ≤ n0) (f2 : n1 = 285) (f3 : hWt T0 H0 ∧ preb_267 n1 n0 H0) (f4 : n2 ≤ 1) (f5 : 0 ≤ n2) (f6 : (hLe T0 H0 H1 ∧ hFr s_250.2.2.2.2 H0 H1 ∧ ((0 : Int) = 0 → H1.length = H0.length) ∧ hWt T0 H1) ∧ postb_250 n2 n1 n0 H0 H1) (f7 : n2 ≠ 0) : n0 ≤ 19 := by
  unfold preb_267 at f3
  unfold postb_250 at f6
  have e1 : hV H1 285 64 = hV H0 285 64 := (f6.1.2.1.1 285 64 kF_250_285_64)
  have e2 : (0 : Int) ≤ hV H0 285 64 ∧ hV H0 285 64 ≤ 20 := bTo e1 (f6.1.2.2.2 285 64 _ _ kW_285_64)
  try simp only [e1] at f6
  have p0 := f3.2
  have r0_0 := f6.2
  clear e1
  omega
theorem c_267_s_1 : vOkm T0 (eP e_267 L_267 A_267 mu_267 none) 2 ([(31, [2], [], 0), (1250, [2, 0, 1], [0, 1], 0), (90, [2], [], 0), (91, [2], [], 1), (6000, [0, 1], [0], 0), (0, [0], [], 285), (90, [1], [], -2147483648), (91, [1], [], 2147483647)], (91, [1], [], 19)) := vOk_inI fun ρ η f0 f1 f2 f3 f4 f5 f6 f7 => q_267_1 (n0 := ρ 1) (n1 := ρ 0) (n2 := ρ 2) (H0 := η 0) (H1 := η 1) f7 f6 f5 f4 f3 f2 f1 f0
theorem q_267_2 {n0 n1 n2 : Int} {H0 H1 : gH} (f0 : n0 ≤ 2147483647) (f1 : (-2147483648) ≤ n0) (f2 : n1 = 285) (f3 : hWt T0 H0 ∧ preb_267 n1 n0 H0) (f4 : n2 ≤ 1) (f5 : 0 ≤ n2) (f6 : (hLe T0 H0 H1 ∧ hFr s_250.2.2.2.2 H0 H1 ∧ ((0 : Int) = 0 → H1.length = H0.length) ∧ hWt T0 H1) ∧ postb_250 n2 n1 n0 H0 H1) (f7 : n2 ≠ 0) : preb_265 n1 n0 H1 := by
  unfold preb_267 at f3
  unfold postb_250 at f6
  unfold preb_265
  have e1 : hV H1 285 64 = hV H0 285 64 := (f6.1.2.1.1 285 64 kF_250_285_64)
  have e2 : SO H1 = SO H0 := SO_fr f6.1.2.1 (by decide +kernel)
  have e3 : (0 : Int) ≤ hV H0 285 64 ∧ hV H0 285 64 ≤ 20 := bTo e1 (f6.1.2.2.2 285 64 _ _ kW_285_64)
  try simp only [e1] at f6
  try simp only [e1, e2]
  have p0 := f3.2
  have r0_0 := f6.2
  clear e1 e2
  refine ⟨?_, ?_⟩ <;> first | assumption | omega | trivial
theorem c_267_s_2 : vOkm T0 (eP e_267 L_267 A_267 mu_267 none) 2 ([(31, [2], [], 0), (1250, [2, 0, 1], [0, 1], 0), (90, [2], [], 0), (91, [2], [], 1), (6000, [0, 1], [0], 0), (0, [0], [], 285), (90, [1], [], -2147483648), (91, [1], [], 2147483647)], (2265, [0, 1], [1], 0)) := vOk_inI fun ρ η f0 f1 f2 f3 f4 f5 f6 f7 => q_267_2 (n0 := ρ 1) (n1 := ρ 0) (n2 := ρ 2) (H0 := η 0) (H1 := η 1) f7 f6 f5 f4 f3 f2 f1 f0
def p_267_s : List vG := [([(31, [2], [], 0), (1250, [2, 0, 1], [0, 1], 0), (90, [2], [], 0), (91, [2], [], 1), (6000, [0, 1], [0], 0), (0, [0], [], 285), (90, [1], [], -2147483648), (91, [1], [], 2147483647)], (90, [1], [], 0)),
  ([(31, [2], [], 0), (1250, [2, 0, 1], [0, 1], 0), (90, [2], [], 0), (91, [2], [], 1), (6000, [0, 1], [0], 0), (0, [0], [], 285), (90, [1], [], -2147483648), (91, [1], [], 2147483647)], (91, [1], [], 19)),
  ([(31, [2], [], 0), (1250, [2, 0, 1], [0, 1], 0), (90, [2], [], 0), (91, [2], [], 1), (6000, [0, 1], [0], 0), (0, [0], [], 285), (90, [1], [], -2147483648), (91, [1], [], 2147483647)], (2265, [0, 1], [1], 0))]
theorem r_267_s : vCovO true (eR0 e_267 L_267 cs_267 2000) p_267_s = true := by decide +kernel
theorem m_267 (d : Nat) : eC e_267 (d + 2) := eC_ok (e := e_267) (L := L_267) (cs := cs_267) (n := 2000) (d := d + 1) (A := A_267) (μ := mu_267) (tp := true) (p0 := p_267_s) rfl ⟨m_250 d, ⟨m_265 d, trivial⟩⟩ rfl (.inl rfl) (by decide +kernel) (fun _ => post0_ok) r_267_s (allC c_267_s_0 (allC c_267_s_1 (allC c_267_s_2 allN))) allN
/- MixStageModel.heard (II)I -/
noncomputable def s_268 : vM := ([(3, 12, 285, 0), (0, -2147483648, 2147483647, 0), (0, -2147483648, 2147483647, 0)], (0, -2147483648, 2147483647, 0), 1, 0, [(572, 0)])
def preb_268 (a0 a1 a2 : Int) (h : gH) : Prop := SO h
def pre_268 : List Int → gH → Prop := fun xs h => match xs with
  | [a0, a1, a2] => preb_268 a0 a1 a2 h
  | _ => False
noncomputable def e_268 : vE := (268, s_268, pre_268, post0)
noncomputable def L_268 : List vE := [e_250, e_266]
def cs_268 : List vC := []
def A_268 : Int → List Int → gH → gH → Prop := fun c xs h0 h => True
def mu_268 : Int → List Int → gH → gH → Nat := fun c xs h0 h => 0
theorem q_268_0 {n0 n1 n2 n3 : Int} {H0 H1 : gH} (f0 : n0 ≤ 2147483647) (f1 : (-2147483648) ≤ n0) (f2 : n1 ≤ 2147483647) (f3 : (-2147483648) ≤ n1) (f4 : n2 = 285) (f5 : hWt T0 H0 ∧ preb_268 n2 n1 n0 H0) (f6 : n3 ≤ 1) (f7 : 0 ≤ n3) (f8 : (hLe T0 H0 H1 ∧ hFr s_250.2.2.2.2 H0 H1 ∧ ((0 : Int) = 0 → H1.length = H0.length) ∧ hWt T0 H1) ∧ postb_250 n3 n2 n1 H0 H1) (f9 : n3 ≠ 0) : 0 ≤ n1 := by
  unfold preb_268 at f5
  unfold postb_250 at f8
  have e1 : hV H1 285 64 = hV H0 285 64 := (f8.1.2.1.1 285 64 kF_250_285_64)
  have e2 : (0 : Int) ≤ hV H0 285 64 ∧ hV H0 285 64 ≤ 20 := bTo e1 (f8.1.2.2.2 285 64 _ _ kW_285_64)
  try simp only [e1] at f8
  have p0 := f5.2
  have r0_0 := f8.2
  clear e1
  omega
theorem c_268_s_0 : vOkm T0 (eP e_268 L_268 A_268 mu_268 none) 3 ([(31, [3], [], 0), (1250, [3, 0, 1], [0, 1], 0), (90, [3], [], 0), (91, [3], [], 1), (6000, [0, 1, 2], [0], 0), (0, [0], [], 285), (90, [1], [], -2147483648), (91, [1], [], 2147483647), (90, [2], [], -2147483648), (91, [2], [], 2147483647)], (90, [1], [], 0)) := vOk_inI fun ρ η f0 f1 f2 f3 f4 f5 f6 f7 f8 f9 => q_268_0 (n0 := ρ 2) (n1 := ρ 1) (n2 := ρ 0) (n3 := ρ 3) (H0 := η 0) (H1 := η 1) f9 f8 f7 f6 f5 f4 f3 f2 f1 f0
theorem q_268_1 {n0 n1 n2 n3 : Int} {H0 H1 : gH} (f0 : n0 ≤ 2147483647) (f1 : (-2147483648) ≤ n0) (f2 : n1 ≤ 2147483647) (f3 : (-2147483648) ≤ n1) (f4 : n2 = 285) (f5 : hWt T0 H0 ∧ preb_268 n2 n1 n0 H0) (f6 : n3 ≤ 1) (f7 : 0 ≤ n3) (f8 : (hLe T0 H0 H1 ∧ hFr s_250.2.2.2.2 H0 H1 ∧ ((0 : Int) = 0 → H1.length = H0.length) ∧ hWt T0 H1) ∧ postb_250 n3 n2 n1 H0 H1) (f9 : n3 ≠ 0) : n1 ≤ 19 := by
  unfold preb_268 at f5
  unfold postb_250 at f8
  have e1 : hV H1 285 64 = hV H0 285 64 := (f8.1.2.1.1 285 64 kF_250_285_64)
  have e2 : (0 : Int) ≤ hV H0 285 64 ∧ hV H0 285 64 ≤ 20 := bTo e1 (f8.1.2.2.2 285 64 _ _ kW_285_64)
  try simp only [e1] at f8
  have p0 := f5.2
  have r0_0 := f8.2
  clear e1
  omega
theorem c_268_s_1 : vOkm T0 (eP e_268 L_268 A_268 mu_268 none) 3 ([(31, [3], [], 0), (1250, [3, 0, 1], [0, 1], 0), (90, [3], [], 0), (91, [3], [], 1), (6000, [0, 1, 2], [0], 0), (0, [0], [], 285), (90, [1], [], -2147483648), (91, [1], [], 2147483647), (90, [2], [], -2147483648), (91, [2], [], 2147483647)], (91, [1], [], 19)) := vOk_inI fun ρ η f0 f1 f2 f3 f4 f5 f6 f7 f8 f9 => q_268_1 (n0 := ρ 2) (n1 := ρ 1) (n2 := ρ 0) (n3 := ρ 3) (H0 := η 0) (H1 := η 1) f9 f8 f7 f6 f5 f4 f3 f2 f1 f0
theorem q_268_2 {n0 n1 n2 n3 : Int} {H0 H1 : gH} (f0 : n0 ≤ 2147483647) (f1 : (-2147483648) ≤ n0) (f2 : n1 ≤ 2147483647) (f3 : (-2147483648) ≤ n1) (f4 : n2 = 285) (f5 : hWt T0 H0 ∧ preb_268 n2 n1 n0 H0) (f6 : n3 ≤ 1) (f7 : 0 ≤ n3) (f8 : (hLe T0 H0 H1 ∧ hFr s_250.2.2.2.2 H0 H1 ∧ ((0 : Int) = 0 → H1.length = H0.length) ∧ hWt T0 H1) ∧ postb_250 n3 n2 n1 H0 H1) (f9 : n3 ≠ 0) : preb_266 n2 n1 n0 H1 := by
  unfold preb_268 at f5
  unfold postb_250 at f8
  unfold preb_266
  have e1 : hV H1 285 64 = hV H0 285 64 := (f8.1.2.1.1 285 64 kF_250_285_64)
  have e2 : SO H1 = SO H0 := SO_fr f8.1.2.1 (by decide +kernel)
  have e3 : (0 : Int) ≤ hV H0 285 64 ∧ hV H0 285 64 ≤ 20 := bTo e1 (f8.1.2.2.2 285 64 _ _ kW_285_64)
  try simp only [e1] at f8
  try simp only [e1, e2]
  have p0 := f5.2
  have r0_0 := f8.2
  clear e1 e2
  refine ⟨?_, ?_⟩ <;> first | assumption | omega | trivial
theorem c_268_s_2 : vOkm T0 (eP e_268 L_268 A_268 mu_268 none) 3 ([(31, [3], [], 0), (1250, [3, 0, 1], [0, 1], 0), (90, [3], [], 0), (91, [3], [], 1), (6000, [0, 1, 2], [0], 0), (0, [0], [], 285), (90, [1], [], -2147483648), (91, [1], [], 2147483647), (90, [2], [], -2147483648), (91, [2], [], 2147483647)], (2266, [0, 1, 2], [1], 0)) := vOk_inI fun ρ η f0 f1 f2 f3 f4 f5 f6 f7 f8 f9 => q_268_2 (n0 := ρ 2) (n1 := ρ 1) (n2 := ρ 0) (n3 := ρ 3) (H0 := η 0) (H1 := η 1) f9 f8 f7 f6 f5 f4 f3 f2 f1 f0
def p_268_s : List vG := [([(31, [3], [], 0), (1250, [3, 0, 1], [0, 1], 0), (90, [3], [], 0), (91, [3], [], 1), (6000, [0, 1, 2], [0], 0), (0, [0], [], 285), (90, [1], [], -2147483648), (91, [1], [], 2147483647), (90, [2], [], -2147483648), (91, [2], [], 2147483647)], (90, [1], [], 0)),
  ([(31, [3], [], 0), (1250, [3, 0, 1], [0, 1], 0), (90, [3], [], 0), (91, [3], [], 1), (6000, [0, 1, 2], [0], 0), (0, [0], [], 285), (90, [1], [], -2147483648), (91, [1], [], 2147483647), (90, [2], [], -2147483648), (91, [2], [], 2147483647)], (91, [1], [], 19)),
  ([(31, [3], [], 0), (1250, [3, 0, 1], [0, 1], 0), (90, [3], [], 0), (91, [3], [], 1), (6000, [0, 1, 2], [0], 0), (0, [0], [], 285), (90, [1], [], -2147483648), (91, [1], [], 2147483647), (90, [2], [], -2147483648), (91, [2], [], 2147483647)], (2266, [0, 1, 2], [1], 0))]
theorem r_268_s : vCovO true (eR0 e_268 L_268 cs_268 2000) p_268_s = true := by decide +kernel
theorem m_268 (d : Nat) : eC e_268 (d + 3) := eC_ok (e := e_268) (L := L_268) (cs := cs_268) (n := 2000) (d := d + 2) (A := A_268) (μ := mu_268) (tp := true) (p0 := p_268_s) rfl ⟨m_250 (d + 1), ⟨m_266 d, trivial⟩⟩ rfl (.inl rfl) (by decide +kernel) (fun _ => post0_ok) r_268_s (allC c_268_s_0 (allC c_268_s_1 (allC c_268_s_2 allN))) allN
/- MixStageModel.seam (I)I -/
noncomputable def s_305 : vM := ([(3, 12, 285, 0), (0, -2147483648, 2147483647, 0)], (0, -2147483648, 2147483647, 0), 1, 0, [])
def preb_305 (a0 a1 : Int) (h : gH) : Prop := SO h
def pre_305 : List Int → gH → Prop := fun xs h => match xs with
  | [a0, a1] => preb_305 a0 a1 h
  | _ => False
noncomputable def e_305 : vE := (305, s_305, pre_305, post0)
noncomputable def L_305 : List vE := [e_250]
def cs_305 : List vC := []
def A_305 : Int → List Int → gH → gH → Prop := fun c xs h0 h => True
def mu_305 : Int → List Int → gH → gH → Nat := fun c xs h0 h => 0
theorem q_305_0 {n0 n1 n2 : Int} {H0 H1 : gH} (f0 : n0 ≤ 2147483647) (f1 : (-2147483648) ≤ n0) (f2 : n1 = 285) (f3 : hWt T0 H0 ∧ preb_305 n1 n0 H0) (f4 : n2 ≤ 1) (f5 : 0 ≤ n2) (f6 : (hLe T0 H0 H1 ∧ hFr s_250.2.2.2.2 H0 H1 ∧ ((0 : Int) = 0 → H1.length = H0.length) ∧ hWt T0 H1) ∧ postb_250 n2 n1 n0 H0 H1) (f7 : n2 ≠ 0) : 0 ≤ n0 ∧ n0 < 20 := by
  unfold preb_305 at f3
  unfold postb_250 at f6
  have e1 : hV H1 285 64 = hV H0 285 64 := (f6.1.2.1.1 285 64 kF_250_285_64)
  have e2 : (0 : Int) ≤ hV H0 285 64 ∧ hV H0 285 64 ≤ 20 := bTo e1 (f6.1.2.2.2 285 64 _ _ kW_285_64)
  try simp only [e1] at f6
  have p0 := f3.2
  have r0_0 := f6.2
  clear e1
  try have t1 := SO1 p0 (s := (n0).toNat) (by omega) (by omega)
  omega
theorem c_305_s_0 : vOkm T0 (eP e_305 L_305 A_305 mu_305 none) 2 ([(31, [2], [], 0), (1250, [2, 0, 1], [0, 1], 0), (90, [2], [], 0), (91, [2], [], 1), (6000, [0, 1], [0], 0), (0, [0], [], 285), (90, [1], [], -2147483648), (91, [1], [], 2147483647)], (70, [1], [], 20)) := vOk_inI fun ρ η f0 f1 f2 f3 f4 f5 f6 f7 => q_305_0 (n0 := ρ 1) (n1 := ρ 0) (n2 := ρ 2) (H0 := η 0) (H1 := η 1) f7 f6 f5 f4 f3 f2 f1 f0
theorem q_305_1 {n0 n1 n2 n3 n4 n5 : Int} {H0 H1 : gH} (f0 : n0 ≤ 2147483647) (f1 : (-2147483648) ≤ n0) (f2 : n1 = 285) (f3 : hWt T0 H0 ∧ preb_305 n1 n0 H0) (f4 : n2 ≤ 1) (f5 : 0 ≤ n2) (f6 : (hLe T0 H0 H1 ∧ hFr s_250.2.2.2.2 H0 H1 ∧ ((0 : Int) = 0 → H1.length = H0.length) ∧ hWt T0 H1) ∧ postb_250 n2 n1 n0 H0 H1) (f7 : n2 ≠ 0) (f8 : n3 = 328) (f9 : n3 = hV H1 (n1).toNat 66) (f10 : n4 ≤ 6) (f11 : 0 ≤ n4) (f12 : n4 = hV H1 (n3).toNat (n0).toNat) (f13 : n5 = 1) (f14 : n4 = n5) : 0 ≤ n0 ∧ n0 < 20 := by
  unfold preb_305 at f3
  unfold postb_250 at f6
  have e1 : n4 = hV H0 328 (n0).toNat := (by rw [f8] at f12; exact f12 : n4 = hV H1 328 (n0).toNat).trans ((congrFun (fRow f6.1.2.1 328 kR_250_328) _))
  have e3 : hV H1 285 64 = hV H0 285 64 := (f6.1.2.1.1 285 64 kF_250_285_64)
  have e4 : (0 : Int) ≤ hV H0 285 64 ∧ hV H0 285 64 ≤ 20 := bTo e3 (f6.1.2.2.2 285 64 _ _ kW_285_64)
  try simp only [e3] at f6
  have p0 := f3.2
  have r0_0 := f6.2
  clear f9 f12 e3
  subst e1
  try have t1 := SO1 p0 (s := (n0).toNat) (by omega) (by omega)
  omega
theorem c_305_s_1 : vOkm T0 (eP e_305 L_305 A_305 mu_305 none) 2 ([(40, [4, 5], [], 0), (0, [5], [], 1), (22, [4, 3, 1], [1], 0), (90, [4], [], 0), (91, [4], [], 6), (20, [3, 0], [1], 66), (0, [3], [], 328), (31, [2], [], 0), (1250, [2, 0, 1], [0, 1], 0), (90, [2], [], 0), (91, [2], [], 1), (6000, [0, 1], [0], 0), (0, [0], [], 285), (90, [1], [], -2147483648), (91, [1], [], 2147483647)], (70, [1], [], 20)) := vOk_inI fun ρ η f0 f1 f2 f3 f4 f5 f6 f7 f8 f9 f10 f11 f12 f13 f14 => q_305_1 (n0 := ρ 1) (n1 := ρ 0) (n2 := ρ 2) (n3 := ρ 3) (n4 := ρ 4) (n5 := ρ 5) (H0 := η 0) (H1 := η 1) f14 f13 f12 f11 f10 f9 f8 f7 f6 f5 f4 f3 f2 f1 f0
theorem q_305_2 {n0 n1 n2 n3 n4 n5 n6 n7 : Int} {H0 H1 : gH} (f0 : n0 ≤ 2147483647) (f1 : (-2147483648) ≤ n0) (f2 : n1 = 285) (f3 : hWt T0 H0 ∧ preb_305 n1 n0 H0) (f4 : n2 ≤ 1) (f5 : 0 ≤ n2) (f6 : (hLe T0 H0 H1 ∧ hFr s_250.2.2.2.2 H0 H1 ∧ ((0 : Int) = 0 → H1.length = H0.length) ∧ hWt T0 H1) ∧ postb_250 n2 n1 n0 H0 H1) (f7 : n2 ≠ 0) (f8 : n3 = 328) (f9 : n3 = hV H1 (n1).toNat 66) (f10 : n4 ≤ 6) (f11 : 0 ≤ n4) (f12 : n4 = hV H1 (n3).toNat (n0).toNat) (f13 : n5 = 1) (f14 : n4 = n5) (f15 : n6 = 240) (f16 : n7 = w32 (n6 * n0)) : 0 ≤ n0 ∧ n0 < 20 := by
  unfold preb_305 at f3
  unfold postb_250 at f6
  have e1 : n4 = hV H0 328 (n0).toNat := (by rw [f8] at f12; exact f12 : n4 = hV H1 328 (n0).toNat).trans ((congrFun (fRow f6.1.2.1 328 kR_250_328) _))
  have e3 : hV H1 285 64 = hV H0 285 64 := (f6.1.2.1.1 285 64 kF_250_285_64)
  have e4 : (0 : Int) ≤ hV H0 285 64 ∧ hV H0 285 64 ≤ 20 := bTo e3 (f6.1.2.2.2 285 64 _ _ kW_285_64)
  try simp only [e3] at f6
  have p0 := f3.2
  have r0_0 := f6.2
  clear f9 f12 e3
  subst e1
  rw [f15] at f16
  unfold w32 at f16
  try have t1 := SO1 p0 (s := (n0).toNat) (by omega) (by omega)
  omega
theorem c_305_s_2 : vOkm T0 (eP e_305 L_305 A_305 mu_305 none) 2 ([(3, [11, 10, 1], [], 0), (0, [10], [], 240), (40, [4, 5], [], 0), (0, [5], [], 1), (22, [4, 3, 1], [1], 0), (90, [4], [], 0), (91, [4], [], 6), (20, [3, 0], [1], 66), (0, [3], [], 328), (31, [2], [], 0), (1250, [2, 0, 1], [0, 1], 0), (90, [2], [], 0), (91, [2], [], 1), (6000, [0, 1], [0], 0), (0, [0], [], 285), (90, [1], [], -2147483648), (91, [1], [], 2147483647)], (70, [1], [], 20)) := vOk_inI fun ρ η f0 f1 f2 f3 f4 f5 f6 f7 f8 f9 f10 f11 f12 f13 f14 f15 f16 => q_305_2 (n0 := ρ 1) (n1 := ρ 0) (n2 := ρ 2) (n3 := ρ 3) (n4 := ρ 4) (n5 := ρ 5) (n6 := ρ 10) (n7 := ρ 11) (H0 := η 0) (H1 := η 1) f16 f15 f14 f13 f12 f11 f10 f9 f8 f7 f6 f5 f4 f3 f2 f1 f0
theorem kR_250_331 : vFreeR s_250.2.2.2.2 331 = true := by decide +kernel
theorem q_305_3 {n0 n1 n2 n3 n4 n5 n6 n7 n8 n9 n10 n11 n12 : Int} {H0 H1 : gH} (f0 : n0 ≤ 2147483647) (f1 : (-2147483648) ≤ n0) (f2 : n1 = 285) (f3 : hWt T0 H0 ∧ preb_305 n1 n0 H0) (f4 : n2 ≤ 1) (f5 : 0 ≤ n2) (f6 : (hLe T0 H0 H1 ∧ hFr s_250.2.2.2.2 H0 H1 ∧ ((0 : Int) = 0 → H1.length = H0.length) ∧ hWt T0 H1) ∧ postb_250 n2 n1 n0 H0 H1) (f7 : n2 ≠ 0) (f8 : n3 = 328) (f9 : n3 = hV H1 (n1).toNat 66) (f10 : n4 ≤ 6) (f11 : 0 ≤ n4) (f12 : n4 = hV H1 (n3).toNat (n0).toNat) (f13 : n5 = 1) (f14 : n4 = n5) (f15 : n6 = 240) (f16 : n7 = w32 (n6 * n0)) (f17 : n8 = 331) (f18 : n8 = hV H1 (n1).toNat 69) (f19 : n9 ≤ 2147483647) (f20 : (-2147483648) ≤ n9) (f21 : n9 = hV H1 (n8).toNat (n0).toNat) (f22 : n10 = w32 (n7 + n9)) (f23 : n11 = 1) (f24 : n12 = w32 (n10 - n11)) : 0 ≤ n12 ∧ n12 < 4800 := by
  unfold preb_305 at f3
  unfold postb_250 at f6
  have e1 : n4 = hV H0 328 (n0).toNat := (by rw [f8] at f12; exact f12 : n4 = hV H1 328 (n0).toNat).trans ((congrFun (fRow f6.1.2.1 328 kR_250_328) _))
  have e3 : n9 = hV H0 331 (n0).toNat := (by rw [f17] at f21; exact f21 : n9 = hV H1 331 (n0).toNat).trans ((congrFun (fRow f6.1.2.1 331 kR_250_331) _))
  have e5 : hV H1 285 64 = hV H0 285 64 := (f6.1.2.1.1 285 64 kF_250_285_64)
  have e6 : (0 : Int) ≤ hV H0 285 64 ∧ hV H0 285 64 ≤ 20 := bTo e5 (f6.1.2.2.2 285 64 _ _ kW_285_64)
  try simp only [e5] at f6
  have p0 := f3.2
  have r0_0 := f6.2
  clear f9 f12 f18 f21 e5
  subst e1
  subst e3
  rw [f15] at f16
  try have t1 := SO1 p0 (s := (n0).toNat) (by omega) (by omega)
  first
  | (have ix0 : n7 = 240 * n0 := Eq.trans f16 (w32_id (by omega) (by omega)); subst ix0; clear f16)
  | (unfold w32 at f16; have ix0 : n7 = 240 * n0 := (by omega); subst ix0)
  | skip
  first
  | (have ix1 : n10 = (240 * n0) + hV H0 331 (n0).toNat := Eq.trans f22 (w32_id (by omega) (by omega)); subst ix1; clear f22)
  | (unfold w32 at f22; have ix1 : n10 = (240 * n0) + hV H0 331 (n0).toNat := (by omega); subst ix1)
  | skip
  first
  | (have ix2 : n12 = ((240 * n0) + hV H0 331 (n0).toNat) - 1 := Eq.trans f24 (w32_id (by omega) (by omega)); subst ix2; clear f24)
  | (unfold w32 at f24; have ix2 : n12 = ((240 * n0) + hV H0 331 (n0).toNat) - 1 := (by omega); subst ix2)
  | skip
  try unfold w32 at f16
  try unfold w32 at f22
  try unfold w32 at f24
  omega
theorem c_305_s_3 : vOkm T0 (eP e_305 L_305 A_305 mu_305 none) 2 ([(2, [16, 14, 15], [], 0), (0, [15], [], 1), (1, [14, 11, 13], [], 0), (22, [13, 12, 1], [1], 0), (90, [13], [], -2147483648), (91, [13], [], 2147483647), (20, [12, 0], [1], 69), (0, [12], [], 331), (3, [11, 10, 1], [], 0), (0, [10], [], 240), (40, [4, 5], [], 0), (0, [5], [], 1), (22, [4, 3, 1], [1], 0), (90, [4], [], 0), (91, [4], [], 6), (20, [3, 0], [1], 66), (0, [3], [], 328), (31, [2], [], 0), (1250, [2, 0, 1], [0, 1], 0), (90, [2], [], 0), (91, [2], [], 1), (6000, [0, 1], [0], 0), (0, [0], [], 285), (90, [1], [], -2147483648), (91, [1], [], 2147483647)], (70, [16], [], 4800)) := vOk_inI fun ρ η f0 f1 f2 f3 f4 f5 f6 f7 f8 f9 f10 f11 f12 f13 f14 f15 f16 f17 f18 f19 f20 f21 f22 f23 f24 => q_305_3 (n0 := ρ 1) (n1 := ρ 0) (n2 := ρ 2) (n3 := ρ 3) (n4 := ρ 4) (n5 := ρ 5) (n6 := ρ 10) (n7 := ρ 11) (n8 := ρ 12) (n9 := ρ 13) (n10 := ρ 14) (n11 := ρ 15) (n12 := ρ 16) (H0 := η 0) (H1 := η 1) f24 f23 f22 f21 f20 f19 f18 f17 f16 f15 f14 f13 f12 f11 f10 f9 f8 f7 f6 f5 f4 f3 f2 f1 f0
theorem q_305_4 {n0 n1 n2 n3 n4 n5 n6 n7 n8 n9 n10 n11 n12 n13 n14 : Int} {H0 H1 : gH} (f0 : n0 ≤ 2147483647) (f1 : (-2147483648) ≤ n0) (f2 : n1 = 285) (f3 : hWt T0 H0 ∧ preb_305 n1 n0 H0) (f4 : n2 ≤ 1) (f5 : 0 ≤ n2) (f6 : (hLe T0 H0 H1 ∧ hFr s_250.2.2.2.2 H0 H1 ∧ ((0 : Int) = 0 → H1.length = H0.length) ∧ hWt T0 H1) ∧ postb_250 n2 n1 n0 H0 H1) (f7 : n2 ≠ 0) (f8 : n3 = 328) (f9 : n3 = hV H1 (n1).toNat 66) (f10 : n4 ≤ 6) (f11 : 0 ≤ n4) (f12 : n4 = hV H1 (n3).toNat (n0).toNat) (f13 : n5 = 1) (f14 : n4 = n5) (f15 : n6 = 240) (f16 : n7 = w32 (n6 * n0)) (f17 : n8 = 331) (f18 : n8 = hV H1 (n1).toNat 69) (f19 : n9 ≤ 2147483647) (f20 : (-2147483648) ≤ n9) (f21 : n9 = hV H1 (n8).toNat (n0).toNat) (f22 : n10 = w32 (n7 + n9)) (f23 : n11 = 1) (f24 : n12 = w32 (n10 - n11)) (f25 : n13 = 240) (f26 : n14 = w32 (n13 * n0)) : 0 ≤ n0 ∧ n0 < 20 := by
  unfold preb_305 at f3
  unfold postb_250 at f6
  have e1 : n4 = hV H0 328 (n0).toNat := (by rw [f8] at f12; exact f12 : n4 = hV H1 328 (n0).toNat).trans ((congrFun (fRow f6.1.2.1 328 kR_250_328) _))
  have e3 : n9 = hV H0 331 (n0).toNat := (by rw [f17] at f21; exact f21 : n9 = hV H1 331 (n0).toNat).trans ((congrFun (fRow f6.1.2.1 331 kR_250_331) _))
  have e5 : hV H1 285 64 = hV H0 285 64 := (f6.1.2.1.1 285 64 kF_250_285_64)
  have e6 : (0 : Int) ≤ hV H0 285 64 ∧ hV H0 285 64 ≤ 20 := bTo e5 (f6.1.2.2.2 285 64 _ _ kW_285_64)
  try simp only [e5] at f6
  have p0 := f3.2
  have r0_0 := f6.2
  clear f9 f12 f18 f21 e5
  subst e1
  subst e3
  rw [f15] at f16
  rw [f25] at f26
  unfold w32 at f16 f22 f24 f26
  try have t1 := SO1 p0 (s := (n0).toNat) (by omega) (by omega)
  omega
theorem c_305_s_4 : vOkm T0 (eP e_305 L_305 A_305 mu_305 none) 2 ([(3, [20, 19, 1], [], 0), (0, [19], [], 240), (2, [16, 14, 15], [], 0), (0, [15], [], 1), (1, [14, 11, 13], [], 0), (22, [13, 12, 1], [1], 0), (90, [13], [], -2147483648), (91, [13], [], 2147483647), (20, [12, 0], [1], 69), (0, [12], [], 331), (3, [11, 10, 1], [], 0), (0, [10], [], 240), (40, [4, 5], [], 0), (0, [5], [], 1), (22, [4, 3, 1], [1], 0), (90, [4], [], 0), (91, [4], [], 6), (20, [3, 0], [1], 66), (0, [3], [], 328), (31, [2], [], 0), (1250, [2, 0, 1], [0, 1], 0), (90, [2], [], 0), (91, [2], [], 1), (6000, [0, 1], [0], 0), (0, [0], [], 285), (90, [1], [], -2147483648), (91, [1], [], 2147483647)], (70, [1], [], 20)) := vOk_inI fun ρ η f0 f1 f2 f3 f4 f5 f6 f7 f8 f9 f10 f11 f12 f13 f14 f15 f16 f17 f18 f19 f20 f21 f22 f23 f24 f25 f26 => q_305_4 (n0 := ρ 1) (n1 := ρ 0) (n2 := ρ 2) (n3 := ρ 3) (n4 := ρ 4) (n5 := ρ 5) (n6 := ρ 10) (n7 := ρ 11) (n8 := ρ 12) (n9 := ρ 13) (n10 := ρ 14) (n11 := ρ 15) (n12 := ρ 16) (n13 := ρ 19) (n14 := ρ 20) (H0 := η 0) (H1 := η 1) f26 f25 f24 f23 f22 f21 f20 f19 f18 f17 f16 f15 f14 f13 f12 f11 f10 f9 f8 f7 f6 f5 f4 f3 f2 f1 f0
theorem kR_250_330 : vFreeR s_250.2.2.2.2 330 = true := by decide +kernel
theorem q_305_5 {n0 n1 n2 n3 n4 n5 n6 n7 n8 n9 n10 n11 n12 n13 n14 n15 n16 n17 : Int} {H0 H1 : gH} (f0 : n0 ≤ 2147483647) (f1 : (-2147483648) ≤ n0) (f2 : n1 = 285) (f3 : hWt T0 H0 ∧ preb_305 n1 n0 H0) (f4 : n2 ≤ 1) (f5 : 0 ≤ n2) (f6 : (hLe T0 H0 H1 ∧ hFr s_250.2.2.2.2 H0 H1 ∧ ((0 : Int) = 0 → H1.length = H0.length) ∧ hWt T0 H1) ∧ postb_250 n2 n1 n0 H0 H1) (f7 : n2 ≠ 0) (f8 : n3 = 328) (f9 : n3 = hV H1 (n1).toNat 66) (f10 : n4 ≤ 6) (f11 : 0 ≤ n4) (f12 : n4 = hV H1 (n3).toNat (n0).toNat) (f13 : n5 = 1) (f14 : n4 = n5) (f15 : n6 = 240) (f16 : n7 = w32 (n6 * n0)) (f17 : n8 = 331) (f18 : n8 = hV H1 (n1).toNat 69) (f19 : n9 ≤ 2147483647) (f20 : (-2147483648) ≤ n9) (f21 : n9 = hV H1 (n8).toNat (n0).toNat) (f22 : n10 = w32 (n7 + n9)) (f23 : n11 = 1) (f24 : n12 = w32 (n10 - n11)) (f25 : n13 = 240) (f26 : n14 = w32 (n13 * n0)) (f27 : n15 = 330) (f28 : n15 = hV H1 (n1).toNat 68) (f29 : n16 ≤ 2147483647) (f30 : (-2147483648) ≤ n16) (f31 : n16 = hV H1 (n15).toNat (n0).toNat) (f32 : n17 = w32 (n14 + n16)) : 0 ≤ n17 ∧ n17 < 4800 := by
  unfold preb_305 at f3
  unfold postb_250 at f6
  have e1 : n4 = hV H0 328 (n0).toNat := (by rw [f8] at f12; exact f12 : n4 = hV H1 328 (n0).toNat).trans ((congrFun (fRow f6.1.2.1 328 kR_250_328) _))
  have e3 : n9 = hV H0 331 (n0).toNat := (by rw [f17] at f21; exact f21 : n9 = hV H1 331 (n0).toNat).trans ((congrFun (fRow f6.1.2.1 331 kR_250_331) _))
  have e5 : n16 = hV H0 330 (n0).toNat := (by rw [f27] at f31; exact f31 : n16 = hV H1 330 (n0).toNat).trans ((congrFun (fRow f6.1.2.1 330 kR_250_330) _))
  have e7 : hV H1 285 64 = hV H0 285 64 := (f6.1.2.1.1 285 64 kF_250_285_64)
  have e8 : (0 : Int) ≤ hV H0 285 64 ∧ hV H0 285 64 ≤ 20 := bTo e7 (f6.1.2.2.2 285 64 _ _ kW_285_64)
  try simp only [e7] at f6
  have p0 := f3.2
  have r0_0 := f6.2
  clear f9 f12 f18 f21 f28 f31 e7
  subst e1
  subst e3
  subst e5
  rw [f15] at f16
  rw [f25] at f26
  try have t1 := SO1 p0 (s := (n0).toNat) (by omega) (by omega)
  first
  | (have ix0 : n14 = 240 * n0 := Eq.trans f26 (w32_id (by omega) (by omega)); subst ix0; clear f26)
  | (unfold w32 at f26; have ix0 : n14 = 240 * n0 := (by omega); subst ix0)
  | skip
  first
  | (have ix1 : n17 = (240 * n0) + hV H0 330 (n0).toNat := Eq.trans f32 (w32_id (by omega) (by omega)); subst ix1; clear f32)
  | (unfold w32 at f32; have ix1 : n17 = (240 * n0) + hV H0 330 (n0).toNat := (by omega); subst ix1)
  | skip
  try unfold w32 at f16
  try unfold w32 at f22
  try unfold w32 at f24
  try unfold w32 at f26
  try unfold w32 at f32
  omega
theorem c_305_s_5 : vOkm T0 (eP e_305 L_305 A_305 mu_305 none) 2 ([(1, [23, 20, 22], [], 0), (22, [22, 21, 1], [1], 0), (90, [22], [], -2147483648), (91, [22], [], 2147483647), (20, [21, 0], [1], 68), (0, [21], [], 330), (3, [20, 19, 1], [], 0), (0, [19], [], 240), (2, [16, 14, 15], [], 0), (0, [15], [], 1), (1, [14, 11, 13], [], 0), (22, [13, 12, 1], [1], 0), (90, [13], [], -2147483648), (91, [13], [], 2147483647), (20, [12, 0], [1], 69), (0, [12], [], 331), (3, [11, 10, 1], [], 0), (0, [10], [], 240), (40, [4, 5], [], 0), (0, [5], [], 1), (22, [4, 3, 1], [1], 0), (90, [4], [], 0), (91, [4], [], 6), (20, [3, 0], [1], 66), (0, [3], [], 328), (31, [2], [], 0), (1250, [2, 0, 1], [0, 1], 0), (90, [2], [], 0), (91, [2], [], 1), (6000, [0, 1], [0], 0), (0, [0], [], 285), (90, [1], [], -2147483648), (91, [1], [], 2147483647)], (70, [23], [], 4800)) := vOk_inI fun ρ η f0 f1 f2 f3 f4 f5 f6 f7 f8 f9 f10 f11 f12 f13 f14 f15 f16 f17 f18 f19 f20 f21 f22 f23 f24 f25 f26 f27 f28 f29 f30 f31 f32 => q_305_5 (n0 := ρ 1) (n1 := ρ 0) (n2 := ρ 2) (n3 := ρ 3) (n4 := ρ 4) (n5 := ρ 5) (n6 := ρ 10) (n7 := ρ 11) (n8 := ρ 12) (n9 := ρ 13) (n10 := ρ 14) (n11 := ρ 15) (n12 := ρ 16) (n13 := ρ 19) (n14 := ρ 20) (n15 := ρ 21) (n16 := ρ 22) (n17 := ρ 23) (H0 := η 0) (H1 := η 1) f32 f31 f30 f29 f28 f27 f26 f25 f24 f23 f22 f21 f20 f19 f18 f17 f16 f15 f14 f13 f12 f11 f10 f9 f8 f7 f6 f5 f4 f3 f2 f1 f0
def p_305_s : List vG := [([(31, [2], [], 0), (1250, [2, 0, 1], [0, 1], 0), (90, [2], [], 0), (91, [2], [], 1), (6000, [0, 1], [0], 0), (0, [0], [], 285), (90, [1], [], -2147483648), (91, [1], [], 2147483647)], (70, [1], [], 20)),
  ([(40, [4, 5], [], 0), (0, [5], [], 1), (22, [4, 3, 1], [1], 0), (90, [4], [], 0), (91, [4], [], 6), (20, [3, 0], [1], 66), (0, [3], [], 328), (31, [2], [], 0), (1250, [2, 0, 1], [0, 1], 0), (90, [2], [], 0), (91, [2], [], 1), (6000, [0, 1], [0], 0), (0, [0], [], 285), (90, [1], [], -2147483648), (91, [1], [], 2147483647)], (70, [1], [], 20)),
  ([(3, [11, 10, 1], [], 0), (0, [10], [], 240), (40, [4, 5], [], 0), (0, [5], [], 1), (22, [4, 3, 1], [1], 0), (90, [4], [], 0), (91, [4], [], 6), (20, [3, 0], [1], 66), (0, [3], [], 328), (31, [2], [], 0), (1250, [2, 0, 1], [0, 1], 0), (90, [2], [], 0), (91, [2], [], 1), (6000, [0, 1], [0], 0), (0, [0], [], 285), (90, [1], [], -2147483648), (91, [1], [], 2147483647)], (70, [1], [], 20)),
  ([(2, [16, 14, 15], [], 0), (0, [15], [], 1), (1, [14, 11, 13], [], 0), (22, [13, 12, 1], [1], 0), (90, [13], [], -2147483648), (91, [13], [], 2147483647), (20, [12, 0], [1], 69), (0, [12], [], 331), (3, [11, 10, 1], [], 0), (0, [10], [], 240), (40, [4, 5], [], 0), (0, [5], [], 1), (22, [4, 3, 1], [1], 0), (90, [4], [], 0), (91, [4], [], 6), (20, [3, 0], [1], 66), (0, [3], [], 328), (31, [2], [], 0), (1250, [2, 0, 1], [0, 1], 0), (90, [2], [], 0), (91, [2], [], 1), (6000, [0, 1], [0], 0), (0, [0], [], 285), (90, [1], [], -2147483648), (91, [1], [], 2147483647)], (70, [16], [], 4800)),
  ([(3, [20, 19, 1], [], 0), (0, [19], [], 240), (2, [16, 14, 15], [], 0), (0, [15], [], 1), (1, [14, 11, 13], [], 0), (22, [13, 12, 1], [1], 0), (90, [13], [], -2147483648), (91, [13], [], 2147483647), (20, [12, 0], [1], 69), (0, [12], [], 331), (3, [11, 10, 1], [], 0), (0, [10], [], 240), (40, [4, 5], [], 0), (0, [5], [], 1), (22, [4, 3, 1], [1], 0), (90, [4], [], 0), (91, [4], [], 6), (20, [3, 0], [1], 66), (0, [3], [], 328), (31, [2], [], 0), (1250, [2, 0, 1], [0, 1], 0), (90, [2], [], 0), (91, [2], [], 1), (6000, [0, 1], [0], 0), (0, [0], [], 285), (90, [1], [], -2147483648), (91, [1], [], 2147483647)], (70, [1], [], 20)),
  ([(1, [23, 20, 22], [], 0), (22, [22, 21, 1], [1], 0), (90, [22], [], -2147483648), (91, [22], [], 2147483647), (20, [21, 0], [1], 68), (0, [21], [], 330), (3, [20, 19, 1], [], 0), (0, [19], [], 240), (2, [16, 14, 15], [], 0), (0, [15], [], 1), (1, [14, 11, 13], [], 0), (22, [13, 12, 1], [1], 0), (90, [13], [], -2147483648), (91, [13], [], 2147483647), (20, [12, 0], [1], 69), (0, [12], [], 331), (3, [11, 10, 1], [], 0), (0, [10], [], 240), (40, [4, 5], [], 0), (0, [5], [], 1), (22, [4, 3, 1], [1], 0), (90, [4], [], 0), (91, [4], [], 6), (20, [3, 0], [1], 66), (0, [3], [], 328), (31, [2], [], 0), (1250, [2, 0, 1], [0, 1], 0), (90, [2], [], 0), (91, [2], [], 1), (6000, [0, 1], [0], 0), (0, [0], [], 285), (90, [1], [], -2147483648), (91, [1], [], 2147483647)], (70, [23], [], 4800))]
theorem r_305_s : vCovO true (eR0 e_305 L_305 cs_305 2000) p_305_s = true := by decide +kernel
theorem m_305 (d : Nat) : eC e_305 (d + 2) := eC_ok (e := e_305) (L := L_305) (cs := cs_305) (n := 2000) (d := d + 1) (A := A_305) (μ := mu_305) (tp := true) (p0 := p_305_s) rfl ⟨m_250 d, trivial⟩ rfl (.inl rfl) (by decide +kernel) (fun _ => post0_ok) r_305_s (allC c_305_s_0 (allC c_305_s_1 (allC c_305_s_2 (allC c_305_s_3 (allC c_305_s_4 (allC c_305_s_5 allN)))))) allN
