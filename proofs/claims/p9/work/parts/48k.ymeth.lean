/-! CONTRACTS of methods (printed by wip/gen/emit.py). -/
/- MixStageModel.makes (III)I -/
noncomputable def s_283 : vM := ([(3, 12, 285, 0), (0, 0, 19, 0), (0, 0, 7, 0), (0, 0, 5, 0)], (0, -2147483648, 2147483647, 0), 1, 0, [(12, 65), (12, 82), (12, 88), (12, 93), (460, 0), (492, 0), (500, 0), (508, 0), (516, 0), (524, 0), (572, 0), (580, 0), (588, 0), (596, 0), (604, 0), (612, 0), (621, 0), (631, 0), (637, 0), (644, 0)])
def preb_283 (a0 a1 a2 a3 : Int) (h : gH) : Prop := a1 < hV h 285 64 ∧ hV h 328 ((a1).toNat) = 6 ∧ a2 < hV h 285 18 ∧ PG h ∧ SO h ∧ SS h ∧ hV h 285 65 ≤ 20020
def pre_283 : List Int → gH → Prop := fun xs h => match xs with
  | [a0, a1, a2, a3] => preb_283 a0 a1 a2 a3 h
  | _ => False
def postb_283 (r a0 a1 a2 a3 : Int) (h0 h : gH) : Prop := SO h ∧ SS h ∧ hV h 285 65 = hV h0 285 65 + 1 ∧ (hV h 333) = uF (hV h0 333) a1 (hV h 285 65) ∧ (hV h 335) = uF (hV h0 335) a1 a2
def post_283 : List Int → gH → gH → Prop := fun xs h0 h => match xs with
  | [r, a0, a1, a2, a3] => postb_283 r a0 a1 a2 a3 h0 h
  | _ => True
noncomputable def e_283 : vE := (283, s_283, pre_283, post_283)
noncomputable def L_283 : List vE := [e_248, e_258, e_274]
def cs_283 : List vC := [(11, [(0, (3, 12, 285, 0)), (1, (0, 0, 19, 0)), (2, (0, 0, 7, 0)), (3, (0, 0, 5, 0)), (4, (0, 0, 2147483647, 0)), (5, (0, 0, 40, 0))]), (85, [(0, (3, 12, 285, 0)), (1, (0, 0, 19, 0)), (2, (0, 0, 7, 0)), (3, (0, 0, 5, 0)), (4, (0, 0, 2147483647, 0)), (5, (0, 0, 60, 0))]), (114, [(0, (3, 12, 285, 0)), (1, (0, 0, 19, 0)), (2, (0, 0, 7, 0)), (3, (0, 0, 5, 0)), (4, (0, 0, 2147483647, 0)), (5, (0, 0, 59, 0)), (6, (0, -1, 59, 0)), (7, (0, 0, 4, 0))])]
def Ab_283_11 (a0 a1 a2 a3 x0 x1 x2 x3 x4 x5 : Int) (h0 h : gH) : Prop := x1 = a1 ∧ x2 = a2 ∧ x3 = a3 ∧ XQ h ∧ SO h ∧ SS h ∧ (hV h 333) = (hV h0 333) ∧ (hV h 335) = (hV h0 335) ∧ hV h 285 65 = hV h0 285 65 ∧ x4 ≤ hV h 285 65
def mub_283_11 (a0 a1 a2 a3 x0 x1 x2 x3 x4 x5 : Int) (h0 h : gH) : Nat := (17179869184 + (2147483648 - x5).toNat) * 1099511627776 + 1099511627775
def Ab_283_85 (a0 a1 a2 a3 x0 x1 x2 x3 x4 x5 : Int) (h0 h : gH) : Prop := x1 = a1 ∧ x2 = a2 ∧ x3 = a3 ∧ XQ h ∧ SO h ∧ SS h ∧ (hV h 333) = (hV h0 333) ∧ (hV h 335) = (hV h0 335) ∧ hV h 285 65 = hV h0 285 65 ∧ x4 ≤ hV h 285 65
def mub_283_85 (a0 a1 a2 a3 x0 x1 x2 x3 x4 x5 : Int) (h0 h : gH) : Nat := (8589934592 + (2147483648 - x5).toNat) * 1099511627776 + 1099511627775
def Ab_283_114 (a0 a1 a2 a3 x0 x1 x2 x3 x4 x5 x6 x7 : Int) (h0 h : gH) : Prop := x1 = a1 ∧ x2 = a2 ∧ x3 = a3 ∧ XQ h ∧ SO h ∧ SS h ∧ (hV h 333) = (hV h0 333) ∧ (hV h 335) = (hV h0 335) ∧ hV h 285 65 = hV h0 285 65 ∧ x4 ≤ hV h 285 65
def mub_283_114 (a0 a1 a2 a3 x0 x1 x2 x3 x4 x5 x6 x7 : Int) (h0 h : gH) : Nat := (8589934592 + (2147483648 - x5).toNat) * 1099511627776 + (8589934592 + (2147483648 - x7).toNat) * 1
def A_283 : Int → List Int → gH → gH → Prop := fun c xs h0 h => match c.toNat with
  | 11 => (match xs with
    | [a0, a1, a2, a3, x0, x1, x2, x3, x4, x5] => Ab_283_11 a0 a1 a2 a3 x0 x1 x2 x3 x4 x5 h0 h
    | _ => False)
  | 85 => (match xs with
    | [a0, a1, a2, a3, x0, x1, x2, x3, x4, x5] => Ab_283_85 a0 a1 a2 a3 x0 x1 x2 x3 x4 x5 h0 h
    | _ => False)
  | 114 => (match xs with
    | [a0, a1, a2, a3, x0, x1, x2, x3, x4, x5, x6, x7] => Ab_283_114 a0 a1 a2 a3 x0 x1 x2 x3 x4 x5 x6 x7 h0 h
    | _ => False)
  | _ => True
def mu_283 : Int → List Int → gH → gH → Nat := fun c xs h0 h => match c.toNat with
  | 11 => (match xs with
    | [a0, a1, a2, a3, x0, x1, x2, x3, x4, x5] => mub_283_11 a0 a1 a2 a3 x0 x1 x2 x3 x4 x5 h0 h
    | _ => 0)
  | 85 => (match xs with
    | [a0, a1, a2, a3, x0, x1, x2, x3, x4, x5] => mub_283_85 a0 a1 a2 a3 x0 x1 x2 x3 x4 x5 h0 h
    | _ => 0)
  | 114 => (match xs with
    | [a0, a1, a2, a3, x0, x1, x2, x3, x4, x5, x6, x7] => mub_283_114 a0 a1 a2 a3 x0 x1 x2 x3 x4 x5 x6 x7 h0 h
    | _ => 0)
  | _ => 0
theorem q_283_0 {n0 n1 n2 n3 : Int} {H0 : gH} (f0 : n0 ≤ 5) (f1 : 0 ≤ n0) (f2 : n1 ≤ 7) (f3 : 0 ≤ n1) (f4 : n2 ≤ 19) (f5 : 0 ≤ n2) (f6 : n3 = 285) (f7 : hWt T0 H0 ∧ preb_283 n3 n2 n1 n0 H0) : preb_274 n3 n1 H0 := by
  unfold preb_283 at f7
  unfold preb_274
  have e0 : (0 : Int) ≤ hV H0 285 18 ∧ hV H0 285 18 ≤ 8 := f7.1 285 18 _ _ kW_285_18
  have e1 : (0 : Int) ≤ hV H0 285 64 ∧ hV H0 285 64 ≤ 20 := f7.1 285 64 _ _ kW_285_64
  have e2 : (0 : Int) ≤ hV H0 285 65 ∧ hV H0 285 65 ≤ 2147483647 := f7.1 285 65 _ _ kW_285_65
  try simp only [SO, SS, XQ]
  have p0 := f7.2.1
  have p1 := f7.2.2.1
  have p2 := f7.2.2.2.1
  have p3 := f7.2.2.2.2.1
  have p4 := f7.2.2.2.2.2.1
  have p5 := f7.2.2.2.2.2.2.1
  have p6 := f7.2.2.2.2.2.2.2
  try simp only [SO] at p4
  try simp only [SS] at p5
  clear f7
  refine ⟨?_, ?_, ?_⟩ <;> first | assumption | omega | trivial
def g_283_s_0 : vG := ([(6000, [0, 1, 2, 3], [0], 0), (0, [0], [], 285), (90, [1], [], 0), (91, [1], [], 19), (90, [2], [], 0), (91, [2], [], 7), (90, [3], [], 0), (91, [3], [], 5)], (2274, [0, 2], [0], 0))
theorem c_283_s_0 : vOkm T0 (eP e_283 L_283 A_283 mu_283 none) 4 g_283_s_0 := vOk_inI fun ρ η f0 f1 f2 f3 f4 f5 f6 f7 => q_283_0 (n0 := ρ 3) (n1 := ρ 2) (n2 := ρ 1) (n3 := ρ 0) (H0 := η 0) f7 f6 f5 f4 f3 f2 f1 f0
theorem kR_274_328 : vFreeR s_274.2.2.2.2 328 = true := by decide +kernel
theorem kR_274_330 : vFreeR s_274.2.2.2.2 330 = true := by decide +kernel
theorem kR_274_331 : vFreeR s_274.2.2.2.2 331 = true := by decide +kernel
theorem kR_274_332 : vFreeR s_274.2.2.2.2 332 = true := by decide +kernel
theorem kR_274_333 : vFreeR s_274.2.2.2.2 333 = true := by decide +kernel
theorem kR_274_334 : vFreeR s_274.2.2.2.2 334 = true := by decide +kernel
theorem kR_274_335 : vFreeR s_274.2.2.2.2 335 = true := by decide +kernel
theorem kR_274_336 : vFreeR s_274.2.2.2.2 336 = true := by decide +kernel
theorem kR_274_341 : vFreeR s_274.2.2.2.2 341 = true := by decide +kernel
theorem kF_274_285_65 : vFree s_274.2.2.2.2 285 65 = true := by decide +kernel
theorem q_283_1 {n0 n1 n2 n3 n4 n5 : Int} {H0 H1 : gH} (f0 : n0 ≤ 5) (f1 : 0 ≤ n0) (f2 : n1 ≤ 7) (f3 : 0 ≤ n1) (f4 : n2 ≤ 19) (f5 : 0 ≤ n2) (f6 : n3 = 285) (f7 : hWt T0 H0 ∧ preb_283 n3 n2 n1 n0 H0) (f8 : (hLe T0 H0 H1 ∧ hFr s_274.2.2.2.2 H0 H1 ∧ ((0 : Int) = 0 → H1.length = H0.length) ∧ hWt T0 H1) ∧ postb_274 n3 n1 H0 H1) (f9 : n4 = 0) (f10 : n5 = 0) : Ab_283_11 n3 n2 n1 n0 n3 n2 n1 n0 n4 n5 H0 H1 ∧ ∀ q, none = some q → mub_283_11 n3 n2 n1 n0 n3 n2 n1 n0 n4 n5 H0 H1 < q := by
  unfold preb_283 at f7
  unfold postb_274 at f8
  unfold Ab_283_11
  have e1 : hV H1 285 18 = hV H0 285 18 := (f8.1.2.1.1 285 18 kF_274_285_18)
  have e3 : hV H1 285 64 = hV H0 285 64 := (f8.1.2.1.1 285 64 kF_274_285_64)
  have e5 : hV H1 285 65 = hV H0 285 65 := (f8.1.2.1.1 285 65 kF_274_285_65)
  have e6 : hV H1 298 = hV H0 298 := fRow f8.1.2.1 298 kR_274_298
  have e7 : hV H1 300 = hV H0 300 := fRow f8.1.2.1 300 kR_274_300
  have e8 : hV H1 301 = hV H0 301 := fRow f8.1.2.1 301 kR_274_301
  have e9 : hV H1 302 = hV H0 302 := fRow f8.1.2.1 302 kR_274_302
  have e10 : hV H1 303 = hV H0 303 := fRow f8.1.2.1 303 kR_274_303
  have e11 : hV H1 305 = hV H0 305 := fRow f8.1.2.1 305 kR_274_305
  have e12 : hV H1 328 = hV H0 328 := fRow f8.1.2.1 328 kR_274_328
  have e13 : hV H1 330 = hV H0 330 := fRow f8.1.2.1 330 kR_274_330
  have e14 : hV H1 331 = hV H0 331 := fRow f8.1.2.1 331 kR_274_331
  have e15 : hV H1 332 = hV H0 332 := fRow f8.1.2.1 332 kR_274_332
  have e16 : hV H1 333 = hV H0 333 := fRow f8.1.2.1 333 kR_274_333
  have e17 : hV H1 334 = hV H0 334 := fRow f8.1.2.1 334 kR_274_334
  have e18 : hV H1 335 = hV H0 335 := fRow f8.1.2.1 335 kR_274_335
  have e19 : hV H1 336 = hV H0 336 := fRow f8.1.2.1 336 kR_274_336
  have e20 : hV H1 341 = hV H0 341 := fRow f8.1.2.1 341 kR_274_341
  have e21 : (0 : Int) ≤ hV H0 285 18 ∧ hV H0 285 18 ≤ 8 := f7.1 285 18 _ _ kW_285_18
  have e22 : (0 : Int) ≤ hV H0 285 64 ∧ hV H0 285 64 ≤ 20 := f7.1 285 64 _ _ kW_285_64
  have e23 : (0 : Int) ≤ hV H0 285 65 ∧ hV H0 285 65 ≤ 2147483647 := f7.1 285 65 _ _ kW_285_65
  have e27 : (0 : Int) ≤ hV H1 285 82 ∧ hV H1 285 82 ≤ 40 := f8.1.2.2.2 285 82 _ _ kW_285_82
  try simp only [SO, SS, XQ]
  try simp only [e1, e3, e5, e6, e7, e8, e9, e10, e11, e12, e13, e14, e15, e16, e17, e18, e19, e20]
  have p0 := f7.2.1
  have p1 := f7.2.2.1
  have p2 := f7.2.2.2.1
  have p3 := f7.2.2.2.2.1
  have p4 := f7.2.2.2.2.2.1
  have p5 := f7.2.2.2.2.2.2.1
  have p6 := f7.2.2.2.2.2.2.2
  have r0_0 := f8.2
  try simp only [SO] at p4
  try simp only [SS] at p5
  try simp only [XQ] at r0_0
  try simp only [e6, e7, e8, e9, e10, e11] at r0_0
  clear e1 e3 e5 e6 e7 e8 e9 e10 e11 e12 e13 e14 e15 e16 e17 e18 e19 e20
  clear f7 f8

  refine ⟨?_, fun q hq => ?_⟩
  · exact ⟨by first | omega | trivial, by first | omega | trivial, by first | omega | trivial, r0_0, p4, p5, (by first | rfl | trivial), (by first | rfl | trivial), (by first | omega | trivial), by omega⟩
  · exact nomatch hq
def g_283_s_1 : vG := ([(0, [5], [], 0), (0, [4], [], 0), (1274, [0, 2], [0, 1], 0), (6000, [0, 1, 2, 3], [0], 0), (0, [0], [], 285), (90, [1], [], 0), (91, [1], [], 19), (90, [2], [], 0), (91, [2], [], 7), (90, [3], [], 0), (91, [3], [], 5)], (4000, [0, 1, 2, 3, 4, 5], [1], 11))
theorem c_283_s_1 : vOkm T0 (eP e_283 L_283 A_283 mu_283 none) 4 g_283_s_1 := vOk_inI fun ρ η f0 f1 f2 f3 f4 f5 f6 f7 f8 f9 f10 => q_283_1 (n0 := ρ 3) (n1 := ρ 2) (n2 := ρ 1) (n3 := ρ 0) (n4 := ρ 4) (n5 := ρ 5) (H0 := η 0) (H1 := η 1) f10 f9 f8 f7 f6 f5 f4 f3 f2 f1 f0
def p_283_s : List vG := [g_283_s_0,
  g_283_s_1]
theorem r_283_s : vCovO false (eR0 e_283 L_283 cs_283 2000) p_283_s = true := by decide +kernel
theorem kR_283_298 : vFreeR s_283.2.2.2.2 298 = true := by decide +kernel
theorem kR_283_300 : vFreeR s_283.2.2.2.2 300 = true := by decide +kernel
theorem kR_283_301 : vFreeR s_283.2.2.2.2 301 = true := by decide +kernel
theorem kR_283_302 : vFreeR s_283.2.2.2.2 302 = true := by decide +kernel
theorem kR_283_303 : vFreeR s_283.2.2.2.2 303 = true := by decide +kernel
theorem kR_283_305 : vFreeR s_283.2.2.2.2 305 = true := by decide +kernel
theorem kR_283_328 : vFreeR s_283.2.2.2.2 328 = true := by decide +kernel
theorem kR_283_330 : vFreeR s_283.2.2.2.2 330 = true := by decide +kernel
theorem kR_283_331 : vFreeR s_283.2.2.2.2 331 = true := by decide +kernel
theorem kR_283_332 : vFreeR s_283.2.2.2.2 332 = true := by decide +kernel
theorem kR_283_341 : vFreeR s_283.2.2.2.2 341 = true := by decide +kernel
theorem kF_283_285_18 : vFree s_283.2.2.2.2 285 18 = true := by decide +kernel
theorem kF_283_285_64 : vFree s_283.2.2.2.2 285 64 = true := by decide +kernel
theorem q_283_2 {q0 : Nat} {n0 n1 n2 n3 n4 n5 n6 n7 n8 n9 n10 n11 : Int} {H0 H1 : gH} (f0 : n0 ≤ 40) (f1 : 0 ≤ n0) (f2 : n1 ≤ 2147483647) (f3 : 0 ≤ n1) (f4 : n2 ≤ 5) (f5 : 0 ≤ n2) (f6 : n3 ≤ 7) (f7 : 0 ≤ n3) (f8 : n4 ≤ 19) (f9 : 0 ≤ n4) (f10 : n5 = 285) (f11 : n6 ≤ 5) (f12 : 0 ≤ n6) (f13 : n7 ≤ 7) (f14 : 0 ≤ n7) (f15 : n8 ≤ 19) (f16 : 0 ≤ n8) (f17 : n9 = 285) (f18 : (hLe T0 H0 H1 ∧ hFr s_283.2.2.2.2 H0 H1 ∧ hWt T0 H1) ∧ (Ab_283_11 n9 n8 n7 n6 n5 n4 n3 n2 n1 n0 H0 H1 ∧ preb_283 n9 n8 n7 n6 H0) ∧ some q0 = some (mub_283_11 n9 n8 n7 n6 n5 n4 n3 n2 n1 n0 H0 H1)) (f19 : n10 ≤ 40) (f20 : 0 ≤ n10) (f21 : n10 = hV H1 (n5).toNat 82) (f22 : n10 ≤ n0) (f23 : n11 = 0) : Ab_283_85 n9 n8 n7 n6 n5 n4 n3 n2 n1 n11 H0 H1 ∧ ∀ q, some q0 = some q → mub_283_85 n9 n8 n7 n6 n5 n4 n3 n2 n1 n11 H0 H1 < q := by
  have g4 := f18.2.1.1
  unfold Ab_283_11 at g4
  have g3 := f18.2.1.2
  unfold preb_283 at g3
  have g5 := Option.some.inj f18.2.2
  unfold mub_283_11 at g5
  unfold Ab_283_85
  unfold mub_283_85
  have e0 : n10 = hV H1 285 82 := (by rw [f10] at f21; exact f21 : n10 = hV H1 285 82)
  have e2 : hV H1 285 18 = hV H0 285 18 := (f18.1.2.1.1 285 18 kF_283_285_18)
  have e4 : hV H1 285 64 = hV H0 285 64 := (f18.1.2.1.1 285 64 kF_283_285_64)
  have e5 : hV H1 298 = hV H0 298 := fRow f18.1.2.1 298 kR_283_298
  have e6 : hV H1 300 = hV H0 300 := fRow f18.1.2.1 300 kR_283_300
  have e7 : hV H1 301 = hV H0 301 := fRow f18.1.2.1 301 kR_283_301
  have e8 : hV H1 302 = hV H0 302 := fRow f18.1.2.1 302 kR_283_302
  have e9 : hV H1 303 = hV H0 303 := fRow f18.1.2.1 303 kR_283_303
  have e10 : hV H1 305 = hV H0 305 := fRow f18.1.2.1 305 kR_283_305
  have e11 : hV H1 328 = hV H0 328 := fRow f18.1.2.1 328 kR_283_328
  have e12 : hV H1 330 = hV H0 330 := fRow f18.1.2.1 330 kR_283_330
  have e13 : hV H1 331 = hV H0 331 := fRow f18.1.2.1 331 kR_283_331
  have e14 : hV H1 332 = hV H0 332 := fRow f18.1.2.1 332 kR_283_332
  have e15 : hV H1 341 = hV H0 341 := fRow f18.1.2.1 341 kR_283_341
  have e16 : (0 : Int) ≤ hV H0 285 18 ∧ hV H0 285 18 ≤ 8 := bTo e2 (f18.1.2.2 285 18 _ _ kW_285_18)
  have e17 : (0 : Int) ≤ hV H0 285 64 ∧ hV H0 285 64 ≤ 20 := bTo e4 (f18.1.2.2 285 64 _ _ kW_285_64)
  have e18 : (0 : Int) ≤ hV H1 285 65 ∧ hV H1 285 65 ≤ 2147483647 := f18.1.2.2 285 65 _ _ kW_285_65
  have e19 : (0 : Int) ≤ hV H1 285 82 ∧ hV H1 285 82 ≤ 40 := f18.1.2.2 285 82 _ _ kW_285_82
  try simp only [SO, SS, XQ]
  try simp only [e2, e4, e5, e6, e7, e8, e9, e10, e11, e12, e13, e14, e15]
  have k0 := g4.1
  have k1 := g4.2.1
  have k2 := g4.2.2.1
  have y0 := g4.2.2.2.1
  have y1 := g4.2.2.2.2.1
  have y2 := g4.2.2.2.2.2.1
  have y3 := g4.2.2.2.2.2.2.1
  have y4 := g4.2.2.2.2.2.2.2.1
  have y5 := g4.2.2.2.2.2.2.2.2.1
  have y6 := g4.2.2.2.2.2.2.2.2.2
  have p0 := g3.1
  have p1 := g3.2.1
  have p2 := g3.2.2.1
  have p3 := g3.2.2.2.1
  have p4 := g3.2.2.2.2.1
  have p5 := g3.2.2.2.2.2.1
  have p6 := g3.2.2.2.2.2.2
  try simp only [XQ] at y0
  try simp only [SO] at y1
  try simp only [SS] at y2
  try simp only [SO] at p4
  try simp only [SS] at p5
  try simp only [e5, e6, e7, e8, e9, e10] at y0
  try simp only [e2, e4, e11, e12, e13, e14] at y1
  try simp only [e15] at y2
  clear g3
  clear g4
  clear f21 e2 e4 e5 e6 e7 e8 e9 e10 e11 e12 e13 e14 e15
  clear f18
  subst e0
  try have xg := XQp_g y0 (s := (n0).toNat) (by omega) (by omega)
  try have sg := SS_gen y2 (hV H0 300 (hV H1 344 (n0).toNat).toNat) (by omega) (by omega)

  refine ⟨?_, fun q hq => ?_⟩
  · exact ⟨by first | omega | trivial, by first | omega | trivial, by first | omega | trivial, y0, y1, y2, y3, y4, by omega, by omega⟩
  · have g6 := Option.some.inj hq
    subst g6
    omega
def g_283_11_0 : vG := ([(0, [11], [], 0), (43, [9, 10], [], 0), (20, [10, 4], [1], 82), (90, [10], [], 0), (91, [10], [], 40), (5000, [0, 1, 2, 3, 4, 5, 6, 7, 8, 9], [0, 1], 11), (0, [0], [], 285), (90, [1], [], 0), (91, [1], [], 19), (90, [2], [], 0), (91, [2], [], 7), (90, [3], [], 0), (91, [3], [], 5), (0, [4], [], 285), (90, [5], [], 0), (91, [5], [], 19), (90, [6], [], 0), (91, [6], [], 7), (90, [7], [], 0), (91, [7], [], 5), (90, [8], [], 0), (91, [8], [], 2147483647), (90, [9], [], 0), (91, [9], [], 40)], (4000, [4, 5, 6, 7, 8, 11], [1], 85))
theorem c_283_11_0 {q0 : Nat} : vOkm T0 (eP e_283 L_283 A_283 mu_283 (some q0)) 4 g_283_11_0 := vOk_inI fun ρ η f0 f1 f2 f3 f4 f5 f6 f7 f8 f9 f10 f11 f12 f13 f14 f15 f16 f17 f18 f19 f20 f21 f22 f23 => q_283_2 (q0 := q0) (n0 := ρ 9) (n1 := ρ 8) (n2 := ρ 7) (n3 := ρ 6) (n4 := ρ 5) (n5 := ρ 4) (n6 := ρ 3) (n7 := ρ 2) (n8 := ρ 1) (n9 := ρ 0) (n10 := ρ 10) (n11 := ρ 11) (H0 := η 0) (H1 := η 1) f23 f22 f21 f20 f19 f18 f17 f16 f15 f14 f13 f12 f11 f10 f9 f8 f7 f6 f5 f4 f3 f2 f1 f0
theorem q_283_3 {q0 : Nat} {n0 n1 : Int} {H0 : gH} (f0 : 0 ≤ n0) (f1 : n1 ≤ 40) (f2 : n0 < n1) : 0 ≤ n0 ∧ n0 < 40 := by
  try simp only [SO, SS, XQ]
  omega
def g_283_11_1 : vG := ([(42, [9, 10], [], 0), (91, [10], [], 40), (90, [9], [], 0)], (70, [9], [], 40))
theorem c_283_11_1 {q0 : Nat} : vOkm T0 (eP e_283 L_283 A_283 mu_283 (some q0)) 4 g_283_11_1 := vOk_inI fun ρ η f0 f1 f2 => q_283_3 (q0 := q0) (n0 := ρ 9) (n1 := ρ 10) (H0 := η 0) f2 f1 f0
theorem q_283_4 {q0 : Nat} {n0 n1 n2 : Int} {H0 : gH} (f0 : 0 ≤ n0) (f1 : n1 ≤ 40) (f2 : n0 < n1) (f3 : n2 = w32 (n0 + 1)) : 0 ≤ n2 := by
  try simp only [SO, SS, XQ]
  first
  | (have ix0 : n2 = n0 + 1 := Eq.trans f3 (w32_id (by omega) (by omega)); subst ix0; clear f3)
  | (unfold w32 at f3; have ix0 : n2 = n0 + 1 := (by omega); subst ix0)
  | skip
  try unfold w32 at f3
  omega
def g_283_11_2 : vG := ([(10, [15, 9], [], 1), (42, [9, 10], [], 0), (91, [10], [], 40), (90, [9], [], 0)], (90, [15], [], 0))
theorem c_283_11_2 {q0 : Nat} : vOkm T0 (eP e_283 L_283 A_283 mu_283 (some q0)) 4 g_283_11_2 := vOk_inI fun ρ η f0 f1 f2 f3 => q_283_4 (q0 := q0) (n0 := ρ 9) (n1 := ρ 10) (n2 := ρ 15) (H0 := η 0) f3 f2 f1 f0
theorem q_283_5 {q0 : Nat} {n0 n1 n2 : Int} {H0 : gH} (f0 : 0 ≤ n0) (f1 : n1 ≤ 40) (f2 : n0 < n1) (f3 : n2 = w32 (n0 + 1)) : n2 ≤ 40 := by
  try simp only [SO, SS, XQ]
  first
  | (have ix0 : n2 = n0 + 1 := Eq.trans f3 (w32_id (by omega) (by omega)); subst ix0; clear f3)
  | (unfold w32 at f3; have ix0 : n2 = n0 + 1 := (by omega); subst ix0)
  | skip
  try unfold w32 at f3
  omega
def g_283_11_3 : vG := ([(10, [15, 9], [], 1), (42, [9, 10], [], 0), (91, [10], [], 40), (90, [9], [], 0)], (91, [15], [], 40))
theorem c_283_11_3 {q0 : Nat} : vOkm T0 (eP e_283 L_283 A_283 mu_283 (some q0)) 4 g_283_11_3 := vOk_inI fun ρ η f0 f1 f2 f3 => q_283_5 (q0 := q0) (n0 := ρ 9) (n1 := ρ 10) (n2 := ρ 15) (H0 := η 0) f3 f2 f1 f0
theorem q_283_6 {q0 : Nat} {n0 n1 n2 n3 n4 n5 n6 n7 n8 n9 n10 n11 n12 n13 n14 n15 : Int} {H0 H1 : gH} (f0 : n0 ≤ 40) (f1 : 0 ≤ n0) (f2 : n1 ≤ 2147483647) (f3 : 0 ≤ n1) (f4 : n2 ≤ 5) (f5 : 0 ≤ n2) (f6 : n3 ≤ 7) (f7 : 0 ≤ n3) (f8 : n4 ≤ 19) (f9 : 0 ≤ n4) (f10 : n5 = 285) (f11 : n6 ≤ 5) (f12 : 0 ≤ n6) (f13 : n7 ≤ 7) (f14 : 0 ≤ n7) (f15 : n8 ≤ 19) (f16 : 0 ≤ n8) (f17 : n9 = 285) (f18 : (hLe T0 H0 H1 ∧ hFr s_283.2.2.2.2 H0 H1 ∧ hWt T0 H1) ∧ (Ab_283_11 n9 n8 n7 n6 n5 n4 n3 n2 n1 n0 H0 H1 ∧ preb_283 n9 n8 n7 n6 H0) ∧ some q0 = some (mub_283_11 n9 n8 n7 n6 n5 n4 n3 n2 n1 n0 H0 H1)) (f19 : n10 ≤ 40) (f20 : 0 ≤ n10) (f21 : n10 = hV H1 (n5).toNat 82) (f22 : n0 < n10) (f23 : n11 = 298) (f24 : n11 = hV H1 (n5).toNat 24) (f25 : n12 = 344) (f26 : n12 = hV H1 (n5).toNat 83) (f27 : n13 ≤ 1007) (f28 : 0 ≤ n13) (f29 : n13 = hV H1 (n12).toNat (n0).toNat) (f30 : n14 ≤ 5) (f31 : 0 ≤ n14) (f32 : n14 = hV H1 (n11).toNat (n13).toNat) (f33 : n14 ≠ 0) (f34 : n15 = w32 (n0 + 1)) : Ab_283_11 n9 n8 n7 n6 n5 n4 n3 n2 n1 n15 H0 H1 ∧ ∀ q, some q0 = some q → mub_283_11 n9 n8 n7 n6 n5 n4 n3 n2 n1 n15 H0 H1 < q := by
  have g4 := f18.2.1.1
  unfold Ab_283_11 at g4
  have g3 := f18.2.1.2
  unfold preb_283 at g3
  have g5 := Option.some.inj f18.2.2
  unfold mub_283_11 at g5
  unfold Ab_283_11
  unfold mub_283_11
  have e0 : n10 = hV H1 285 82 := (by rw [f10] at f21; exact f21 : n10 = hV H1 285 82)
  have e1 : n13 = hV H1 344 (n0).toNat := (by rw [f25] at f29; exact f29 : n13 = hV H1 344 (n0).toNat)
  have e2 : hV H1 298 = hV H0 298 := fRow f18.1.2.1 298 kR_283_298
  have e3 : n14 = hV H0 298 (n13).toNat := (by rw [f23] at f32; exact f32 : n14 = hV H1 298 (n13).toNat).trans ((congrFun e2 _))
  have e5 : hV H1 285 18 = hV H0 285 18 := (f18.1.2.1.1 285 18 kF_283_285_18)
  have e7 : hV H1 285 64 = hV H0 285 64 := (f18.1.2.1.1 285 64 kF_283_285_64)
  have e8 : hV H1 300 = hV H0 300 := fRow f18.1.2.1 300 kR_283_300
  have e9 : hV H1 301 = hV H0 301 := fRow f18.1.2.1 301 kR_283_301
  have e10 : hV H1 302 = hV H0 302 := fRow f18.1.2.1 302 kR_283_302
  have e11 : hV H1 303 = hV H0 303 := fRow f18.1.2.1 303 kR_283_303
  have e12 : hV H1 305 = hV H0 305 := fRow f18.1.2.1 305 kR_283_305
  have e13 : hV H1 328 = hV H0 328 := fRow f18.1.2.1 328 kR_283_328
  have e14 : hV H1 330 = hV H0 330 := fRow f18.1.2.1 330 kR_283_330
  have e15 : hV H1 331 = hV H0 331 := fRow f18.1.2.1 331 kR_283_331
  have e16 : hV H1 332 = hV H0 332 := fRow f18.1.2.1 332 kR_283_332
  have e17 : hV H1 341 = hV H0 341 := fRow f18.1.2.1 341 kR_283_341
  have e18 : (0 : Int) ≤ hV H0 285 18 ∧ hV H0 285 18 ≤ 8 := bTo e5 (f18.1.2.2 285 18 _ _ kW_285_18)
  have e19 : (0 : Int) ≤ hV H0 285 64 ∧ hV H0 285 64 ≤ 20 := bTo e7 (f18.1.2.2 285 64 _ _ kW_285_64)
  have e20 : (0 : Int) ≤ hV H1 285 65 ∧ hV H1 285 65 ≤ 2147483647 := f18.1.2.2 285 65 _ _ kW_285_65
  have e21 : (0 : Int) ≤ hV H1 285 82 ∧ hV H1 285 82 ≤ 40 := f18.1.2.2 285 82 _ _ kW_285_82
  try simp only [SO, SS, XQ]
  try simp only [e5, e7, e2, e8, e9, e10, e11, e12, e13, e14, e15, e16, e17]
  have k0 := g4.1
  have k1 := g4.2.1
  have k2 := g4.2.2.1
  have y0 := g4.2.2.2.1
  have y1 := g4.2.2.2.2.1
  have y2 := g4.2.2.2.2.2.1
  have y3 := g4.2.2.2.2.2.2.1
  have y4 := g4.2.2.2.2.2.2.2.1
  have y5 := g4.2.2.2.2.2.2.2.2.1
  have y6 := g4.2.2.2.2.2.2.2.2.2
  have p0 := g3.1
  have p1 := g3.2.1
  have p2 := g3.2.2.1
  have p3 := g3.2.2.2.1
  have p4 := g3.2.2.2.2.1
  have p5 := g3.2.2.2.2.2.1
  have p6 := g3.2.2.2.2.2.2
  try simp only [XQ] at y0
  try simp only [SO] at y1
  try simp only [SS] at y2
  try simp only [SO] at p4
  try simp only [SS] at p5
  try simp only [e2, e8, e9, e10, e11, e12] at y0
  try simp only [e5, e7, e13, e14, e15, e16] at y1
  try simp only [e17] at y2
  clear g3
  clear g4
  clear f21 f24 f26 f29 f32 e2 e5 e7 e8 e9 e10 e11 e12 e13 e14 e15 e16 e17
  clear f18
  subst e0
  subst e1
  subst e3
  try have xg := XQp_g y0 (s := (n0).toNat) (by omega) (by omega)
  try have sg := SS_gen y2 (hV H0 300 (hV H1 344 (n0).toNat).toNat) (by omega) (by omega)
  first
  | (have ix0 : n15 = n0 + 1 := Eq.trans f34 (w32_iv (Iad (Iat f1 f0) (IC 1)) (by decide)); subst ix0; clear f34)
  | (have ix0 : n15 = n0 + 1 := Eq.trans f34 (w32_id (by omega) (by omega)); subst ix0; clear f34)
  | (unfold w32 at f34; have ix0 : n15 = n0 + 1 := (by omega); subst ix0)
  | skip
  try unfold w32 at f34

  refine ⟨?_, fun q hq => ?_⟩
  · exact ⟨by first | omega | trivial, by first | omega | trivial, by first | omega | trivial, y0, y1, y2, y3, y4, by omega, by omega⟩
  · have g6 := Option.some.inj hq
    subst g6
    omega
def g_283_11_4 : vG := ([(10, [15, 9], [], 1), (31, [14], [], 0), (22, [14, 11, 13], [1], 0), (90, [14], [], 0), (91, [14], [], 5), (22, [13, 12, 9], [1], 0), (90, [13], [], 0), (91, [13], [], 1007), (20, [12, 4], [1], 83), (0, [12], [], 344), (20, [11, 4], [1], 24), (0, [11], [], 298), (42, [9, 10], [], 0), (20, [10, 4], [1], 82), (90, [10], [], 0), (91, [10], [], 40), (5000, [0, 1, 2, 3, 4, 5, 6, 7, 8, 9], [0, 1], 11), (0, [0], [], 285), (90, [1], [], 0), (91, [1], [], 19), (90, [2], [], 0), (91, [2], [], 7), (90, [3], [], 0), (91, [3], [], 5), (0, [4], [], 285), (90, [5], [], 0), (91, [5], [], 19), (90, [6], [], 0), (91, [6], [], 7), (90, [7], [], 0), (91, [7], [], 5), (90, [8], [], 0), (91, [8], [], 2147483647), (90, [9], [], 0), (91, [9], [], 40)], (4000, [4, 5, 6, 7, 8, 15], [1], 11))
theorem c_283_11_4 {q0 : Nat} : vOkm T0 (eP e_283 L_283 A_283 mu_283 (some q0)) 4 g_283_11_4 := vOk_inI fun ρ η f0 f1 f2 f3 f4 f5 f6 f7 f8 f9 f10 f11 f12 f13 f14 f15 f16 f17 f18 f19 f20 f21 f22 f23 f24 f25 f26 f27 f28 f29 f30 f31 f32 f33 f34 => q_283_6 (q0 := q0) (n0 := ρ 9) (n1 := ρ 8) (n2 := ρ 7) (n3 := ρ 6) (n4 := ρ 5) (n5 := ρ 4) (n6 := ρ 3) (n7 := ρ 2) (n8 := ρ 1) (n9 := ρ 0) (n10 := ρ 10) (n11 := ρ 11) (n12 := ρ 12) (n13 := ρ 13) (n14 := ρ 14) (n15 := ρ 15) (H0 := η 0) (H1 := η 1) f34 f33 f32 f31 f30 f29 f28 f27 f26 f25 f24 f23 f22 f21 f20 f19 f18 f17 f16 f15 f14 f13 f12 f11 f10 f9 f8 f7 f6 f5 f4 f3 f2 f1 f0
def g_283_11_5 : vG := ([(42, [9, 10], [], 0), (91, [10], [], 40), (90, [9], [], 0)], (70, [9], [], 40))
theorem c_283_11_5 {q0 : Nat} : vOkm T0 (eP e_283 L_283 A_283 mu_283 (some q0)) 4 g_283_11_5 := vOk_inI fun ρ η f0 f1 f2 => q_283_3 (q0 := q0) (n0 := ρ 9) (n1 := ρ 10) (H0 := η 0) f2 f1 f0
theorem q_283_7 {q0 : Nat} {n0 n1 n2 n3 n4 n5 n6 n7 n8 n9 n10 n11 n12 n13 n14 n15 n16 n17 n18 : Int} {H0 H1 : gH} (f0 : n0 ≤ 40) (f1 : 0 ≤ n0) (f2 : n1 ≤ 2147483647) (f3 : 0 ≤ n1) (f4 : n2 ≤ 5) (f5 : 0 ≤ n2) (f6 : n3 ≤ 7) (f7 : 0 ≤ n3) (f8 : n4 ≤ 19) (f9 : 0 ≤ n4) (f10 : n5 = 285) (f11 : n6 ≤ 5) (f12 : 0 ≤ n6) (f13 : n7 ≤ 7) (f14 : 0 ≤ n7) (f15 : n8 ≤ 19) (f16 : 0 ≤ n8) (f17 : n9 = 285) (f18 : (hLe T0 H0 H1 ∧ hFr s_283.2.2.2.2 H0 H1 ∧ hWt T0 H1) ∧ (Ab_283_11 n9 n8 n7 n6 n5 n4 n3 n2 n1 n0 H0 H1 ∧ preb_283 n9 n8 n7 n6 H0) ∧ some q0 = some (mub_283_11 n9 n8 n7 n6 n5 n4 n3 n2 n1 n0 H0 H1)) (f19 : n10 ≤ 40) (f20 : 0 ≤ n10) (f21 : n10 = hV H1 (n5).toNat 82) (f22 : n0 < n10) (f23 : n11 = 298) (f24 : n11 = hV H1 (n5).toNat 24) (f25 : n12 = 344) (f26 : n12 = hV H1 (n5).toNat 83) (f27 : n13 ≤ 1007) (f28 : 0 ≤ n13) (f29 : n13 = hV H1 (n12).toNat (n0).toNat) (f30 : n14 ≤ 5) (f31 : 0 ≤ n14) (f32 : n14 = hV H1 (n11).toNat (n13).toNat) (f33 : n14 = 0) (f34 : n15 = 300) (f35 : n15 = hV H1 (n5).toNat 26) (f36 : n16 = 344) (f37 : n16 = hV H1 (n5).toNat 83) (f38 : n17 ≤ 1007) (f39 : 0 ≤ n17) (f40 : n17 = hV H1 (n16).toNat (n0).toNat) (f41 : n18 ≤ 9999) (f42 : (-1) ≤ n18) (f43 : n18 = hV H1 (n15).toNat (n17).toNat) : 0 ≤ n18 ∧ n18 < 20 := by
  have g4 := f18.2.1.1
  unfold Ab_283_11 at g4
  have g3 := f18.2.1.2
  unfold preb_283 at g3
  have e0 : n10 = hV H1 285 82 := (by rw [f10] at f21; exact f21 : n10 = hV H1 285 82)
  have e1 : n13 = hV H1 344 (n0).toNat := (by rw [f25] at f29; exact f29 : n13 = hV H1 344 (n0).toNat)
  have e2 : hV H1 298 = hV H0 298 := fRow f18.1.2.1 298 kR_283_298
  have e3 : n14 = hV H0 298 (n13).toNat := (by rw [f23] at f32; exact f32 : n14 = hV H1 298 (n13).toNat).trans ((congrFun e2 _))
  have e4 : n17 = hV H1 344 (n0).toNat := (by rw [f36] at f40; exact f40 : n17 = hV H1 344 (n0).toNat)
  have e5 : hV H1 300 = hV H0 300 := fRow f18.1.2.1 300 kR_283_300
  have e6 : n18 = hV H0 300 (n17).toNat := (by rw [f34] at f43; exact f43 : n18 = hV H1 300 (n17).toNat).trans ((congrFun e5 _))
  have e8 : hV H1 285 18 = hV H0 285 18 := (f18.1.2.1.1 285 18 kF_283_285_18)
  have e10 : hV H1 285 64 = hV H0 285 64 := (f18.1.2.1.1 285 64 kF_283_285_64)
  have e11 : hV H1 301 = hV H0 301 := fRow f18.1.2.1 301 kR_283_301
  have e12 : hV H1 302 = hV H0 302 := fRow f18.1.2.1 302 kR_283_302
  have e13 : hV H1 303 = hV H0 303 := fRow f18.1.2.1 303 kR_283_303
  have e14 : hV H1 305 = hV H0 305 := fRow f18.1.2.1 305 kR_283_305
  have e15 : hV H1 328 = hV H0 328 := fRow f18.1.2.1 328 kR_283_328
  have e16 : hV H1 330 = hV H0 330 := fRow f18.1.2.1 330 kR_283_330
  have e17 : hV H1 331 = hV H0 331 := fRow f18.1.2.1 331 kR_283_331
  have e18 : hV H1 332 = hV H0 332 := fRow f18.1.2.1 332 kR_283_332
  have e19 : hV H1 341 = hV H0 341 := fRow f18.1.2.1 341 kR_283_341
  have e20 : (0 : Int) ≤ hV H0 285 18 ∧ hV H0 285 18 ≤ 8 := bTo e8 (f18.1.2.2 285 18 _ _ kW_285_18)
  have e21 : (0 : Int) ≤ hV H0 285 64 ∧ hV H0 285 64 ≤ 20 := bTo e10 (f18.1.2.2 285 64 _ _ kW_285_64)
  have e22 : (0 : Int) ≤ hV H1 285 65 ∧ hV H1 285 65 ≤ 2147483647 := f18.1.2.2 285 65 _ _ kW_285_65
  have e23 : (0 : Int) ≤ hV H1 285 82 ∧ hV H1 285 82 ≤ 40 := f18.1.2.2 285 82 _ _ kW_285_82
  try simp only [SO, SS, XQ]
  have k0 := g4.1
  have k1 := g4.2.1
  have k2 := g4.2.2.1
  have y0 := g4.2.2.2.1
  have y1 := g4.2.2.2.2.1
  have y2 := g4.2.2.2.2.2.1
  have y3 := g4.2.2.2.2.2.2.1
  have y4 := g4.2.2.2.2.2.2.2.1
  have y5 := g4.2.2.2.2.2.2.2.2.1
  have y6 := g4.2.2.2.2.2.2.2.2.2
  have p0 := g3.1
  have p1 := g3.2.1
  have p2 := g3.2.2.1
  have p3 := g3.2.2.2.1
  have p4 := g3.2.2.2.2.1
  have p5 := g3.2.2.2.2.2.1
  have p6 := g3.2.2.2.2.2.2
  try simp only [XQ] at y0
  try simp only [SO] at y1
  try simp only [SS] at y2
  try simp only [SO] at p4
  try simp only [SS] at p5
  try simp only [e2, e5, e11, e12, e13, e14] at y0
  try simp only [e8, e10, e15, e16, e17, e18] at y1
  try simp only [e19] at y2
  clear g3
  clear g4
  clear f21 f24 f26 f29 f32 f35 f37 f40 f43 e2 e5 e8 e10 e11 e12 e13 e14 e15 e16 e17 e18 e19
  clear f18
  subst e0
  subst e1
  subst e3
  subst e4
  subst e6
  try have xg := XQp_g y0 (s := (n0).toNat) (by omega) (by omega)
  try have sg := SS_gen y2 (hV H0 300 (hV H1 344 (n0).toNat).toNat) (by omega) (by omega)
  try subst k2
  try subst k1
  try subst k0
  omega
def g_283_11_6 : vG := ([(22, [19, 16, 18], [1], 0), (90, [19], [], -1), (91, [19], [], 9999), (22, [18, 17, 9], [1], 0), (90, [18], [], 0), (91, [18], [], 1007), (20, [17, 4], [1], 83), (0, [17], [], 344), (20, [16, 4], [1], 26), (0, [16], [], 300), (30, [14], [], 0), (22, [14, 11, 13], [1], 0), (90, [14], [], 0), (91, [14], [], 5), (22, [13, 12, 9], [1], 0), (90, [13], [], 0), (91, [13], [], 1007), (20, [12, 4], [1], 83), (0, [12], [], 344), (20, [11, 4], [1], 24), (0, [11], [], 298), (42, [9, 10], [], 0), (20, [10, 4], [1], 82), (90, [10], [], 0), (91, [10], [], 40), (5000, [0, 1, 2, 3, 4, 5, 6, 7, 8, 9], [0, 1], 11), (0, [0], [], 285), (90, [1], [], 0), (91, [1], [], 19), (90, [2], [], 0), (91, [2], [], 7), (90, [3], [], 0), (91, [3], [], 5), (0, [4], [], 285), (90, [5], [], 0), (91, [5], [], 19), (90, [6], [], 0), (91, [6], [], 7), (90, [7], [], 0), (91, [7], [], 5), (90, [8], [], 0), (91, [8], [], 2147483647), (90, [9], [], 0), (91, [9], [], 40)], (70, [19], [], 20))
theorem c_283_11_6 {q0 : Nat} : vOkm T0 (eP e_283 L_283 A_283 mu_283 (some q0)) 4 g_283_11_6 := vOk_inI fun ρ η f0 f1 f2 f3 f4 f5 f6 f7 f8 f9 f10 f11 f12 f13 f14 f15 f16 f17 f18 f19 f20 f21 f22 f23 f24 f25 f26 f27 f28 f29 f30 f31 f32 f33 f34 f35 f36 f37 f38 f39 f40 f41 f42 f43 => q_283_7 (q0 := q0) (n0 := ρ 9) (n1 := ρ 8) (n2 := ρ 7) (n3 := ρ 6) (n4 := ρ 5) (n5 := ρ 4) (n6 := ρ 3) (n7 := ρ 2) (n8 := ρ 1) (n9 := ρ 0) (n10 := ρ 10) (n11 := ρ 11) (n12 := ρ 12) (n13 := ρ 13) (n14 := ρ 14) (n15 := ρ 16) (n16 := ρ 17) (n17 := ρ 18) (n18 := ρ 19) (H0 := η 0) (H1 := η 1) f43 f42 f41 f40 f39 f38 f37 f36 f35 f34 f33 f32 f31 f30 f29 f28 f27 f26 f25 f24 f23 f22 f21 f20 f19 f18 f17 f16 f15 f14 f13 f12 f11 f10 f9 f8 f7 f6 f5 f4 f3 f2 f1 f0
def g_283_11_7 : vG := ([(10, [21, 9], [], 1), (42, [9, 10], [], 0), (91, [10], [], 40), (90, [9], [], 0)], (90, [21], [], 0))
theorem c_283_11_7 {q0 : Nat} : vOkm T0 (eP e_283 L_283 A_283 mu_283 (some q0)) 4 g_283_11_7 := vOk_inI fun ρ η f0 f1 f2 f3 => q_283_4 (q0 := q0) (n0 := ρ 9) (n1 := ρ 10) (n2 := ρ 21) (H0 := η 0) f3 f2 f1 f0
def g_283_11_8 : vG := ([(10, [21, 9], [], 1), (42, [9, 10], [], 0), (91, [10], [], 40), (90, [9], [], 0)], (91, [21], [], 40))
theorem c_283_11_8 {q0 : Nat} : vOkm T0 (eP e_283 L_283 A_283 mu_283 (some q0)) 4 g_283_11_8 := vOk_inI fun ρ η f0 f1 f2 f3 => q_283_5 (q0 := q0) (n0 := ρ 9) (n1 := ρ 10) (n2 := ρ 21) (H0 := η 0) f3 f2 f1 f0
theorem q_283_8 {q0 : Nat} {n0 n1 n2 n3 n4 n5 n6 n7 n8 n9 n10 n11 n12 n13 n14 n15 n16 n17 n18 n19 n20 n21 : Int} {H0 H1 : gH} (f0 : n0 ≤ 40) (f1 : 0 ≤ n0) (f2 : n1 ≤ 2147483647) (f3 : 0 ≤ n1) (f4 : n2 ≤ 5) (f5 : 0 ≤ n2) (f6 : n3 ≤ 7) (f7 : 0 ≤ n3) (f8 : n4 ≤ 19) (f9 : 0 ≤ n4) (f10 : n5 = 285) (f11 : n6 ≤ 5) (f12 : 0 ≤ n6) (f13 : n7 ≤ 7) (f14 : 0 ≤ n7) (f15 : n8 ≤ 19) (f16 : 0 ≤ n8) (f17 : n9 = 285) (f18 : (hLe T0 H0 H1 ∧ hFr s_283.2.2.2.2 H0 H1 ∧ hWt T0 H1) ∧ (Ab_283_11 n9 n8 n7 n6 n5 n4 n3 n2 n1 n0 H0 H1 ∧ preb_283 n9 n8 n7 n6 H0) ∧ some q0 = some (mub_283_11 n9 n8 n7 n6 n5 n4 n3 n2 n1 n0 H0 H1)) (f19 : n10 ≤ 40) (f20 : 0 ≤ n10) (f21 : n10 = hV H1 (n5).toNat 82) (f22 : n0 < n10) (f23 : n11 = 298) (f24 : n11 = hV H1 (n5).toNat 24) (f25 : n12 = 344) (f26 : n12 = hV H1 (n5).toNat 83) (f27 : n13 ≤ 1007) (f28 : 0 ≤ n13) (f29 : n13 = hV H1 (n12).toNat (n0).toNat) (f30 : n14 ≤ 5) (f31 : 0 ≤ n14) (f32 : n14 = hV H1 (n11).toNat (n13).toNat) (f33 : n14 = 0) (f34 : n15 = 334) (f35 : n15 = hV H1 (n5).toNat 72) (f36 : n16 = 300) (f37 : n16 = hV H1 (n5).toNat 26) (f38 : n17 = 344) (f39 : n17 = hV H1 (n5).toNat 83) (f40 : n18 ≤ 1007) (f41 : 0 ≤ n18) (f42 : n18 = hV H1 (n17).toNat (n0).toNat) (f43 : n19 ≤ 9999) (f44 : (-1) ≤ n19) (f45 : n19 = hV H1 (n16).toNat (n18).toNat) (f46 : n20 ≤ 2147483647) (f47 : 0 ≤ n20) (f48 : n20 = hV H1 (n15).toNat (n19).toNat) (f49 : n20 ≤ n1) (f50 : n21 = w32 (n0 + 1)) : Ab_283_11 n9 n8 n7 n6 n5 n4 n3 n2 n1 n21 H0 H1 ∧ ∀ q, some q0 = some q → mub_283_11 n9 n8 n7 n6 n5 n4 n3 n2 n1 n21 H0 H1 < q := by
  have g4 := f18.2.1.1
  unfold Ab_283_11 at g4
  have g3 := f18.2.1.2
  unfold preb_283 at g3
  have g5 := Option.some.inj f18.2.2
  unfold mub_283_11 at g5
  unfold Ab_283_11
  unfold mub_283_11
  have e0 : n10 = hV H1 285 82 := (by rw [f10] at f21; exact f21 : n10 = hV H1 285 82)
  have e1 : n13 = hV H1 344 (n0).toNat := (by rw [f25] at f29; exact f29 : n13 = hV H1 344 (n0).toNat)
  have e2 : hV H1 298 = hV H0 298 := fRow f18.1.2.1 298 kR_283_298
  have e3 : n14 = hV H0 298 (n13).toNat := (by rw [f23] at f32; exact f32 : n14 = hV H1 298 (n13).toNat).trans ((congrFun e2 _))
  have e4 : n18 = hV H1 344 (n0).toNat := (by rw [f38] at f42; exact f42 : n18 = hV H1 344 (n0).toNat)
  have e5 : hV H1 300 = hV H0 300 := fRow f18.1.2.1 300 kR_283_300
  have e6 : n19 = hV H0 300 (n18).toNat := (by rw [f36] at f45; exact f45 : n19 = hV H1 300 (n18).toNat).trans ((congrFun e5 _))
  have e7 : n20 = hV H1 334 (n19).toNat := (by rw [f34] at f48; exact f48 : n20 = hV H1 334 (n19).toNat)
  have e9 : hV H1 285 18 = hV H0 285 18 := (f18.1.2.1.1 285 18 kF_283_285_18)
  have e11 : hV H1 285 64 = hV H0 285 64 := (f18.1.2.1.1 285 64 kF_283_285_64)
  have e12 : hV H1 301 = hV H0 301 := fRow f18.1.2.1 301 kR_283_301
  have e13 : hV H1 302 = hV H0 302 := fRow f18.1.2.1 302 kR_283_302
  have e14 : hV H1 303 = hV H0 303 := fRow f18.1.2.1 303 kR_283_303
  have e15 : hV H1 305 = hV H0 305 := fRow f18.1.2.1 305 kR_283_305
  have e16 : hV H1 328 = hV H0 328 := fRow f18.1.2.1 328 kR_283_328
  have e17 : hV H1 330 = hV H0 330 := fRow f18.1.2.1 330 kR_283_330
  have e18 : hV H1 331 = hV H0 331 := fRow f18.1.2.1 331 kR_283_331
  have e19 : hV H1 332 = hV H0 332 := fRow f18.1.2.1 332 kR_283_332
  have e20 : hV H1 341 = hV H0 341 := fRow f18.1.2.1 341 kR_283_341
  have e21 : (0 : Int) ≤ hV H0 285 18 ∧ hV H0 285 18 ≤ 8 := bTo e9 (f18.1.2.2 285 18 _ _ kW_285_18)
  have e22 : (0 : Int) ≤ hV H0 285 64 ∧ hV H0 285 64 ≤ 20 := bTo e11 (f18.1.2.2 285 64 _ _ kW_285_64)
  have e23 : (0 : Int) ≤ hV H1 285 65 ∧ hV H1 285 65 ≤ 2147483647 := f18.1.2.2 285 65 _ _ kW_285_65
  have e24 : (0 : Int) ≤ hV H1 285 82 ∧ hV H1 285 82 ≤ 40 := f18.1.2.2 285 82 _ _ kW_285_82
  try simp only [SO, SS, XQ]
  try simp only [e9, e11, e2, e5, e12, e13, e14, e15, e16, e17, e18, e19, e20]
  have k0 := g4.1
  have k1 := g4.2.1
  have k2 := g4.2.2.1
  have y0 := g4.2.2.2.1
  have y1 := g4.2.2.2.2.1
  have y2 := g4.2.2.2.2.2.1
  have y3 := g4.2.2.2.2.2.2.1
  have y4 := g4.2.2.2.2.2.2.2.1
  have y5 := g4.2.2.2.2.2.2.2.2.1
  have y6 := g4.2.2.2.2.2.2.2.2.2
  have p0 := g3.1
  have p1 := g3.2.1
  have p2 := g3.2.2.1
  have p3 := g3.2.2.2.1
  have p4 := g3.2.2.2.2.1
  have p5 := g3.2.2.2.2.2.1
  have p6 := g3.2.2.2.2.2.2
  try simp only [XQ] at y0
  try simp only [SO] at y1
  try simp only [SS] at y2
  try simp only [SO] at p4
  try simp only [SS] at p5
  try simp only [e2, e5, e12, e13, e14, e15] at y0
  try simp only [e9, e11, e16, e17, e18, e19] at y1
  try simp only [e20] at y2
  clear g3
  clear g4
  clear f21 f24 f26 f29 f32 f35 f37 f39 f42 f45 f48 e2 e5 e9 e11 e12 e13 e14 e15 e16 e17 e18 e19 e20
  clear f18
  subst e0
  subst e1
  subst e3
  subst e4
  subst e6
  subst e7
  try have xg := XQp_g y0 (s := (n0).toNat) (by omega) (by omega)
  try have sg := SS_gen y2 (hV H0 300 (hV H1 344 (n0).toNat).toNat) (by omega) (by omega)
  first
  | (have ix0 : n21 = n0 + 1 := Eq.trans f50 (w32_iv (Iad (Iat f1 f0) (IC 1)) (by decide)); subst ix0; clear f50)
  | (have ix0 : n21 = n0 + 1 := Eq.trans f50 (w32_id (by omega) (by omega)); subst ix0; clear f50)
  | (unfold w32 at f50; have ix0 : n21 = n0 + 1 := (by omega); subst ix0)
  | skip
  try unfold w32 at f50

  refine ⟨?_, fun q hq => ?_⟩
  · exact ⟨by first | omega | trivial, by first | omega | trivial, by first | omega | trivial, y0, y1, y2, y3, y4, by omega, by omega⟩
  · have g6 := Option.some.inj hq
    subst g6
    omega
def g_283_11_9 : vG := ([(10, [21, 9], [], 1), (45, [20, 8], [], 0), (22, [20, 15, 19], [1], 0), (90, [20], [], 0), (91, [20], [], 2147483647), (22, [19, 16, 18], [1], 0), (90, [19], [], -1), (91, [19], [], 9999), (22, [18, 17, 9], [1], 0), (90, [18], [], 0), (91, [18], [], 1007), (20, [17, 4], [1], 83), (0, [17], [], 344), (20, [16, 4], [1], 26), (0, [16], [], 300), (20, [15, 4], [1], 72), (0, [15], [], 334), (30, [14], [], 0), (22, [14, 11, 13], [1], 0), (90, [14], [], 0), (91, [14], [], 5), (22, [13, 12, 9], [1], 0), (90, [13], [], 0), (91, [13], [], 1007), (20, [12, 4], [1], 83), (0, [12], [], 344), (20, [11, 4], [1], 24), (0, [11], [], 298), (42, [9, 10], [], 0), (20, [10, 4], [1], 82), (90, [10], [], 0), (91, [10], [], 40), (5000, [0, 1, 2, 3, 4, 5, 6, 7, 8, 9], [0, 1], 11), (0, [0], [], 285), (90, [1], [], 0), (91, [1], [], 19), (90, [2], [], 0), (91, [2], [], 7), (90, [3], [], 0), (91, [3], [], 5), (0, [4], [], 285), (90, [5], [], 0), (91, [5], [], 19), (90, [6], [], 0), (91, [6], [], 7), (90, [7], [], 0), (91, [7], [], 5), (90, [8], [], 0), (91, [8], [], 2147483647), (90, [9], [], 0), (91, [9], [], 40)], (4000, [4, 5, 6, 7, 8, 21], [1], 11))
theorem c_283_11_9 {q0 : Nat} : vOkm T0 (eP e_283 L_283 A_283 mu_283 (some q0)) 4 g_283_11_9 := vOk_inI fun ρ η f0 f1 f2 f3 f4 f5 f6 f7 f8 f9 f10 f11 f12 f13 f14 f15 f16 f17 f18 f19 f20 f21 f22 f23 f24 f25 f26 f27 f28 f29 f30 f31 f32 f33 f34 f35 f36 f37 f38 f39 f40 f41 f42 f43 f44 f45 f46 f47 f48 f49 f50 => q_283_8 (q0 := q0) (n0 := ρ 9) (n1 := ρ 8) (n2 := ρ 7) (n3 := ρ 6) (n4 := ρ 5) (n5 := ρ 4) (n6 := ρ 3) (n7 := ρ 2) (n8 := ρ 1) (n9 := ρ 0) (n10 := ρ 10) (n11 := ρ 11) (n12 := ρ 12) (n13 := ρ 13) (n14 := ρ 14) (n15 := ρ 15) (n16 := ρ 16) (n17 := ρ 17) (n18 := ρ 18) (n19 := ρ 19) (n20 := ρ 20) (n21 := ρ 21) (H0 := η 0) (H1 := η 1) f50 f49 f48 f47 f46 f45 f44 f43 f42 f41 f40 f39 f38 f37 f36 f35 f34 f33 f32 f31 f30 f29 f28 f27 f26 f25 f24 f23 f22 f21 f20 f19 f18 f17 f16 f15 f14 f13 f12 f11 f10 f9 f8 f7 f6 f5 f4 f3 f2 f1 f0
def g_283_11_10 : vG := ([(42, [9, 10], [], 0), (91, [10], [], 40), (90, [9], [], 0)], (70, [9], [], 40))
theorem c_283_11_10 {q0 : Nat} : vOkm T0 (eP e_283 L_283 A_283 mu_283 (some q0)) 4 g_283_11_10 := vOk_inI fun ρ η f0 f1 f2 => q_283_3 (q0 := q0) (n0 := ρ 9) (n1 := ρ 10) (H0 := η 0) f2 f1 f0
theorem q_283_9 {q0 : Nat} {n0 n1 n2 n3 n4 n5 n6 n7 n8 n9 n10 n11 n12 n13 n14 n15 n16 n17 n18 n19 n20 n21 n22 n23 n24 n25 : Int} {H0 H1 : gH} (f0 : n0 ≤ 40) (f1 : 0 ≤ n0) (f2 : n1 ≤ 2147483647) (f3 : 0 ≤ n1) (f4 : n2 ≤ 5) (f5 : 0 ≤ n2) (f6 : n3 ≤ 7) (f7 : 0 ≤ n3) (f8 : n4 ≤ 19) (f9 : 0 ≤ n4) (f10 : n5 = 285) (f11 : n6 ≤ 5) (f12 : 0 ≤ n6) (f13 : n7 ≤ 7) (f14 : 0 ≤ n7) (f15 : n8 ≤ 19) (f16 : 0 ≤ n8) (f17 : n9 = 285) (f18 : (hLe T0 H0 H1 ∧ hFr s_283.2.2.2.2 H0 H1 ∧ hWt T0 H1) ∧ (Ab_283_11 n9 n8 n7 n6 n5 n4 n3 n2 n1 n0 H0 H1 ∧ preb_283 n9 n8 n7 n6 H0) ∧ some q0 = some (mub_283_11 n9 n8 n7 n6 n5 n4 n3 n2 n1 n0 H0 H1)) (f19 : n10 ≤ 40) (f20 : 0 ≤ n10) (f21 : n10 = hV H1 (n5).toNat 82) (f22 : n0 < n10) (f23 : n11 = 298) (f24 : n11 = hV H1 (n5).toNat 24) (f25 : n12 = 344) (f26 : n12 = hV H1 (n5).toNat 83) (f27 : n13 ≤ 1007) (f28 : 0 ≤ n13) (f29 : n13 = hV H1 (n12).toNat (n0).toNat) (f30 : n14 ≤ 5) (f31 : 0 ≤ n14) (f32 : n14 = hV H1 (n11).toNat (n13).toNat) (f33 : n14 = 0) (f34 : n15 = 334) (f35 : n15 = hV H1 (n5).toNat 72) (f36 : n16 = 300) (f37 : n16 = hV H1 (n5).toNat 26) (f38 : n17 = 344) (f39 : n17 = hV H1 (n5).toNat 83) (f40 : n18 ≤ 1007) (f41 : 0 ≤ n18) (f42 : n18 = hV H1 (n17).toNat (n0).toNat) (f43 : n19 ≤ 9999) (f44 : (-1) ≤ n19) (f45 : n19 = hV H1 (n16).toNat (n18).toNat) (f46 : n20 ≤ 2147483647) (f47 : 0 ≤ n20) (f48 : n20 = hV H1 (n15).toNat (n19).toNat) (f49 : n1 < n20) (f50 : n21 = 334) (f51 : n21 = hV H1 (n5).toNat 72) (f52 : n22 = 300) (f53 : n22 = hV H1 (n5).toNat 26) (f54 : n23 = 344) (f55 : n23 = hV H1 (n5).toNat 83) (f56 : n24 ≤ 1007) (f57 : 0 ≤ n24) (f58 : n24 = hV H1 (n23).toNat (n0).toNat) (f59 : n25 ≤ 9999) (f60 : (-1) ≤ n25) (f61 : n25 = hV H1 (n22).toNat (n24).toNat) : 0 ≤ n25 ∧ n25 < 20 := by
  have g4 := f18.2.1.1
  unfold Ab_283_11 at g4
  have g3 := f18.2.1.2
  unfold preb_283 at g3
  have e0 : n10 = hV H1 285 82 := (by rw [f10] at f21; exact f21 : n10 = hV H1 285 82)
  have e1 : n13 = hV H1 344 (n0).toNat := (by rw [f25] at f29; exact f29 : n13 = hV H1 344 (n0).toNat)
  have e2 : hV H1 298 = hV H0 298 := fRow f18.1.2.1 298 kR_283_298
  have e3 : n14 = hV H0 298 (n13).toNat := (by rw [f23] at f32; exact f32 : n14 = hV H1 298 (n13).toNat).trans ((congrFun e2 _))
  have e4 : n18 = hV H1 344 (n0).toNat := (by rw [f38] at f42; exact f42 : n18 = hV H1 344 (n0).toNat)
  have e5 : hV H1 300 = hV H0 300 := fRow f18.1.2.1 300 kR_283_300
  have e6 : n19 = hV H0 300 (n18).toNat := (by rw [f36] at f45; exact f45 : n19 = hV H1 300 (n18).toNat).trans ((congrFun e5 _))
  have e7 : n20 = hV H1 334 (n19).toNat := (by rw [f34] at f48; exact f48 : n20 = hV H1 334 (n19).toNat)
  have e8 : n24 = hV H1 344 (n0).toNat := (by rw [f54] at f58; exact f58 : n24 = hV H1 344 (n0).toNat)
  have e9 : n25 = hV H0 300 (n24).toNat := (by rw [f52] at f61; exact f61 : n25 = hV H1 300 (n24).toNat).trans ((congrFun e5 _))
  have e11 : hV H1 285 18 = hV H0 285 18 := (f18.1.2.1.1 285 18 kF_283_285_18)
  have e13 : hV H1 285 64 = hV H0 285 64 := (f18.1.2.1.1 285 64 kF_283_285_64)
  have e14 : hV H1 301 = hV H0 301 := fRow f18.1.2.1 301 kR_283_301
  have e15 : hV H1 302 = hV H0 302 := fRow f18.1.2.1 302 kR_283_302
  have e16 : hV H1 303 = hV H0 303 := fRow f18.1.2.1 303 kR_283_303
  have e17 : hV H1 305 = hV H0 305 := fRow f18.1.2.1 305 kR_283_305
  have e18 : hV H1 328 = hV H0 328 := fRow f18.1.2.1 328 kR_283_328
  have e19 : hV H1 330 = hV H0 330 := fRow f18.1.2.1 330 kR_283_330
  have e20 : hV H1 331 = hV H0 331 := fRow f18.1.2.1 331 kR_283_331
  have e21 : hV H1 332 = hV H0 332 := fRow f18.1.2.1 332 kR_283_332
  have e22 : hV H1 341 = hV H0 341 := fRow f18.1.2.1 341 kR_283_341
  have e23 : (0 : Int) ≤ hV H0 285 18 ∧ hV H0 285 18 ≤ 8 := bTo e11 (f18.1.2.2 285 18 _ _ kW_285_18)
  have e24 : (0 : Int) ≤ hV H0 285 64 ∧ hV H0 285 64 ≤ 20 := bTo e13 (f18.1.2.2 285 64 _ _ kW_285_64)
  have e25 : (0 : Int) ≤ hV H1 285 65 ∧ hV H1 285 65 ≤ 2147483647 := f18.1.2.2 285 65 _ _ kW_285_65
  have e26 : (0 : Int) ≤ hV H1 285 82 ∧ hV H1 285 82 ≤ 40 := f18.1.2.2 285 82 _ _ kW_285_82
  try simp only [SO, SS, XQ]
  have k0 := g4.1
  have k1 := g4.2.1
  have k2 := g4.2.2.1
  have y0 := g4.2.2.2.1
  have y1 := g4.2.2.2.2.1
  have y2 := g4.2.2.2.2.2.1
  have y3 := g4.2.2.2.2.2.2.1
  have y4 := g4.2.2.2.2.2.2.2.1
  have y5 := g4.2.2.2.2.2.2.2.2.1
  have y6 := g4.2.2.2.2.2.2.2.2.2
  have p0 := g3.1
  have p1 := g3.2.1
  have p2 := g3.2.2.1
  have p3 := g3.2.2.2.1
  have p4 := g3.2.2.2.2.1
  have p5 := g3.2.2.2.2.2.1
  have p6 := g3.2.2.2.2.2.2
  try simp only [XQ] at y0
  try simp only [SO] at y1
  try simp only [SS] at y2
  try simp only [SO] at p4
  try simp only [SS] at p5
  try simp only [e2, e5, e14, e15, e16, e17] at y0
  try simp only [e11, e13, e18, e19, e20, e21] at y1
  try simp only [e22] at y2
  clear g3
  clear g4
  clear f21 f24 f26 f29 f32 f35 f37 f39 f42 f45 f48 f51 f53 f55 f58 f61 e2 e5 e11 e13 e14 e15 e16 e17 e18 e19 e20 e21 e22
  clear f18
  subst e0
  subst e1
  subst e3
  subst e4
  subst e6
  subst e7
  subst e8
  subst e9
  try have xg := XQp_g y0 (s := (n0).toNat) (by omega) (by omega)
  try have sg := SS_gen y2 (hV H0 300 (hV H1 344 (n0).toNat).toNat) (by omega) (by omega)
  try subst k2
  try subst k1
  try subst k0
  omega
def g_283_11_11 : vG := ([(22, [25, 22, 24], [1], 0), (90, [25], [], -1), (91, [25], [], 9999), (22, [24, 23, 9], [1], 0), (90, [24], [], 0), (91, [24], [], 1007), (20, [23, 4], [1], 83), (0, [23], [], 344), (20, [22, 4], [1], 26), (0, [22], [], 300), (20, [21, 4], [1], 72), (0, [21], [], 334), (44, [20, 8], [], 0), (22, [20, 15, 19], [1], 0), (90, [20], [], 0), (91, [20], [], 2147483647), (22, [19, 16, 18], [1], 0), (90, [19], [], -1), (91, [19], [], 9999), (22, [18, 17, 9], [1], 0), (90, [18], [], 0), (91, [18], [], 1007), (20, [17, 4], [1], 83), (0, [17], [], 344), (20, [16, 4], [1], 26), (0, [16], [], 300), (20, [15, 4], [1], 72), (0, [15], [], 334), (30, [14], [], 0), (22, [14, 11, 13], [1], 0), (90, [14], [], 0), (91, [14], [], 5), (22, [13, 12, 9], [1], 0), (90, [13], [], 0), (91, [13], [], 1007), (20, [12, 4], [1], 83), (0, [12], [], 344), (20, [11, 4], [1], 24), (0, [11], [], 298), (42, [9, 10], [], 0), (20, [10, 4], [1], 82), (90, [10], [], 0), (91, [10], [], 40), (5000, [0, 1, 2, 3, 4, 5, 6, 7, 8, 9], [0, 1], 11), (0, [0], [], 285), (90, [1], [], 0), (91, [1], [], 19), (90, [2], [], 0), (91, [2], [], 7), (90, [3], [], 0), (91, [3], [], 5), (0, [4], [], 285), (90, [5], [], 0), (91, [5], [], 19), (90, [6], [], 0), (91, [6], [], 7), (90, [7], [], 0), (91, [7], [], 5), (90, [8], [], 0), (91, [8], [], 2147483647), (90, [9], [], 0), (91, [9], [], 40)], (70, [25], [], 20))
theorem c_283_11_11 {q0 : Nat} : vOkm T0 (eP e_283 L_283 A_283 mu_283 (some q0)) 4 g_283_11_11 := vOk_inI fun ρ η f0 f1 f2 f3 f4 f5 f6 f7 f8 f9 f10 f11 f12 f13 f14 f15 f16 f17 f18 f19 f20 f21 f22 f23 f24 f25 f26 f27 f28 f29 f30 f31 f32 f33 f34 f35 f36 f37 f38 f39 f40 f41 f42 f43 f44 f45 f46 f47 f48 f49 f50 f51 f52 f53 f54 f55 f56 f57 f58 f59 f60 f61 => q_283_9 (q0 := q0) (n0 := ρ 9) (n1 := ρ 8) (n2 := ρ 7) (n3 := ρ 6) (n4 := ρ 5) (n5 := ρ 4) (n6 := ρ 3) (n7 := ρ 2) (n8 := ρ 1) (n9 := ρ 0) (n10 := ρ 10) (n11 := ρ 11) (n12 := ρ 12) (n13 := ρ 13) (n14 := ρ 14) (n15 := ρ 15) (n16 := ρ 16) (n17 := ρ 17) (n18 := ρ 18) (n19 := ρ 19) (n20 := ρ 20) (n21 := ρ 21) (n22 := ρ 22) (n23 := ρ 23) (n24 := ρ 24) (n25 := ρ 25) (H0 := η 0) (H1 := η 1) f61 f60 f59 f58 f57 f56 f55 f54 f53 f52 f51 f50 f49 f48 f47 f46 f45 f44 f43 f42 f41 f40 f39 f38 f37 f36 f35 f34 f33 f32 f31 f30 f29 f28 f27 f26 f25 f24 f23 f22 f21 f20 f19 f18 f17 f16 f15 f14 f13 f12 f11 f10 f9 f8 f7 f6 f5 f4 f3 f2 f1 f0
def g_283_11_12 : vG := ([(10, [27, 9], [], 1), (42, [9, 10], [], 0), (91, [10], [], 40), (90, [9], [], 0)], (90, [27], [], 0))
theorem c_283_11_12 {q0 : Nat} : vOkm T0 (eP e_283 L_283 A_283 mu_283 (some q0)) 4 g_283_11_12 := vOk_inI fun ρ η f0 f1 f2 f3 => q_283_4 (q0 := q0) (n0 := ρ 9) (n1 := ρ 10) (n2 := ρ 27) (H0 := η 0) f3 f2 f1 f0
def g_283_11_13 : vG := ([(10, [27, 9], [], 1), (42, [9, 10], [], 0), (91, [10], [], 40), (90, [9], [], 0)], (91, [27], [], 40))
theorem c_283_11_13 {q0 : Nat} : vOkm T0 (eP e_283 L_283 A_283 mu_283 (some q0)) 4 g_283_11_13 := vOk_inI fun ρ η f0 f1 f2 f3 => q_283_5 (q0 := q0) (n0 := ρ 9) (n1 := ρ 10) (n2 := ρ 27) (H0 := η 0) f3 f2 f1 f0
theorem q_283_10 {q0 : Nat} {n0 n1 n2 n3 n4 n5 n6 n7 n8 n9 n10 n11 n12 n13 n14 n15 n16 n17 n18 n19 n20 n21 n22 n23 n24 n25 n26 n27 : Int} {H0 H1 : gH} (f0 : n0 ≤ 40) (f1 : 0 ≤ n0) (f2 : n1 ≤ 2147483647) (f3 : 0 ≤ n1) (f4 : n2 ≤ 5) (f5 : 0 ≤ n2) (f6 : n3 ≤ 7) (f7 : 0 ≤ n3) (f8 : n4 ≤ 19) (f9 : 0 ≤ n4) (f10 : n5 = 285) (f11 : n6 ≤ 5) (f12 : 0 ≤ n6) (f13 : n7 ≤ 7) (f14 : 0 ≤ n7) (f15 : n8 ≤ 19) (f16 : 0 ≤ n8) (f17 : n9 = 285) (f18 : (hLe T0 H0 H1 ∧ hFr s_283.2.2.2.2 H0 H1 ∧ hWt T0 H1) ∧ (Ab_283_11 n9 n8 n7 n6 n5 n4 n3 n2 n1 n0 H0 H1 ∧ preb_283 n9 n8 n7 n6 H0) ∧ some q0 = some (mub_283_11 n9 n8 n7 n6 n5 n4 n3 n2 n1 n0 H0 H1)) (f19 : n10 ≤ 40) (f20 : 0 ≤ n10) (f21 : n10 = hV H1 (n5).toNat 82) (f22 : n0 < n10) (f23 : n11 = 298) (f24 : n11 = hV H1 (n5).toNat 24) (f25 : n12 = 344) (f26 : n12 = hV H1 (n5).toNat 83) (f27 : n13 ≤ 1007) (f28 : 0 ≤ n13) (f29 : n13 = hV H1 (n12).toNat (n0).toNat) (f30 : n14 ≤ 5) (f31 : 0 ≤ n14) (f32 : n14 = hV H1 (n11).toNat (n13).toNat) (f33 : n14 = 0) (f34 : n15 = 334) (f35 : n15 = hV H1 (n5).toNat 72) (f36 : n16 = 300) (f37 : n16 = hV H1 (n5).toNat 26) (f38 : n17 = 344) (f39 : n17 = hV H1 (n5).toNat 83) (f40 : n18 ≤ 1007) (f41 : 0 ≤ n18) (f42 : n18 = hV H1 (n17).toNat (n0).toNat) (f43 : n19 ≤ 9999) (f44 : (-1) ≤ n19) (f45 : n19 = hV H1 (n16).toNat (n18).toNat) (f46 : n20 ≤ 2147483647) (f47 : 0 ≤ n20) (f48 : n20 = hV H1 (n15).toNat (n19).toNat) (f49 : n1 < n20) (f50 : n21 = 334) (f51 : n21 = hV H1 (n5).toNat 72) (f52 : n22 = 300) (f53 : n22 = hV H1 (n5).toNat 26) (f54 : n23 = 344) (f55 : n23 = hV H1 (n5).toNat 83) (f56 : n24 ≤ 1007) (f57 : 0 ≤ n24) (f58 : n24 = hV H1 (n23).toNat (n0).toNat) (f59 : n25 ≤ 9999) (f60 : (-1) ≤ n25) (f61 : n25 = hV H1 (n22).toNat (n24).toNat) (f62 : n26 ≤ 2147483647) (f63 : 0 ≤ n26) (f64 : n26 = hV H1 (n21).toNat (n25).toNat) (f65 : n27 = w32 (n0 + 1)) : Ab_283_11 n9 n8 n7 n6 n5 n4 n3 n2 n26 n27 H0 H1 ∧ ∀ q, some q0 = some q → mub_283_11 n9 n8 n7 n6 n5 n4 n3 n2 n26 n27 H0 H1 < q := by
  have g4 := f18.2.1.1
  unfold Ab_283_11 at g4
  have g3 := f18.2.1.2
  unfold preb_283 at g3
  have g5 := Option.some.inj f18.2.2
  unfold mub_283_11 at g5
  unfold Ab_283_11
  unfold mub_283_11
  have e0 : n10 = hV H1 285 82 := (by rw [f10] at f21; exact f21 : n10 = hV H1 285 82)
  have e1 : n13 = hV H1 344 (n0).toNat := (by rw [f25] at f29; exact f29 : n13 = hV H1 344 (n0).toNat)
  have e2 : hV H1 298 = hV H0 298 := fRow f18.1.2.1 298 kR_283_298
  have e3 : n14 = hV H0 298 (n13).toNat := (by rw [f23] at f32; exact f32 : n14 = hV H1 298 (n13).toNat).trans ((congrFun e2 _))
  have e4 : n18 = hV H1 344 (n0).toNat := (by rw [f38] at f42; exact f42 : n18 = hV H1 344 (n0).toNat)
  have e5 : hV H1 300 = hV H0 300 := fRow f18.1.2.1 300 kR_283_300
  have e6 : n19 = hV H0 300 (n18).toNat := (by rw [f36] at f45; exact f45 : n19 = hV H1 300 (n18).toNat).trans ((congrFun e5 _))
  have e7 : n20 = hV H1 334 (n19).toNat := (by rw [f34] at f48; exact f48 : n20 = hV H1 334 (n19).toNat)
  have e8 : n24 = hV H1 344 (n0).toNat := (by rw [f54] at f58; exact f58 : n24 = hV H1 344 (n0).toNat)
  have e9 : n25 = hV H0 300 (n24).toNat := (by rw [f52] at f61; exact f61 : n25 = hV H1 300 (n24).toNat).trans ((congrFun e5 _))
  have e10 : n26 = hV H1 334 (n25).toNat := (by rw [f50] at f64; exact f64 : n26 = hV H1 334 (n25).toNat)
  have e12 : hV H1 285 18 = hV H0 285 18 := (f18.1.2.1.1 285 18 kF_283_285_18)
  have e14 : hV H1 285 64 = hV H0 285 64 := (f18.1.2.1.1 285 64 kF_283_285_64)
  have e15 : hV H1 301 = hV H0 301 := fRow f18.1.2.1 301 kR_283_301
  have e16 : hV H1 302 = hV H0 302 := fRow f18.1.2.1 302 kR_283_302
  have e17 : hV H1 303 = hV H0 303 := fRow f18.1.2.1 303 kR_283_303
  have e18 : hV H1 305 = hV H0 305 := fRow f18.1.2.1 305 kR_283_305
  have e19 : hV H1 328 = hV H0 328 := fRow f18.1.2.1 328 kR_283_328
  have e20 : hV H1 330 = hV H0 330 := fRow f18.1.2.1 330 kR_283_330
  have e21 : hV H1 331 = hV H0 331 := fRow f18.1.2.1 331 kR_283_331
  have e22 : hV H1 332 = hV H0 332 := fRow f18.1.2.1 332 kR_283_332
  have e23 : hV H1 341 = hV H0 341 := fRow f18.1.2.1 341 kR_283_341
  have e24 : (0 : Int) ≤ hV H0 285 18 ∧ hV H0 285 18 ≤ 8 := bTo e12 (f18.1.2.2 285 18 _ _ kW_285_18)
  have e25 : (0 : Int) ≤ hV H0 285 64 ∧ hV H0 285 64 ≤ 20 := bTo e14 (f18.1.2.2 285 64 _ _ kW_285_64)
  have e26 : (0 : Int) ≤ hV H1 285 65 ∧ hV H1 285 65 ≤ 2147483647 := f18.1.2.2 285 65 _ _ kW_285_65
  have e27 : (0 : Int) ≤ hV H1 285 82 ∧ hV H1 285 82 ≤ 40 := f18.1.2.2 285 82 _ _ kW_285_82
  try simp only [SO, SS, XQ]
  try simp only [e12, e14, e2, e5, e15, e16, e17, e18, e19, e20, e21, e22, e23]
  have k0 := g4.1
  have k1 := g4.2.1
  have k2 := g4.2.2.1
  have y0 := g4.2.2.2.1
  have y1 := g4.2.2.2.2.1
  have y2 := g4.2.2.2.2.2.1
  have y3 := g4.2.2.2.2.2.2.1
  have y4 := g4.2.2.2.2.2.2.2.1
  have y5 := g4.2.2.2.2.2.2.2.2.1
  have y6 := g4.2.2.2.2.2.2.2.2.2
  have p0 := g3.1
  have p1 := g3.2.1
  have p2 := g3.2.2.1
  have p3 := g3.2.2.2.1
  have p4 := g3.2.2.2.2.1
  have p5 := g3.2.2.2.2.2.1
  have p6 := g3.2.2.2.2.2.2
  try simp only [XQ] at y0
  try simp only [SO] at y1
  try simp only [SS] at y2
  try simp only [SO] at p4
  try simp only [SS] at p5
  try simp only [e2, e5, e15, e16, e17, e18] at y0
  try simp only [e12, e14, e19, e20, e21, e22] at y1
  try simp only [e23] at y2
  clear g3
  clear g4
  clear f21 f24 f26 f29 f32 f35 f37 f39 f42 f45 f48 f51 f53 f55 f58 f61 f64 e2 e5 e12 e14 e15 e16 e17 e18 e19 e20 e21 e22 e23
  clear f18
  subst e0
  subst e1
  subst e3
  subst e4
  subst e6
  subst e7
  subst e8
  subst e9
  subst e10
  try have xg := XQp_g y0 (s := (n0).toNat) (by omega) (by omega)
  try have sg := SS_gen y2 (hV H0 300 (hV H1 344 (n0).toNat).toNat) (by omega) (by omega)
  first
  | (have ix0 : n27 = n0 + 1 := Eq.trans f65 (w32_iv (Iad (Iat f1 f0) (IC 1)) (by decide)); subst ix0; clear f65)
  | (have ix0 : n27 = n0 + 1 := Eq.trans f65 (w32_id (by omega) (by omega)); subst ix0; clear f65)
  | (unfold w32 at f65; have ix0 : n27 = n0 + 1 := (by omega); subst ix0)
  | skip
  try unfold w32 at f65

  refine ⟨?_, fun q hq => ?_⟩
  · exact ⟨by first | omega | trivial, by first | omega | trivial, by first | omega | trivial, y0, y1, y2, y3, y4, by omega, by omega⟩
  · have g6 := Option.some.inj hq
    subst g6
    omega
def g_283_11_14 : vG := ([(10, [27, 9], [], 1), (22, [26, 21, 25], [1], 0), (90, [26], [], 0), (91, [26], [], 2147483647), (22, [25, 22, 24], [1], 0), (90, [25], [], -1), (91, [25], [], 9999), (22, [24, 23, 9], [1], 0), (90, [24], [], 0), (91, [24], [], 1007), (20, [23, 4], [1], 83), (0, [23], [], 344), (20, [22, 4], [1], 26), (0, [22], [], 300), (20, [21, 4], [1], 72), (0, [21], [], 334), (44, [20, 8], [], 0), (22, [20, 15, 19], [1], 0), (90, [20], [], 0), (91, [20], [], 2147483647), (22, [19, 16, 18], [1], 0), (90, [19], [], -1), (91, [19], [], 9999), (22, [18, 17, 9], [1], 0), (90, [18], [], 0), (91, [18], [], 1007), (20, [17, 4], [1], 83), (0, [17], [], 344), (20, [16, 4], [1], 26), (0, [16], [], 300), (20, [15, 4], [1], 72), (0, [15], [], 334), (30, [14], [], 0), (22, [14, 11, 13], [1], 0), (90, [14], [], 0), (91, [14], [], 5), (22, [13, 12, 9], [1], 0), (90, [13], [], 0), (91, [13], [], 1007), (20, [12, 4], [1], 83), (0, [12], [], 344), (20, [11, 4], [1], 24), (0, [11], [], 298), (42, [9, 10], [], 0), (20, [10, 4], [1], 82), (90, [10], [], 0), (91, [10], [], 40), (5000, [0, 1, 2, 3, 4, 5, 6, 7, 8, 9], [0, 1], 11), (0, [0], [], 285), (90, [1], [], 0), (91, [1], [], 19), (90, [2], [], 0), (91, [2], [], 7), (90, [3], [], 0), (91, [3], [], 5), (0, [4], [], 285), (90, [5], [], 0), (91, [5], [], 19), (90, [6], [], 0), (91, [6], [], 7), (90, [7], [], 0), (91, [7], [], 5), (90, [8], [], 0), (91, [8], [], 2147483647), (90, [9], [], 0), (91, [9], [], 40)], (4000, [4, 5, 6, 7, 26, 27], [1], 11))
theorem c_283_11_14 {q0 : Nat} : vOkm T0 (eP e_283 L_283 A_283 mu_283 (some q0)) 4 g_283_11_14 := vOk_inI fun ρ η f0 f1 f2 f3 f4 f5 f6 f7 f8 f9 f10 f11 f12 f13 f14 f15 f16 f17 f18 f19 f20 f21 f22 f23 f24 f25 f26 f27 f28 f29 f30 f31 f32 f33 f34 f35 f36 f37 f38 f39 f40 f41 f42 f43 f44 f45 f46 f47 f48 f49 f50 f51 f52 f53 f54 f55 f56 f57 f58 f59 f60 f61 f62 f63 f64 f65 => q_283_10 (q0 := q0) (n0 := ρ 9) (n1 := ρ 8) (n2 := ρ 7) (n3 := ρ 6) (n4 := ρ 5) (n5 := ρ 4) (n6 := ρ 3) (n7 := ρ 2) (n8 := ρ 1) (n9 := ρ 0) (n10 := ρ 10) (n11 := ρ 11) (n12 := ρ 12) (n13 := ρ 13) (n14 := ρ 14) (n15 := ρ 15) (n16 := ρ 16) (n17 := ρ 17) (n18 := ρ 18) (n19 := ρ 19) (n20 := ρ 20) (n21 := ρ 21) (n22 := ρ 22) (n23 := ρ 23) (n24 := ρ 24) (n25 := ρ 25) (n26 := ρ 26) (n27 := ρ 27) (H0 := η 0) (H1 := η 1) f65 f64 f63 f62 f61 f60 f59 f58 f57 f56 f55 f54 f53 f52 f51 f50 f49 f48 f47 f46 f45 f44 f43 f42 f41 f40 f39 f38 f37 f36 f35 f34 f33 f32 f31 f30 f29 f28 f27 f26 f25 f24 f23 f22 f21 f20 f19 f18 f17 f16 f15 f14 f13 f12 f11 f10 f9 f8 f7 f6 f5 f4 f3 f2 f1 f0
def p_283_11 : List vG := [g_283_11_0,
  g_283_11_1,
  g_283_11_2,
  g_283_11_3,
  g_283_11_4,
  g_283_11_5,
  g_283_11_6,
  g_283_11_7,
  g_283_11_8,
  g_283_11_9,
  g_283_11_10,
  g_283_11_11,
  g_283_11_12,
  g_283_11_13,
  g_283_11_14]
theorem r_283_11 : vCovO false (eRc e_283 L_283 cs_283 2000 (11, [(0, (3, 12, 285, 0)), (1, (0, 0, 19, 0)), (2, (0, 0, 7, 0)), (3, (0, 0, 5, 0)), (4, (0, 0, 2147483647, 0)), (5, (0, 0, 40, 0))])) p_283_11 = true := by decide +kernel
theorem q_283_11 {q0 : Nat} {n0 n1 n2 : Int} {H0 : gH} (f0 : n0 = 4) (f1 : n1 ≤ 60) (f2 : 0 ≤ n1) (f3 : n2 = w32 (n0 * n1)) : (-1) ≤ n2 := by
  try simp only [SO, SS, XQ]
  rw [f0] at f3
  first
  | (have ix0 : n2 = 4 * n1 := Eq.trans f3 (w32_iv (Iml 4 rfl (Iat f2 f1)) (by decide)); subst ix0; clear f3)
  | (have ix0 : n2 = 4 * n1 := Eq.trans f3 (w32_id (by omega) (by omega)); subst ix0; clear f3)
  | (unfold w32 at f3; have ix0 : n2 = 4 * n1 := (by omega); subst ix0)
  | skip
  try unfold w32 at f3
  omega
def g_283_85_0 : vG := ([(3, [16, 13, 15], [], 0), (90, [15], [], 0), (91, [15], [], 60), (0, [13], [], 4)], (90, [16], [], -1))
theorem c_283_85_0 {q0 : Nat} : vOkm T0 (eP e_283 L_283 A_283 mu_283 (some q0)) 4 g_283_85_0 := vOk_inI fun ρ η f0 f1 f2 f3 => q_283_11 (q0 := q0) (n0 := ρ 13) (n1 := ρ 15) (n2 := ρ 16) (H0 := η 0) f3 f2 f1 f0
theorem q_283_12 {q0 : Nat} {n0 n1 n2 : Int} {H0 : gH} (f0 : n0 = 4) (f1 : n1 ≤ 60) (f2 : 0 ≤ n1) (f3 : n2 = w32 (n0 * n1)) : n2 ≤ 240 := by
  try simp only [SO, SS, XQ]
  rw [f0] at f3
  first
  | (have ix0 : n2 = 4 * n1 := Eq.trans f3 (w32_iv (Iml 4 rfl (Iat f2 f1)) (by decide)); subst ix0; clear f3)
  | (have ix0 : n2 = 4 * n1 := Eq.trans f3 (w32_id (by omega) (by omega)); subst ix0; clear f3)
  | (unfold w32 at f3; have ix0 : n2 = 4 * n1 := (by omega); subst ix0)
  | skip
  try unfold w32 at f3
  omega
def g_283_85_1 : vG := ([(3, [16, 13, 15], [], 0), (90, [15], [], 0), (91, [15], [], 60), (0, [13], [], 4)], (91, [16], [], 240))
theorem c_283_85_1 {q0 : Nat} : vOkm T0 (eP e_283 L_283 A_283 mu_283 (some q0)) 4 g_283_85_1 := vOk_inI fun ρ η f0 f1 f2 f3 => q_283_12 (q0 := q0) (n0 := ρ 13) (n1 := ρ 15) (n2 := ρ 16) (H0 := η 0) f3 f2 f1 f0
theorem q_283_13 {q0 : Nat} {n0 n1 n2 n3 n4 n5 n6 n7 n8 n9 n10 n11 : Int} {H0 H1 : gH} (f0 : 0 ≤ n0) (f1 : n1 = 285) (f2 : n2 = 285) (f3 : (hLe T0 H0 H1 ∧ hFr s_283.2.2.2.2 H0 H1 ∧ hWt T0 H1) ∧ (Ab_283_85 n2 n3 n4 n5 n1 n6 n7 n8 n0 n9 H0 H1 ∧ preb_283 n2 n3 n4 n5 H0) ∧ some q0 = some (mub_283_85 n2 n3 n4 n5 n1 n6 n7 n8 n0 n9 H0 H1)) (f4 : n10 = 1) (f5 : n11 = w32 (n0 + n10)) : 0 ≤ n11 := by
  have g4 := f3.2.1.1
  unfold Ab_283_85 at g4
  have g3 := f3.2.1.2
  unfold preb_283 at g3
  have e1 : hV H1 285 18 = hV H0 285 18 := (f3.1.2.1.1 285 18 kF_283_285_18)
  have e3 : hV H1 285 64 = hV H0 285 64 := (f3.1.2.1.1 285 64 kF_283_285_64)
  have e4 : hV H1 298 = hV H0 298 := fRow f3.1.2.1 298 kR_283_298
  have e5 : hV H1 300 = hV H0 300 := fRow f3.1.2.1 300 kR_283_300
  have e6 : hV H1 301 = hV H0 301 := fRow f3.1.2.1 301 kR_283_301
  have e7 : hV H1 302 = hV H0 302 := fRow f3.1.2.1 302 kR_283_302
  have e8 : hV H1 303 = hV H0 303 := fRow f3.1.2.1 303 kR_283_303
  have e9 : hV H1 305 = hV H0 305 := fRow f3.1.2.1 305 kR_283_305
  have e10 : hV H1 328 = hV H0 328 := fRow f3.1.2.1 328 kR_283_328
  have e11 : hV H1 330 = hV H0 330 := fRow f3.1.2.1 330 kR_283_330
  have e12 : hV H1 331 = hV H0 331 := fRow f3.1.2.1 331 kR_283_331
  have e13 : hV H1 332 = hV H0 332 := fRow f3.1.2.1 332 kR_283_332
  have e14 : hV H1 341 = hV H0 341 := fRow f3.1.2.1 341 kR_283_341
  have e15 : (0 : Int) ≤ hV H0 285 18 ∧ hV H0 285 18 ≤ 8 := bTo e1 (f3.1.2.2 285 18 _ _ kW_285_18)
  have e16 : (0 : Int) ≤ hV H0 285 64 ∧ hV H0 285 64 ≤ 20 := bTo e3 (f3.1.2.2 285 64 _ _ kW_285_64)
  have e17 : (0 : Int) ≤ hV H1 285 65 ∧ hV H1 285 65 ≤ 2147483647 := f3.1.2.2 285 65 _ _ kW_285_65
  have e18 : (0 : Int) ≤ hV H1 285 82 ∧ hV H1 285 82 ≤ 40 := f3.1.2.2 285 82 _ _ kW_285_82
  try simp only [SO, SS, XQ]
  have k0 := g4.1
  have k1 := g4.2.1
  have k2 := g4.2.2.1
  have y0 := g4.2.2.2.1
  have y1 := g4.2.2.2.2.1
  have y2 := g4.2.2.2.2.2.1
  have y3 := g4.2.2.2.2.2.2.1
  have y4 := g4.2.2.2.2.2.2.2.1
  have y5 := g4.2.2.2.2.2.2.2.2.1
  have y6 := g4.2.2.2.2.2.2.2.2.2
  have p0 := g3.1
  have p1 := g3.2.1
  have p2 := g3.2.2.1
  have p3 := g3.2.2.2.1
  have p4 := g3.2.2.2.2.1
  have p5 := g3.2.2.2.2.2.1
  have p6 := g3.2.2.2.2.2.2
  try simp only [XQ] at y0
  try simp only [SO] at y1
  try simp only [SS] at y2
  try simp only [SO] at p4
  try simp only [SS] at p5
  try simp only [e4, e5, e6, e7, e8, e9] at y0
  try simp only [e1, e3, e10, e11, e12, e13] at y1
  try simp only [e14] at y2
  clear g3
  clear g4
  clear e1 e3 e4 e5 e6 e7 e8 e9 e10 e11 e12 e13 e14
  clear f3
  first
  | (have ix0 : n11 = n0 + 1 := Eq.trans f5 (w32_id (by omega) (by omega)); subst ix0; clear f5)
  | (unfold w32 at f5; have ix0 : n11 = n0 + 1 := (by omega); subst ix0)
  | skip
  try unfold w32 at f5
  try subst k2
  try subst k1
  try subst k0
  omega
def g_283_85_2 : vG := ([(1, [19, 8, 18], [], 0), (0, [18], [], 1), (5000, [0, 1, 2, 3, 4, 5, 6, 7, 8, 9], [0, 1], 85), (0, [0], [], 285), (0, [4], [], 285), (90, [8], [], 0)], (90, [19], [], 0))
theorem c_283_85_2 {q0 : Nat} : vOkm T0 (eP e_283 L_283 A_283 mu_283 (some q0)) 4 g_283_85_2 := vOk_inI fun ρ η f0 f1 f2 f3 f4 f5 => q_283_13 (q0 := q0) (n0 := ρ 8) (n1 := ρ 4) (n2 := ρ 0) (n3 := ρ 1) (n4 := ρ 2) (n5 := ρ 3) (n6 := ρ 5) (n7 := ρ 6) (n8 := ρ 7) (n9 := ρ 9) (n10 := ρ 18) (n11 := ρ 19) (H0 := η 0) (H1 := η 1) f5 f4 f3 f2 f1 f0
theorem q_283_14 {q0 : Nat} {n0 n1 n2 n3 n4 n5 n6 n7 n8 n9 n10 n11 : Int} {H0 H1 : gH} (f0 : 0 ≤ n0) (f1 : n1 = 285) (f2 : n2 = 285) (f3 : (hLe T0 H0 H1 ∧ hFr s_283.2.2.2.2 H0 H1 ∧ hWt T0 H1) ∧ (Ab_283_85 n2 n3 n4 n5 n1 n6 n7 n8 n0 n9 H0 H1 ∧ preb_283 n2 n3 n4 n5 H0) ∧ some q0 = some (mub_283_85 n2 n3 n4 n5 n1 n6 n7 n8 n0 n9 H0 H1)) (f4 : n10 = 1) (f5 : n11 = w32 (n0 + n10)) : n11 ≤ 2147483647 := by
  have g4 := f3.2.1.1
  unfold Ab_283_85 at g4
  have g3 := f3.2.1.2
  unfold preb_283 at g3
  have e1 : hV H1 285 18 = hV H0 285 18 := (f3.1.2.1.1 285 18 kF_283_285_18)
  have e3 : hV H1 285 64 = hV H0 285 64 := (f3.1.2.1.1 285 64 kF_283_285_64)
  have e4 : hV H1 298 = hV H0 298 := fRow f3.1.2.1 298 kR_283_298
  have e5 : hV H1 300 = hV H0 300 := fRow f3.1.2.1 300 kR_283_300
  have e6 : hV H1 301 = hV H0 301 := fRow f3.1.2.1 301 kR_283_301
  have e7 : hV H1 302 = hV H0 302 := fRow f3.1.2.1 302 kR_283_302
  have e8 : hV H1 303 = hV H0 303 := fRow f3.1.2.1 303 kR_283_303
  have e9 : hV H1 305 = hV H0 305 := fRow f3.1.2.1 305 kR_283_305
  have e10 : hV H1 328 = hV H0 328 := fRow f3.1.2.1 328 kR_283_328
  have e11 : hV H1 330 = hV H0 330 := fRow f3.1.2.1 330 kR_283_330
  have e12 : hV H1 331 = hV H0 331 := fRow f3.1.2.1 331 kR_283_331
  have e13 : hV H1 332 = hV H0 332 := fRow f3.1.2.1 332 kR_283_332
  have e14 : hV H1 341 = hV H0 341 := fRow f3.1.2.1 341 kR_283_341
  have e15 : (0 : Int) ≤ hV H0 285 18 ∧ hV H0 285 18 ≤ 8 := bTo e1 (f3.1.2.2 285 18 _ _ kW_285_18)
  have e16 : (0 : Int) ≤ hV H0 285 64 ∧ hV H0 285 64 ≤ 20 := bTo e3 (f3.1.2.2 285 64 _ _ kW_285_64)
  have e17 : (0 : Int) ≤ hV H1 285 65 ∧ hV H1 285 65 ≤ 2147483647 := f3.1.2.2 285 65 _ _ kW_285_65
  have e18 : (0 : Int) ≤ hV H1 285 82 ∧ hV H1 285 82 ≤ 40 := f3.1.2.2 285 82 _ _ kW_285_82
  try simp only [SO, SS, XQ]
  have k0 := g4.1
  have k1 := g4.2.1
  have k2 := g4.2.2.1
  have y0 := g4.2.2.2.1
  have y1 := g4.2.2.2.2.1
  have y2 := g4.2.2.2.2.2.1
  have y3 := g4.2.2.2.2.2.2.1
  have y4 := g4.2.2.2.2.2.2.2.1
  have y5 := g4.2.2.2.2.2.2.2.2.1
  have y6 := g4.2.2.2.2.2.2.2.2.2
  have p0 := g3.1
  have p1 := g3.2.1
  have p2 := g3.2.2.1
  have p3 := g3.2.2.2.1
  have p4 := g3.2.2.2.2.1
  have p5 := g3.2.2.2.2.2.1
  have p6 := g3.2.2.2.2.2.2
  try simp only [XQ] at y0
  try simp only [SO] at y1
  try simp only [SS] at y2
  try simp only [SO] at p4
  try simp only [SS] at p5
  try simp only [e4, e5, e6, e7, e8, e9] at y0
  try simp only [e1, e3, e10, e11, e12, e13] at y1
  try simp only [e14] at y2
  clear g3
  clear g4
  clear e1 e3 e4 e5 e6 e7 e8 e9 e10 e11 e12 e13 e14
  clear f3
  first
  | (have ix0 : n11 = n0 + 1 := Eq.trans f5 (w32_id (by omega) (by omega)); subst ix0; clear f5)
  | (unfold w32 at f5; have ix0 : n11 = n0 + 1 := (by omega); subst ix0)
  | skip
  try unfold w32 at f5
  try subst k2
  try subst k1
  try subst k0
  omega
def g_283_85_3 : vG := ([(1, [19, 8, 18], [], 0), (0, [18], [], 1), (5000, [0, 1, 2, 3, 4, 5, 6, 7, 8, 9], [0, 1], 85), (0, [0], [], 285), (0, [4], [], 285), (90, [8], [], 0)], (91, [19], [], 2147483647))
theorem c_283_85_3 {q0 : Nat} : vOkm T0 (eP e_283 L_283 A_283 mu_283 (some q0)) 4 g_283_85_3 := vOk_inI fun ρ η f0 f1 f2 f3 f4 f5 => q_283_14 (q0 := q0) (n0 := ρ 8) (n1 := ρ 4) (n2 := ρ 0) (n3 := ρ 1) (n4 := ρ 2) (n5 := ρ 3) (n6 := ρ 5) (n7 := ρ 6) (n8 := ρ 7) (n9 := ρ 9) (n10 := ρ 18) (n11 := ρ 19) (H0 := η 0) (H1 := η 1) f5 f4 f3 f2 f1 f0
theorem kR_283_325 : vFreeR s_283.2.2.2.2 325 = true := by decide +kernel
theorem q_283_15 {q0 : Nat} {n0 n1 n2 n3 n4 n5 n6 n7 n8 n9 n10 n11 n12 n13 n14 n15 n16 n17 n18 n19 n20 n21 : Int} {H0 H1 H2 H3 H4 H5 : gH} (f0 : n0 ≤ 60) (f1 : 0 ≤ n0) (f2 : n1 ≤ 2147483647) (f3 : 0 ≤ n1) (f4 : n2 ≤ 5) (f5 : 0 ≤ n2) (f6 : n3 ≤ 7) (f7 : 0 ≤ n3) (f8 : n4 ≤ 19) (f9 : 0 ≤ n4) (f10 : n5 = 285) (f11 : n6 ≤ 5) (f12 : 0 ≤ n6) (f13 : n7 ≤ 7) (f14 : 0 ≤ n7) (f15 : n8 ≤ 19) (f16 : 0 ≤ n8) (f17 : n9 = 285) (f18 : (hLe T0 H0 H1 ∧ hFr s_283.2.2.2.2 H0 H1 ∧ hWt T0 H1) ∧ (Ab_283_85 n9 n8 n7 n6 n5 n4 n3 n2 n1 n0 H0 H1 ∧ preb_283 n9 n8 n7 n6 H0) ∧ some q0 = some (mub_283_85 n9 n8 n7 n6 n5 n4 n3 n2 n1 n0 H0 H1)) (f19 : n10 = 325) (f20 : n10 = hV H1 (n5).toNat 61) (f21 : n11 ≤ 60) (f22 : 0 ≤ n11) (f23 : n11 = hV H1 (n10).toNat (n2).toNat) (f24 : n11 ≤ n0) (f25 : n12 = 329) (f26 : n12 = hV H1 (n5).toNat 67) (f27 : n13 = 4) (f28 : n14 = 325) (f29 : n14 = hV H1 (n5).toNat 61) (f30 : n15 ≤ 60) (f31 : 0 ≤ n15) (f32 : n15 = hV H1 (n14).toNat (n2).toNat) (f33 : n16 = w32 (n13 * n15)) (f34 : hUpd H2 H1 n12 n4 n16) (f35 : n17 = 334) (f36 : n17 = hV H2 (n5).toNat 72) (f37 : n18 = 1) (f38 : n19 = w32 (n1 + n18)) (f39 : hUpd H3 H2 n17 n4 n19) (f40 : n20 = 335) (f41 : n20 = hV H3 (n5).toNat 73) (f42 : hUpd H4 H3 n20 n4 n3) (f43 : n21 = 336) (f44 : n21 = hV H4 (n5).toNat 74) (f45 : hUpd H5 H4 n21 n4 n2) : preb_258 n5 n4 H5 := by
  have g4 := f18.2.1.1
  unfold Ab_283_85 at g4
  have g3 := f18.2.1.2
  unfold preb_283 at g3
  unfold preb_258
  have e1 : n11 = hV H0 325 (n2).toNat := (by rw [f19] at f23; exact f23 : n11 = hV H1 325 (n2).toNat).trans ((congrFun (fRow f18.1.2.1 325 kR_283_325) _))
  have e2 : n15 = hV H0 325 (n2).toNat := (by rw [f28] at f32; exact f32 : n15 = hV H1 325 (n2).toNat).trans ((congrFun (fRow f18.1.2.1 325 kR_283_325) _))
  have e4 : hV H1 285 18 = hV H0 285 18 := (f18.1.2.1.1 285 18 kF_283_285_18)
  have e6 : hV H1 285 64 = hV H0 285 64 := (f18.1.2.1.1 285 64 kF_283_285_64)
  have e7 : hV H1 298 = hV H0 298 := fRow f18.1.2.1 298 kR_283_298
  have e8 : hV H1 300 = hV H0 300 := fRow f18.1.2.1 300 kR_283_300
  have e9 : hV H1 301 = hV H0 301 := fRow f18.1.2.1 301 kR_283_301
  have e10 : hV H1 302 = hV H0 302 := fRow f18.1.2.1 302 kR_283_302
  have e11 : hV H1 303 = hV H0 303 := fRow f18.1.2.1 303 kR_283_303
  have e12 : hV H1 305 = hV H0 305 := fRow f18.1.2.1 305 kR_283_305
  have e13 : hV H1 328 = hV H0 328 := fRow f18.1.2.1 328 kR_283_328
  have e14 : hV H1 330 = hV H0 330 := fRow f18.1.2.1 330 kR_283_330
  have e15 : hV H1 331 = hV H0 331 := fRow f18.1.2.1 331 kR_283_331
  have e16 : hV H1 332 = hV H0 332 := fRow f18.1.2.1 332 kR_283_332
  have e17 : hV H1 341 = hV H0 341 := fRow f18.1.2.1 341 kR_283_341
  have e22 : hV H5 285 65 = hV H1 285 65 := ((uPlace f45 285 65 (iS (show n21 = ((336 : Nat) : Int) from f43) rfl))).trans (((uPlace f42 285 65 (iS (show n20 = ((335 : Nat) : Int) from f40) rfl))).trans (((uPlace f39 285 65 (iS (show n17 = ((334 : Nat) : Int) from f35) rfl))).trans (uPlace f34 285 65 (iS (show n12 = ((329 : Nat) : Int) from f25) rfl))))
  have e29 : hV H5 333 = hV H1 333 := (uRowNe f45 333 (iS (show n21 = ((336 : Nat) : Int) from f43) rfl)).trans ((uRowNe f42 333 (iS (show n20 = ((335 : Nat) : Int) from f40) rfl)).trans ((uRowNe f39 333 (iS (show n17 = ((334 : Nat) : Int) from f35) rfl)).trans (uRowNe f34 333 (iS (show n12 = ((329 : Nat) : Int) from f25) rfl))))
  have e36 : hV H5 334 = (uF (hV H1 334) n4 n19) := (uRowNe f45 334 (iS (show n21 = ((336 : Nat) : Int) from f43) rfl)).trans ((uRowNe f42 334 (iS (show n20 = ((335 : Nat) : Int) from f40) rfl)).trans ((uRow f39 334 f35.symm).trans (congrArg (fun z => uF z n4 n19) (uRowNe f34 334 (iS (show n12 = ((329 : Nat) : Int) from f25) rfl)))))
  have e44 : hV H5 341 = hV H0 341 := (uRowNe f45 341 (iS (show n21 = ((336 : Nat) : Int) from f43) rfl)).trans ((uRowNe f42 341 (iS (show n20 = ((335 : Nat) : Int) from f40) rfl)).trans ((uRowNe f39 341 (iS (show n17 = ((334 : Nat) : Int) from f35) rfl)).trans ((uRowNe f34 341 (iS (show n12 = ((329 : Nat) : Int) from f25) rfl)).trans e17)))
  have e45 : (0 : Int) ≤ hV H0 285 18 ∧ hV H0 285 18 ≤ 8 := bTo e4 (f18.1.2.2 285 18 _ _ kW_285_18)
  have e46 : (0 : Int) ≤ hV H0 285 64 ∧ hV H0 285 64 ≤ 20 := bTo e6 (f18.1.2.2 285 64 _ _ kW_285_64)
  have e47 : (0 : Int) ≤ hV H1 285 65 ∧ hV H1 285 65 ≤ 2147483647 := f18.1.2.2 285 65 _ _ kW_285_65
  have e48 : (0 : Int) ≤ hV H1 285 82 ∧ hV H1 285 82 ≤ 40 := f18.1.2.2 285 82 _ _ kW_285_82
  try simp only [SO, SS, XQ]
  try simp only [e22, e29, e36, e44]
  have k0 := g4.1
  have k1 := g4.2.1
  have k2 := g4.2.2.1
  have y0 := g4.2.2.2.1
  have y1 := g4.2.2.2.2.1
  have y2 := g4.2.2.2.2.2.1
  have y3 := g4.2.2.2.2.2.2.1
  have y4 := g4.2.2.2.2.2.2.2.1
  have y5 := g4.2.2.2.2.2.2.2.2.1
  have y6 := g4.2.2.2.2.2.2.2.2.2
  have p0 := g3.1
  have p1 := g3.2.1
  have p2 := g3.2.2.1
  have p3 := g3.2.2.2.1
  have p4 := g3.2.2.2.2.1
  have p5 := g3.2.2.2.2.2.1
  have p6 := g3.2.2.2.2.2.2
  try simp only [XQ] at y0
  try simp only [SO] at y1
  try simp only [SS] at y2
  try simp only [SO] at p4
  try simp only [SS] at p5
  try simp only [e7, e8, e9, e10, e11, e12] at y0
  try simp only [e4, e6, e13, e14, e15, e16] at y1
  try simp only [e17] at y2
  clear g3
  clear g4
  clear f20 f23 f26 f29 f32 f36 f41 f44 e4 e6 e7 e8 e9 e10 e11 e12 e13 e14 e15 e16 e17 e22 e29 e36 e44
  clear f18
  subst e1
  subst e2
  rw [f27] at f33
  first
  | (have ix0 : n16 = 4 * (hV H0 325 (n2).toNat) := Eq.trans f33 (w32_iv (Iml 4 rfl (Iat f22 f21)) (by decide)); subst ix0; clear f33)
  | (have ix0 : n16 = 4 * (hV H0 325 (n2).toNat) := Eq.trans f33 (w32_id (by omega) (by omega)); subst ix0; clear f33)
  | (unfold w32 at f33; have ix0 : n16 = 4 * (hV H0 325 (n2).toNat) := (by omega); subst ix0)
  | skip
  first
  | (have ix1 : n19 = n1 + 1 := Eq.trans f38 (w32_id (by omega) (by omega)); subst ix1; clear f38)
  | (unfold w32 at f38; have ix1 : n19 = n1 + 1 := (by omega); subst ix1)
  | skip
  try unfold w32 at f33
  try unfold w32 at f38

  exact ⟨by omega, SSp_gen y2 (by omega)⟩
def g_283_85_4 : vG := ([(80, [21, 5, 7], [5, 4], 0), (20, [21, 4], [4], 74), (0, [21], [], 336), (80, [20, 5, 6], [4, 3], 0), (20, [20, 4], [3], 73), (0, [20], [], 335), (80, [17, 5, 19], [3, 2], 0), (1, [19, 8, 18], [], 0), (0, [18], [], 1), (20, [17, 4], [2], 72), (0, [17], [], 334), (80, [12, 5, 16], [2, 1], 0), (3, [16, 13, 15], [], 0), (22, [15, 14, 7], [1], 0), (90, [15], [], 0), (91, [15], [], 60), (20, [14, 4], [1], 61), (0, [14], [], 325), (0, [13], [], 4), (20, [12, 4], [1], 67), (0, [12], [], 329), (43, [9, 11], [], 0), (22, [11, 10, 7], [1], 0), (90, [11], [], 0), (91, [11], [], 60), (20, [10, 4], [1], 61), (0, [10], [], 325), (5000, [0, 1, 2, 3, 4, 5, 6, 7, 8, 9], [0, 1], 85), (0, [0], [], 285), (90, [1], [], 0), (91, [1], [], 19), (90, [2], [], 0), (91, [2], [], 7), (90, [3], [], 0), (91, [3], [], 5), (0, [4], [], 285), (90, [5], [], 0), (91, [5], [], 19), (90, [6], [], 0), (91, [6], [], 7), (90, [7], [], 0), (91, [7], [], 5), (90, [8], [], 0), (91, [8], [], 2147483647), (90, [9], [], 0), (91, [9], [], 60)], (2258, [4, 5], [5], 0))
theorem c_283_85_4 {q0 : Nat} : vOkm T0 (eP e_283 L_283 A_283 mu_283 (some q0)) 4 g_283_85_4 := vOk_inI fun ρ η f0 f1 f2 f3 f4 f5 f6 f7 f8 f9 f10 f11 f12 f13 f14 f15 f16 f17 f18 f19 f20 f21 f22 f23 f24 f25 f26 f27 f28 f29 f30 f31 f32 f33 f34 f35 f36 f37 f38 f39 f40 f41 f42 f43 f44 f45 => q_283_15 (q0 := q0) (n0 := ρ 9) (n1 := ρ 8) (n2 := ρ 7) (n3 := ρ 6) (n4 := ρ 5) (n5 := ρ 4) (n6 := ρ 3) (n7 := ρ 2) (n8 := ρ 1) (n9 := ρ 0) (n10 := ρ 10) (n11 := ρ 11) (n12 := ρ 12) (n13 := ρ 13) (n14 := ρ 14) (n15 := ρ 15) (n16 := ρ 16) (n17 := ρ 17) (n18 := ρ 18) (n19 := ρ 19) (n20 := ρ 20) (n21 := ρ 21) (H0 := η 0) (H1 := η 1) (H2 := η 2) (H3 := η 3) (H4 := η 4) (H5 := η 5) f45 f44 f43 f42 f41 f40 f39 f38 f37 f36 f35 f34 f33 f32 f31 f30 f29 f28 f27 f26 f25 f24 f23 f22 f21 f20 f19 f18 f17 f16 f15 f14 f13 f12 f11 f10 f9 f8 f7 f6 f5 f4 f3 f2 f1 f0
theorem kR_258_328 : vFreeR s_258.2.2.2.2 328 = true := by decide +kernel
theorem kR_258_330 : vFreeR s_258.2.2.2.2 330 = true := by decide +kernel
theorem kR_258_331 : vFreeR s_258.2.2.2.2 331 = true := by decide +kernel
theorem kR_258_332 : vFreeR s_258.2.2.2.2 332 = true := by decide +kernel
theorem kR_258_334 : vFreeR s_258.2.2.2.2 334 = true := by decide +kernel
theorem kR_258_335 : vFreeR s_258.2.2.2.2 335 = true := by decide +kernel
theorem kR_258_336 : vFreeR s_258.2.2.2.2 336 = true := by decide +kernel
theorem kR_258_341 : vFreeR s_258.2.2.2.2 341 = true := by decide +kernel
theorem kF_258_285_18 : vFree s_258.2.2.2.2 285 18 = true := by decide +kernel
theorem kF_258_285_64 : vFree s_258.2.2.2.2 285 64 = true := by decide +kernel
theorem q_283_16 {q0 : Nat} {n0 n1 n2 n3 n4 n5 n6 n7 n8 n9 n10 n11 n12 n13 n14 n15 n16 n17 n18 n19 n20 n21 n22 n23 : Int} {H0 H1 H2 H3 H4 H5 H6 : gH} (f0 : n0 ≤ 60) (f1 : 0 ≤ n0) (f2 : n1 ≤ 2147483647) (f3 : 0 ≤ n1) (f4 : n2 ≤ 5) (f5 : 0 ≤ n2) (f6 : n3 ≤ 7) (f7 : 0 ≤ n3) (f8 : n4 ≤ 19) (f9 : 0 ≤ n4) (f10 : n5 = 285) (f11 : n6 ≤ 5) (f12 : 0 ≤ n6) (f13 : n7 ≤ 7) (f14 : 0 ≤ n7) (f15 : n8 ≤ 19) (f16 : 0 ≤ n8) (f17 : n9 = 285) (f18 : (hLe T0 H0 H1 ∧ hFr s_283.2.2.2.2 H0 H1 ∧ hWt T0 H1) ∧ (Ab_283_85 n9 n8 n7 n6 n5 n4 n3 n2 n1 n0 H0 H1 ∧ preb_283 n9 n8 n7 n6 H0) ∧ some q0 = some (mub_283_85 n9 n8 n7 n6 n5 n4 n3 n2 n1 n0 H0 H1)) (f19 : n10 = 325) (f20 : n10 = hV H1 (n5).toNat 61) (f21 : n11 ≤ 60) (f22 : 0 ≤ n11) (f23 : n11 = hV H1 (n10).toNat (n2).toNat) (f24 : n11 ≤ n0) (f25 : n12 = 329) (f26 : n12 = hV H1 (n5).toNat 67) (f27 : n13 = 4) (f28 : n14 = 325) (f29 : n14 = hV H1 (n5).toNat 61) (f30 : n15 ≤ 60) (f31 : 0 ≤ n15) (f32 : n15 = hV H1 (n14).toNat (n2).toNat) (f33 : n16 = w32 (n13 * n15)) (f34 : hUpd H2 H1 n12 n4 n16) (f35 : n17 = 334) (f36 : n17 = hV H2 (n5).toNat 72) (f37 : n18 = 1) (f38 : n19 = w32 (n1 + n18)) (f39 : hUpd H3 H2 n17 n4 n19) (f40 : n20 = 335) (f41 : n20 = hV H3 (n5).toNat 73) (f42 : hUpd H4 H3 n20 n4 n3) (f43 : n21 = 336) (f44 : n21 = hV H4 (n5).toNat 74) (f45 : hUpd H5 H4 n21 n4 n2) (f46 : (hLe T0 H5 H6 ∧ hFr s_258.2.2.2.2 H5 H6 ∧ ((0 : Int) = 0 → H6.length = H5.length) ∧ hWt T0 H6) ∧ postb_258 n5 n4 H5 H6) (f47 : n22 = 333) (f48 : n22 = hV H6 (n5).toNat 71) (f49 : n23 ≤ 2147483647) (f50 : 0 ≤ n23) (f51 : n23 = hV H6 (n22).toNat (n4).toNat) : postb_283 n23 n9 n8 n7 n6 H0 H6 := by
  have g4 := f18.2.1.1
  unfold Ab_283_85 at g4
  have g3 := f18.2.1.2
  unfold preb_283 at g3
  unfold postb_258 at f46
  unfold postb_283
  have e1 : n11 = hV H0 325 (n2).toNat := (by rw [f19] at f23; exact f23 : n11 = hV H1 325 (n2).toNat).trans ((congrFun (fRow f18.1.2.1 325 kR_283_325) _))
  have e2 : n15 = hV H0 325 (n2).toNat := (by rw [f28] at f32; exact f32 : n15 = hV H1 325 (n2).toNat).trans ((congrFun (fRow f18.1.2.1 325 kR_283_325) _))
  have e3 : n23 = hV H6 333 (n4).toNat := (by rw [f47] at f51; exact f51 : n23 = hV H6 333 (n4).toNat)
  have e5 : hV H1 285 18 = hV H0 285 18 := (f18.1.2.1.1 285 18 kF_283_285_18)
  have e7 : hV H1 285 64 = hV H0 285 64 := (f18.1.2.1.1 285 64 kF_283_285_64)
  have e8 : hV H1 298 = hV H0 298 := fRow f18.1.2.1 298 kR_283_298
  have e9 : hV H1 300 = hV H0 300 := fRow f18.1.2.1 300 kR_283_300
  have e10 : hV H1 301 = hV H0 301 := fRow f18.1.2.1 301 kR_283_301
  have e11 : hV H1 302 = hV H0 302 := fRow f18.1.2.1 302 kR_283_302
  have e12 : hV H1 303 = hV H0 303 := fRow f18.1.2.1 303 kR_283_303
  have e13 : hV H1 305 = hV H0 305 := fRow f18.1.2.1 305 kR_283_305
  have e14 : hV H1 328 = hV H0 328 := fRow f18.1.2.1 328 kR_283_328
  have e15 : hV H1 330 = hV H0 330 := fRow f18.1.2.1 330 kR_283_330
  have e16 : hV H1 331 = hV H0 331 := fRow f18.1.2.1 331 kR_283_331
  have e17 : hV H1 332 = hV H0 332 := fRow f18.1.2.1 332 kR_283_332
  have e18 : hV H1 341 = hV H0 341 := fRow f18.1.2.1 341 kR_283_341
  have e23 : hV H5 285 65 = hV H1 285 65 := ((uPlace f45 285 65 (iS (show n21 = ((336 : Nat) : Int) from f43) rfl))).trans (((uPlace f42 285 65 (iS (show n20 = ((335 : Nat) : Int) from f40) rfl))).trans (((uPlace f39 285 65 (iS (show n17 = ((334 : Nat) : Int) from f35) rfl))).trans (uPlace f34 285 65 (iS (show n12 = ((329 : Nat) : Int) from f25) rfl))))
  have e30 : hV H5 333 = hV H1 333 := (uRowNe f45 333 (iS (show n21 = ((336 : Nat) : Int) from f43) rfl)).trans ((uRowNe f42 333 (iS (show n20 = ((335 : Nat) : Int) from f40) rfl)).trans ((uRowNe f39 333 (iS (show n17 = ((334 : Nat) : Int) from f35) rfl)).trans (uRowNe f34 333 (iS (show n12 = ((329 : Nat) : Int) from f25) rfl))))
  have e36 : hV H6 285 18 = hV H0 285 18 := ((f46.1.2.1.1 285 18 kF_258_285_18)).trans (((uPlace f45 285 18 (iS (show n21 = ((336 : Nat) : Int) from f43) rfl))).trans (((uPlace f42 285 18 (iS (show n20 = ((335 : Nat) : Int) from f40) rfl))).trans (((uPlace f39 285 18 (iS (show n17 = ((334 : Nat) : Int) from f35) rfl))).trans (((uPlace f34 285 18 (iS (show n12 = ((329 : Nat) : Int) from f25) rfl))).trans (f18.1.2.1.1 285 18 kF_283_285_18)))))
  have e42 : hV H6 285 64 = hV H0 285 64 := ((f46.1.2.1.1 285 64 kF_258_285_64)).trans (((uPlace f45 285 64 (iS (show n21 = ((336 : Nat) : Int) from f43) rfl))).trans (((uPlace f42 285 64 (iS (show n20 = ((335 : Nat) : Int) from f40) rfl))).trans (((uPlace f39 285 64 (iS (show n17 = ((334 : Nat) : Int) from f35) rfl))).trans (((uPlace f34 285 64 (iS (show n12 = ((329 : Nat) : Int) from f25) rfl))).trans (f18.1.2.1.1 285 64 kF_283_285_64)))))
  have e52 : hV H6 328 = hV H0 328 := (fRow f46.1.2.1 328 kR_258_328).trans ((uRowNe f45 328 (iS (show n21 = ((336 : Nat) : Int) from f43) rfl)).trans ((uRowNe f42 328 (iS (show n20 = ((335 : Nat) : Int) from f40) rfl)).trans ((uRowNe f39 328 (iS (show n17 = ((334 : Nat) : Int) from f35) rfl)).trans ((uRowNe f34 328 (iS (show n12 = ((329 : Nat) : Int) from f25) rfl)).trans e14))))
  have e62 : hV H6 330 = hV H0 330 := (fRow f46.1.2.1 330 kR_258_330).trans ((uRowNe f45 330 (iS (show n21 = ((336 : Nat) : Int) from f43) rfl)).trans ((uRowNe f42 330 (iS (show n20 = ((335 : Nat) : Int) from f40) rfl)).trans ((uRowNe f39 330 (iS (show n17 = ((334 : Nat) : Int) from f35) rfl)).trans ((uRowNe f34 330 (iS (show n12 = ((329 : Nat) : Int) from f25) rfl)).trans e15))))
  have e72 : hV H6 331 = hV H0 331 := (fRow f46.1.2.1 331 kR_258_331).trans ((uRowNe f45 331 (iS (show n21 = ((336 : Nat) : Int) from f43) rfl)).trans ((uRowNe f42 331 (iS (show n20 = ((335 : Nat) : Int) from f40) rfl)).trans ((uRowNe f39 331 (iS (show n17 = ((334 : Nat) : Int) from f35) rfl)).trans ((uRowNe f34 331 (iS (show n12 = ((329 : Nat) : Int) from f25) rfl)).trans e16))))
  have e82 : hV H6 332 = hV H0 332 := (fRow f46.1.2.1 332 kR_258_332).trans ((uRowNe f45 332 (iS (show n21 = ((336 : Nat) : Int) from f43) rfl)).trans ((uRowNe f42 332 (iS (show n20 = ((335 : Nat) : Int) from f40) rfl)).trans ((uRowNe f39 332 (iS (show n17 = ((334 : Nat) : Int) from f35) rfl)).trans ((uRowNe f34 332 (iS (show n12 = ((329 : Nat) : Int) from f25) rfl)).trans e17))))
  have e91 : hV H6 334 = (uF (hV H1 334) n4 n19) := (fRow f46.1.2.1 334 kR_258_334).trans ((uRowNe f45 334 (iS (show n21 = ((336 : Nat) : Int) from f43) rfl)).trans ((uRowNe f42 334 (iS (show n20 = ((335 : Nat) : Int) from f40) rfl)).trans ((uRow f39 334 f35.symm).trans (congrArg (fun z => uF z n4 n19) (uRowNe f34 334 (iS (show n12 = ((329 : Nat) : Int) from f25) rfl))))))
  have e100 : hV H6 335 = (uF (hV H1 335) n4 n3) := (fRow f46.1.2.1 335 kR_258_335).trans ((uRowNe f45 335 (iS (show n21 = ((336 : Nat) : Int) from f43) rfl)).trans ((uRow f42 335 f40.symm).trans (congrArg (fun z => uF z n4 n3) ((uRowNe f39 335 (iS (show n17 = ((334 : Nat) : Int) from f35) rfl)).trans (uRowNe f34 335 (iS (show n12 = ((329 : Nat) : Int) from f25) rfl))))))
  have e109 : hV H6 336 = (uF (hV H1 336) n4 n2) := (fRow f46.1.2.1 336 kR_258_336).trans ((uRow f45 336 f43.symm).trans (congrArg (fun z => uF z n4 n2) ((uRowNe f42 336 (iS (show n20 = ((335 : Nat) : Int) from f40) rfl)).trans ((uRowNe f39 336 (iS (show n17 = ((334 : Nat) : Int) from f35) rfl)).trans (uRowNe f34 336 (iS (show n12 = ((329 : Nat) : Int) from f25) rfl))))))
  have e119 : hV H6 341 = hV H0 341 := (fRow f46.1.2.1 341 kR_258_341).trans ((uRowNe f45 341 (iS (show n21 = ((336 : Nat) : Int) from f43) rfl)).trans ((uRowNe f42 341 (iS (show n20 = ((335 : Nat) : Int) from f40) rfl)).trans ((uRowNe f39 341 (iS (show n17 = ((334 : Nat) : Int) from f35) rfl)).trans ((uRowNe f34 341 (iS (show n12 = ((329 : Nat) : Int) from f25) rfl)).trans e18))))
  have e120 : (0 : Int) ≤ hV H0 285 18 ∧ hV H0 285 18 ≤ 8 := bTo e5 (f18.1.2.2 285 18 _ _ kW_285_18)
  have e121 : (0 : Int) ≤ hV H0 285 64 ∧ hV H0 285 64 ≤ 20 := bTo e7 (f18.1.2.2 285 64 _ _ kW_285_64)
  have e122 : (0 : Int) ≤ hV H1 285 65 ∧ hV H1 285 65 ≤ 2147483647 := f18.1.2.2 285 65 _ _ kW_285_65
  have e123 : (0 : Int) ≤ hV H1 285 82 ∧ hV H1 285 82 ≤ 40 := f18.1.2.2 285 82 _ _ kW_285_82
  have e126 : (0 : Int) ≤ hV H6 285 65 ∧ hV H6 285 65 ≤ 2147483647 := f46.1.2.2.2 285 65 _ _ kW_285_65
  try simp only [SO, SS, XQ]
  try simp only [e36, e42, e52, e62, e72, e82, e91, e100, e109, e119]
  have k0 := g4.1
  have k1 := g4.2.1
  have k2 := g4.2.2.1
  have y0 := g4.2.2.2.1
  have y1 := g4.2.2.2.2.1
  have y2 := g4.2.2.2.2.2.1
  have y3 := g4.2.2.2.2.2.2.1
  have y4 := g4.2.2.2.2.2.2.2.1
  have y5 := g4.2.2.2.2.2.2.2.2.1
  have y6 := g4.2.2.2.2.2.2.2.2.2
  have p0 := g3.1
  have p1 := g3.2.1
  have p2 := g3.2.2.1
  have p3 := g3.2.2.2.1
  have p4 := g3.2.2.2.2.1
  have p5 := g3.2.2.2.2.2.1
  have p6 := g3.2.2.2.2.2.2
  have r0_0 := f46.2.1
  have r0_1 := f46.2.2.1
  have r0_2 := f46.2.2.2
  try simp only [XQ] at y0
  try simp only [SO] at y1
  try simp only [SS] at y2
  try simp only [SO] at p4
  try simp only [SS] at p5
  try simp only [SS] at r0_0
  try simp only [e8, e9, e10, e11, e12, e13] at y0
  try simp only [e5, e7, e14, e15, e16, e17] at y1
  try simp only [e18] at y2
  try simp only [e91, e119] at r0_0
  try simp only [e23] at r0_1
  try simp only [e30] at r0_2
  clear g3
  clear g4
  clear f20 f23 f26 f29 f32 f36 f41 f44 f48 f51 e5 e7 e8 e9 e10 e11 e12 e13 e14 e15 e16 e17 e18 e23 e30 e36 e42 e52 e62 e72 e82 e91 e100 e109 e119
  clear f18 f46
  subst e1
  subst e2
  subst e3
  rw [f27] at f33
  first
  | (have ix0 : n16 = 4 * (hV H0 325 (n2).toNat) := Eq.trans f33 (w32_iv (Iml 4 rfl (Iat f22 f21)) (by decide)); subst ix0; clear f33)
  | (have ix0 : n16 = 4 * (hV H0 325 (n2).toNat) := Eq.trans f33 (w32_id (by omega) (by omega)); subst ix0; clear f33)
  | (unfold w32 at f33; have ix0 : n16 = 4 * (hV H0 325 (n2).toNat) := (by omega); subst ix0)
  | skip
  first
  | (have ix1 : n19 = n1 + 1 := Eq.trans f38 (w32_id (by omega) (by omega)); subst ix1; clear f38)
  | (unfold w32 at f38; have ix1 : n19 = n1 + 1 := (by omega); subst ix1)
  | skip
  try unfold w32 at f33
  try unfold w32 at f38

  try subst k2
  try subst k1
  try subst k0
  refine ⟨SOp_make y1 (by omega) (by omega) (by omega) (by omega), r0_0, by omega, ?_, ?_⟩
  · rw [r0_2, y3]
    try first | rfl | (congr 1; omega) | (congr 1 <;> omega)
  · first | (rw [y4]; done) | rfl | (rw [y4]) | (simp only [y4])
def g_283_85_5 : vG := ([(22, [23, 22, 5], [6], 0), (90, [23], [], 0), (91, [23], [], 2147483647), (20, [22, 4], [6], 71), (0, [22], [], 333), (1258, [4, 5], [5, 6], 0), (80, [21, 5, 7], [5, 4], 0), (20, [21, 4], [4], 74), (0, [21], [], 336), (80, [20, 5, 6], [4, 3], 0), (20, [20, 4], [3], 73), (0, [20], [], 335), (80, [17, 5, 19], [3, 2], 0), (1, [19, 8, 18], [], 0), (0, [18], [], 1), (20, [17, 4], [2], 72), (0, [17], [], 334), (80, [12, 5, 16], [2, 1], 0), (3, [16, 13, 15], [], 0), (22, [15, 14, 7], [1], 0), (90, [15], [], 0), (91, [15], [], 60), (20, [14, 4], [1], 61), (0, [14], [], 325), (0, [13], [], 4), (20, [12, 4], [1], 67), (0, [12], [], 329), (43, [9, 11], [], 0), (22, [11, 10, 7], [1], 0), (90, [11], [], 0), (91, [11], [], 60), (20, [10, 4], [1], 61), (0, [10], [], 325), (5000, [0, 1, 2, 3, 4, 5, 6, 7, 8, 9], [0, 1], 85), (0, [0], [], 285), (90, [1], [], 0), (91, [1], [], 19), (90, [2], [], 0), (91, [2], [], 7), (90, [3], [], 0), (91, [3], [], 5), (0, [4], [], 285), (90, [5], [], 0), (91, [5], [], 19), (90, [6], [], 0), (91, [6], [], 7), (90, [7], [], 0), (91, [7], [], 5), (90, [8], [], 0), (91, [8], [], 2147483647), (90, [9], [], 0), (91, [9], [], 60)], (3000, [23], [6], 221))
theorem c_283_85_5 {q0 : Nat} : vOkm T0 (eP e_283 L_283 A_283 mu_283 (some q0)) 4 g_283_85_5 := vOk_inI fun ρ η f0 f1 f2 f3 f4 f5 f6 f7 f8 f9 f10 f11 f12 f13 f14 f15 f16 f17 f18 f19 f20 f21 f22 f23 f24 f25 f26 f27 f28 f29 f30 f31 f32 f33 f34 f35 f36 f37 f38 f39 f40 f41 f42 f43 f44 f45 f46 f47 f48 f49 f50 f51 => q_283_16 (q0 := q0) (n0 := ρ 9) (n1 := ρ 8) (n2 := ρ 7) (n3 := ρ 6) (n4 := ρ 5) (n5 := ρ 4) (n6 := ρ 3) (n7 := ρ 2) (n8 := ρ 1) (n9 := ρ 0) (n10 := ρ 10) (n11 := ρ 11) (n12 := ρ 12) (n13 := ρ 13) (n14 := ρ 14) (n15 := ρ 15) (n16 := ρ 16) (n17 := ρ 17) (n18 := ρ 18) (n19 := ρ 19) (n20 := ρ 20) (n21 := ρ 21) (n22 := ρ 22) (n23 := ρ 23) (H0 := η 0) (H1 := η 1) (H2 := η 2) (H3 := η 3) (H4 := η 4) (H5 := η 5) (H6 := η 6) f51 f50 f49 f48 f47 f46 f45 f44 f43 f42 f41 f40 f39 f38 f37 f36 f35 f34 f33 f32 f31 f30 f29 f28 f27 f26 f25 f24 f23 f22 f21 f20 f19 f18 f17 f16 f15 f14 f13 f12 f11 f10 f9 f8 f7 f6 f5 f4 f3 f2 f1 f0
theorem q_283_17 {q0 : Nat} {n0 n1 : Int} {H0 : gH} (f0 : n0 ≤ 60) (f1 : n1 < n0) : n1 ≤ 59 := by
  try simp only [SO, SS, XQ]
  omega
def g_283_85_6 : vG := ([(42, [9, 11], [], 0), (91, [11], [], 60)], (91, [9], [], 59))
theorem c_283_85_6 {q0 : Nat} : vOkm T0 (eP e_283 L_283 A_283 mu_283 (some q0)) 4 g_283_85_6 := vOk_inI fun ρ η f0 f1 => q_283_17 (q0 := q0) (n0 := ρ 11) (n1 := ρ 9) (H0 := η 0) f1 f0
def g_283_85_7 : vG := ([(42, [9, 11], [], 0), (91, [11], [], 60)], (91, [9], [], 59))
theorem c_283_85_7 {q0 : Nat} : vOkm T0 (eP e_283 L_283 A_283 mu_283 (some q0)) 4 g_283_85_7 := vOk_inI fun ρ η f0 f1 => q_283_17 (q0 := q0) (n0 := ρ 11) (n1 := ρ 9) (H0 := η 0) f1 f0
theorem kR_283_293 : vFreeR s_283.2.2.2.2 293 = true := by decide +kernel
theorem kR_248_298 : vFreeR s_248.2.2.2.2 298 = true := by decide +kernel
theorem kR_248_300 : vFreeR s_248.2.2.2.2 300 = true := by decide +kernel
theorem kR_248_301 : vFreeR s_248.2.2.2.2 301 = true := by decide +kernel
theorem kR_248_302 : vFreeR s_248.2.2.2.2 302 = true := by decide +kernel
theorem kR_248_303 : vFreeR s_248.2.2.2.2 303 = true := by decide +kernel
theorem kR_248_305 : vFreeR s_248.2.2.2.2 305 = true := by decide +kernel
theorem kR_248_328 : vFreeR s_248.2.2.2.2 328 = true := by decide +kernel
theorem kR_248_330 : vFreeR s_248.2.2.2.2 330 = true := by decide +kernel
theorem kR_248_331 : vFreeR s_248.2.2.2.2 331 = true := by decide +kernel
theorem kR_248_332 : vFreeR s_248.2.2.2.2 332 = true := by decide +kernel
theorem kR_248_333 : vFreeR s_248.2.2.2.2 333 = true := by decide +kernel
theorem kR_248_334 : vFreeR s_248.2.2.2.2 334 = true := by decide +kernel
theorem kR_248_335 : vFreeR s_248.2.2.2.2 335 = true := by decide +kernel
theorem kR_248_336 : vFreeR s_248.2.2.2.2 336 = true := by decide +kernel
theorem kR_248_341 : vFreeR s_248.2.2.2.2 341 = true := by decide +kernel
theorem kR_248_344 : vFreeR s_248.2.2.2.2 344 = true := by decide +kernel
theorem kF_248_285_18 : vFree s_248.2.2.2.2 285 18 = true := by decide +kernel
theorem kF_248_285_64 : vFree s_248.2.2.2.2 285 64 = true := by decide +kernel
theorem kF_248_285_65 : vFree s_248.2.2.2.2 285 65 = true := by decide +kernel
theorem kF_248_285_82 : vFree s_248.2.2.2.2 285 82 = true := by decide +kernel
theorem q_283_18 {q0 : Nat} {n0 n1 n2 n3 n4 n5 n6 n7 n8 n9 n10 n11 n12 n13 n14 n15 : Int} {H0 H1 H2 : gH} (f0 : n0 ≤ 60) (f1 : 0 ≤ n0) (f2 : n1 ≤ 2147483647) (f3 : 0 ≤ n1) (f4 : n2 ≤ 5) (f5 : 0 ≤ n2) (f6 : n3 ≤ 7) (f7 : 0 ≤ n3) (f8 : n4 ≤ 19) (f9 : 0 ≤ n4) (f10 : n5 = 285) (f11 : n6 ≤ 5) (f12 : 0 ≤ n6) (f13 : n7 ≤ 7) (f14 : 0 ≤ n7) (f15 : n8 ≤ 19) (f16 : 0 ≤ n8) (f17 : n9 = 285) (f18 : (hLe T0 H0 H1 ∧ hFr s_283.2.2.2.2 H0 H1 ∧ hWt T0 H1) ∧ (Ab_283_85 n9 n8 n7 n6 n5 n4 n3 n2 n1 n0 H0 H1 ∧ preb_283 n9 n8 n7 n6 H0) ∧ some q0 = some (mub_283_85 n9 n8 n7 n6 n5 n4 n3 n2 n1 n0 H0 H1)) (f19 : n10 = 325) (f20 : n10 = hV H1 (n5).toNat 61) (f21 : n11 ≤ 60) (f22 : 0 ≤ n11) (f23 : n11 = hV H1 (n10).toNat (n2).toNat) (f24 : n0 < n11) (f25 : n12 = 293) (f26 : n12 = hV H1 (n5).toNat 19) (f27 : n13 ≤ 5) (f28 : 0 ≤ n13) (f29 : n13 = hV H1 (n12).toNat (n3).toNat) (f30 : n14 ≤ 59) (f31 : (-1) ≤ n14) (f32 : (hLe T0 H1 H2 ∧ hFr s_248.2.2.2.2 H1 H2 ∧ ((0 : Int) = 0 → H2.length = H1.length) ∧ hWt T0 H2) ∧ True) (f33 : n15 = 0) : Ab_283_114 n9 n8 n7 n6 n5 n4 n3 n2 n1 n0 n14 n15 H0 H2 ∧ ∀ q, some q0 = some q → mub_283_114 n9 n8 n7 n6 n5 n4 n3 n2 n1 n0 n14 n15 H0 H2 < q := by
  have g4 := f18.2.1.1
  unfold Ab_283_85 at g4
  have g3 := f18.2.1.2
  unfold preb_283 at g3
  have g5 := Option.some.inj f18.2.2
  unfold mub_283_85 at g5
  unfold Ab_283_114
  unfold mub_283_114
  have e1 : n11 = hV H0 325 (n2).toNat := (by rw [f19] at f23; exact f23 : n11 = hV H1 325 (n2).toNat).trans ((congrFun (fRow f18.1.2.1 325 kR_283_325) _))
  have e3 : n13 = hV H0 293 (n3).toNat := (by rw [f25] at f29; exact f29 : n13 = hV H1 293 (n3).toNat).trans ((congrFun (fRow f18.1.2.1 293 kR_283_293) _))
  have e5 : hV H1 285 18 = hV H0 285 18 := (f18.1.2.1.1 285 18 kF_283_285_18)
  have e7 : hV H1 285 64 = hV H0 285 64 := (f18.1.2.1.1 285 64 kF_283_285_64)
  have e8 : hV H1 298 = hV H0 298 := fRow f18.1.2.1 298 kR_283_298
  have e9 : hV H1 300 = hV H0 300 := fRow f18.1.2.1 300 kR_283_300
  have e10 : hV H1 301 = hV H0 301 := fRow f18.1.2.1 301 kR_283_301
  have e11 : hV H1 302 = hV H0 302 := fRow f18.1.2.1 302 kR_283_302
  have e12 : hV H1 303 = hV H0 303 := fRow f18.1.2.1 303 kR_283_303
  have e13 : hV H1 305 = hV H0 305 := fRow f18.1.2.1 305 kR_283_305
  have e14 : hV H1 328 = hV H0 328 := fRow f18.1.2.1 328 kR_283_328
  have e15 : hV H1 330 = hV H0 330 := fRow f18.1.2.1 330 kR_283_330
  have e16 : hV H1 331 = hV H0 331 := fRow f18.1.2.1 331 kR_283_331
  have e17 : hV H1 332 = hV H0 332 := fRow f18.1.2.1 332 kR_283_332
  have e18 : hV H1 341 = hV H0 341 := fRow f18.1.2.1 341 kR_283_341
  have e20 : hV H2 285 18 = hV H0 285 18 := ((f32.1.2.1.1 285 18 kF_248_285_18)).trans (f18.1.2.1.1 285 18 kF_283_285_18)
  have e22 : hV H2 285 64 = hV H0 285 64 := ((f32.1.2.1.1 285 64 kF_248_285_64)).trans (f18.1.2.1.1 285 64 kF_283_285_64)
  have e24 : hV H2 285 65 = hV H1 285 65 := (f32.1.2.1.1 285 65 kF_248_285_65)
  have e26 : hV H2 285 82 = hV H1 285 82 := (f32.1.2.1.1 285 82 kF_248_285_82)
  have e28 : hV H2 298 = hV H0 298 := (fRow f32.1.2.1 298 kR_248_298).trans e8
  have e30 : hV H2 300 = hV H0 300 := (fRow f32.1.2.1 300 kR_248_300).trans e9
  have e32 : hV H2 301 = hV H0 301 := (fRow f32.1.2.1 301 kR_248_301).trans e10
  have e34 : hV H2 302 = hV H0 302 := (fRow f32.1.2.1 302 kR_248_302).trans e11
  have e36 : hV H2 303 = hV H0 303 := (fRow f32.1.2.1 303 kR_248_303).trans e12
  have e38 : hV H2 305 = hV H0 305 := (fRow f32.1.2.1 305 kR_248_305).trans e13
  have e40 : hV H2 328 = hV H0 328 := (fRow f32.1.2.1 328 kR_248_328).trans e14
  have e42 : hV H2 330 = hV H0 330 := (fRow f32.1.2.1 330 kR_248_330).trans e15
  have e44 : hV H2 331 = hV H0 331 := (fRow f32.1.2.1 331 kR_248_331).trans e16
  have e46 : hV H2 332 = hV H0 332 := (fRow f32.1.2.1 332 kR_248_332).trans e17
  have e47 : hV H2 333 = hV H1 333 := fRow f32.1.2.1 333 kR_248_333
  have e48 : hV H2 334 = hV H1 334 := fRow f32.1.2.1 334 kR_248_334
  have e49 : hV H2 335 = hV H1 335 := fRow f32.1.2.1 335 kR_248_335
  have e50 : hV H2 336 = hV H1 336 := fRow f32.1.2.1 336 kR_248_336
  have e52 : hV H2 341 = hV H0 341 := (fRow f32.1.2.1 341 kR_248_341).trans e18
  have e53 : hV H2 344 = hV H1 344 := fRow f32.1.2.1 344 kR_248_344
  have e54 : (0 : Int) ≤ hV H0 285 18 ∧ hV H0 285 18 ≤ 8 := bTo e5 (f18.1.2.2 285 18 _ _ kW_285_18)
  have e55 : (0 : Int) ≤ hV H0 285 64 ∧ hV H0 285 64 ≤ 20 := bTo e7 (f18.1.2.2 285 64 _ _ kW_285_64)
  have e56 : (0 : Int) ≤ hV H1 285 65 ∧ hV H1 285 65 ≤ 2147483647 := f18.1.2.2 285 65 _ _ kW_285_65
  have e57 : (0 : Int) ≤ hV H1 285 82 ∧ hV H1 285 82 ≤ 40 := f18.1.2.2 285 82 _ _ kW_285_82
  try simp only [SO, SS, XQ]
  try simp only [e20, e22, e24, e26, e28, e30, e32, e34, e36, e38, e40, e42, e44, e46, e47, e48, e49, e50, e52, e53]
  have k0 := g4.1
  have k1 := g4.2.1
  have k2 := g4.2.2.1
  have y0 := g4.2.2.2.1
  have y1 := g4.2.2.2.2.1
  have y2 := g4.2.2.2.2.2.1
  have y3 := g4.2.2.2.2.2.2.1
  have y4 := g4.2.2.2.2.2.2.2.1
  have y5 := g4.2.2.2.2.2.2.2.2.1
  have y6 := g4.2.2.2.2.2.2.2.2.2
  have p0 := g3.1
  have p1 := g3.2.1
  have p2 := g3.2.2.1
  have p3 := g3.2.2.2.1
  have p4 := g3.2.2.2.2.1
  have p5 := g3.2.2.2.2.2.1
  have p6 := g3.2.2.2.2.2.2
  try simp only [XQ] at y0
  try simp only [SO] at y1
  try simp only [SS] at y2
  try simp only [SO] at p4
  try simp only [SS] at p5
  try simp only [e8, e9, e10, e11, e12, e13] at y0
  try simp only [e5, e7, e14, e15, e16, e17] at y1
  try simp only [e18] at y2
  clear g3
  clear g4
  clear f20 f23 f26 f29 e5 e7 e8 e9 e10 e11 e12 e13 e14 e15 e16 e17 e18 e20 e22 e24 e26 e28 e30 e32 e34 e36 e38 e40 e42 e44 e46 e47 e48 e49 e50 e52 e53
  clear f18 f32
  subst e1
  subst e3

  refine ⟨?_, fun q hq => ?_⟩
  · exact ⟨by first | omega | trivial, by first | omega | trivial, by first | omega | trivial, y0, y1, y2, y3, y4, by omega, by omega⟩
  · have g6 := Option.some.inj hq
    subst g6
    omega
def g_283_85_8 : vG := ([(0, [15], [], 0), (1248, [14, 4, 7, 9, 13], [1, 2], 0), (90, [14], [], -1), (91, [14], [], 59), (22, [13, 12, 6], [1], 0), (90, [13], [], 0), (91, [13], [], 5), (20, [12, 4], [1], 19), (0, [12], [], 293), (42, [9, 11], [], 0), (22, [11, 10, 7], [1], 0), (90, [11], [], 0), (91, [11], [], 60), (20, [10, 4], [1], 61), (0, [10], [], 325), (5000, [0, 1, 2, 3, 4, 5, 6, 7, 8, 9], [0, 1], 85), (0, [0], [], 285), (90, [1], [], 0), (91, [1], [], 19), (90, [2], [], 0), (91, [2], [], 7), (90, [3], [], 0), (91, [3], [], 5), (0, [4], [], 285), (90, [5], [], 0), (91, [5], [], 19), (90, [6], [], 0), (91, [6], [], 7), (90, [7], [], 0), (91, [7], [], 5), (90, [8], [], 0), (91, [8], [], 2147483647), (90, [9], [], 0), (91, [9], [], 60)], (4000, [4, 5, 6, 7, 8, 9, 14, 15], [2], 114))
theorem c_283_85_8 {q0 : Nat} : vOkm T0 (eP e_283 L_283 A_283 mu_283 (some q0)) 4 g_283_85_8 := vOk_inI fun ρ η f0 f1 f2 f3 f4 f5 f6 f7 f8 f9 f10 f11 f12 f13 f14 f15 f16 f17 f18 f19 f20 f21 f22 f23 f24 f25 f26 f27 f28 f29 f30 f31 f32 f33 => q_283_18 (q0 := q0) (n0 := ρ 9) (n1 := ρ 8) (n2 := ρ 7) (n3 := ρ 6) (n4 := ρ 5) (n5 := ρ 4) (n6 := ρ 3) (n7 := ρ 2) (n8 := ρ 1) (n9 := ρ 0) (n10 := ρ 10) (n11 := ρ 11) (n12 := ρ 12) (n13 := ρ 13) (n14 := ρ 14) (n15 := ρ 15) (H0 := η 0) (H1 := η 1) (H2 := η 2) f33 f32 f31 f30 f29 f28 f27 f26 f25 f24 f23 f22 f21 f20 f19 f18 f17 f16 f15 f14 f13 f12 f11 f10 f9 f8 f7 f6 f5 f4 f3 f2 f1 f0
def p_283_85 : List vG := [g_283_85_0,
  g_283_85_1,
  g_283_85_2,
  g_283_85_3,
  g_283_85_4,
  g_283_85_5,
  g_283_85_6,
  g_283_85_7,
  g_283_85_8]
theorem r_283_85 : vCovO false (eRc e_283 L_283 cs_283 2000 (85, [(0, (3, 12, 285, 0)), (1, (0, 0, 19, 0)), (2, (0, 0, 7, 0)), (3, (0, 0, 5, 0)), (4, (0, 0, 2147483647, 0)), (5, (0, 0, 60, 0))])) p_283_85 = true := by decide +kernel
theorem q_283_19 {q0 : Nat} {n0 n1 : Int} {H0 : gH} (f0 : n0 ≤ 59) (f1 : 0 ≤ n0) (f2 : n1 = w32 (n0 + 1)) : 0 ≤ n1 := by
  try simp only [SO, SS, XQ]
  first
  | (have ix0 : n1 = n0 + 1 := Eq.trans f2 (w32_iv (Iad (Iat f1 f0) (IC 1)) (by decide)); subst ix0; clear f2)
  | (have ix0 : n1 = n0 + 1 := Eq.trans f2 (w32_id (by omega) (by omega)); subst ix0; clear f2)
  | (unfold w32 at f2; have ix0 : n1 = n0 + 1 := (by omega); subst ix0)
  | skip
  try unfold w32 at f2
  omega
def g_283_114_0 : vG := ([(10, [13, 9], [], 1), (90, [9], [], 0), (91, [9], [], 59)], (90, [13], [], 0))
theorem c_283_114_0 {q0 : Nat} : vOkm T0 (eP e_283 L_283 A_283 mu_283 (some q0)) 4 g_283_114_0 := vOk_inI fun ρ η f0 f1 f2 => q_283_19 (q0 := q0) (n0 := ρ 9) (n1 := ρ 13) (H0 := η 0) f2 f1 f0
theorem q_283_20 {q0 : Nat} {n0 n1 : Int} {H0 : gH} (f0 : n0 ≤ 59) (f1 : 0 ≤ n0) (f2 : n1 = w32 (n0 + 1)) : n1 ≤ 60 := by
  try simp only [SO, SS, XQ]
  first
  | (have ix0 : n1 = n0 + 1 := Eq.trans f2 (w32_iv (Iad (Iat f1 f0) (IC 1)) (by decide)); subst ix0; clear f2)
  | (have ix0 : n1 = n0 + 1 := Eq.trans f2 (w32_id (by omega) (by omega)); subst ix0; clear f2)
  | (unfold w32 at f2; have ix0 : n1 = n0 + 1 := (by omega); subst ix0)
  | skip
  try unfold w32 at f2
  omega
def g_283_114_1 : vG := ([(10, [13, 9], [], 1), (90, [9], [], 0), (91, [9], [], 59)], (91, [13], [], 60))
theorem c_283_114_1 {q0 : Nat} : vOkm T0 (eP e_283 L_283 A_283 mu_283 (some q0)) 4 g_283_114_1 := vOk_inI fun ρ η f0 f1 f2 => q_283_20 (q0 := q0) (n0 := ρ 9) (n1 := ρ 13) (H0 := η 0) f2 f1 f0
theorem q_283_21 {q0 : Nat} {n0 n1 n2 n3 n4 n5 n6 n7 n8 n9 n10 n11 n12 n13 : Int} {H0 H1 : gH} (f0 : n0 ≤ 4) (f1 : 0 ≤ n0) (f2 : n1 ≤ 59) (f3 : (-1) ≤ n1) (f4 : n2 ≤ 59) (f5 : 0 ≤ n2) (f6 : n3 ≤ 2147483647) (f7 : 0 ≤ n3) (f8 : n4 ≤ 5) (f9 : 0 ≤ n4) (f10 : n5 ≤ 7) (f11 : 0 ≤ n5) (f12 : n6 ≤ 19) (f13 : 0 ≤ n6) (f14 : n7 = 285) (f15 : n8 ≤ 5) (f16 : 0 ≤ n8) (f17 : n9 ≤ 7) (f18 : 0 ≤ n9) (f19 : n10 ≤ 19) (f20 : 0 ≤ n10) (f21 : n11 = 285) (f22 : (hLe T0 H0 H1 ∧ hFr s_283.2.2.2.2 H0 H1 ∧ hWt T0 H1) ∧ (Ab_283_114 n11 n10 n9 n8 n7 n6 n5 n4 n3 n2 n1 n0 H0 H1 ∧ preb_283 n11 n10 n9 n8 H0) ∧ some q0 = some (mub_283_114 n11 n10 n9 n8 n7 n6 n5 n4 n3 n2 n1 n0 H0 H1)) (f23 : n12 = 4) (f24 : n12 ≤ n0) (f25 : n13 = w32 (n2 + 1)) : Ab_283_85 n11 n10 n9 n8 n7 n6 n5 n4 n3 n13 H0 H1 ∧ ∀ q, some q0 = some q → mub_283_85 n11 n10 n9 n8 n7 n6 n5 n4 n3 n13 H0 H1 < q := by
  have g4 := f22.2.1.1
  unfold Ab_283_114 at g4
  have g3 := f22.2.1.2
  unfold preb_283 at g3
  have g5 := Option.some.inj f22.2.2
  unfold mub_283_114 at g5
  unfold Ab_283_85
  unfold mub_283_85
  have e1 : hV H1 285 18 = hV H0 285 18 := (f22.1.2.1.1 285 18 kF_283_285_18)
  have e3 : hV H1 285 64 = hV H0 285 64 := (f22.1.2.1.1 285 64 kF_283_285_64)
  have e4 : hV H1 298 = hV H0 298 := fRow f22.1.2.1 298 kR_283_298
  have e5 : hV H1 300 = hV H0 300 := fRow f22.1.2.1 300 kR_283_300
  have e6 : hV H1 301 = hV H0 301 := fRow f22.1.2.1 301 kR_283_301
  have e7 : hV H1 302 = hV H0 302 := fRow f22.1.2.1 302 kR_283_302
  have e8 : hV H1 303 = hV H0 303 := fRow f22.1.2.1 303 kR_283_303
  have e9 : hV H1 305 = hV H0 305 := fRow f22.1.2.1 305 kR_283_305
  have e10 : hV H1 328 = hV H0 328 := fRow f22.1.2.1 328 kR_283_328
  have e11 : hV H1 330 = hV H0 330 := fRow f22.1.2.1 330 kR_283_330
  have e12 : hV H1 331 = hV H0 331 := fRow f22.1.2.1 331 kR_283_331
  have e13 : hV H1 332 = hV H0 332 := fRow f22.1.2.1 332 kR_283_332
  have e14 : hV H1 341 = hV H0 341 := fRow f22.1.2.1 341 kR_283_341
  have e15 : (0 : Int) ≤ hV H0 285 18 ∧ hV H0 285 18 ≤ 8 := bTo e1 (f22.1.2.2 285 18 _ _ kW_285_18)
  have e16 : (0 : Int) ≤ hV H0 285 64 ∧ hV H0 285 64 ≤ 20 := bTo e3 (f22.1.2.2 285 64 _ _ kW_285_64)
  have e17 : (0 : Int) ≤ hV H1 285 65 ∧ hV H1 285 65 ≤ 2147483647 := f22.1.2.2 285 65 _ _ kW_285_65
  have e18 : (0 : Int) ≤ hV H1 285 82 ∧ hV H1 285 82 ≤ 40 := f22.1.2.2 285 82 _ _ kW_285_82
  try simp only [SO, SS, XQ]
  try simp only [e1, e3, e4, e5, e6, e7, e8, e9, e10, e11, e12, e13, e14]
  have k0 := g4.1
  have k1 := g4.2.1
  have k2 := g4.2.2.1
  have y0 := g4.2.2.2.1
  have y1 := g4.2.2.2.2.1
  have y2 := g4.2.2.2.2.2.1
  have y3 := g4.2.2.2.2.2.2.1
  have y4 := g4.2.2.2.2.2.2.2.1
  have y5 := g4.2.2.2.2.2.2.2.2.1
  have y6 := g4.2.2.2.2.2.2.2.2.2
  have p0 := g3.1
  have p1 := g3.2.1
  have p2 := g3.2.2.1
  have p3 := g3.2.2.2.1
  have p4 := g3.2.2.2.2.1
  have p5 := g3.2.2.2.2.2.1
  have p6 := g3.2.2.2.2.2.2
  try simp only [XQ] at y0
  try simp only [SO] at y1
  try simp only [SS] at y2
  try simp only [SO] at p4
  try simp only [SS] at p5
  try simp only [e4, e5, e6, e7, e8, e9] at y0
  try simp only [e1, e3, e10, e11, e12, e13] at y1
  try simp only [e14] at y2
  clear g3
  clear g4
  clear e1 e3 e4 e5 e6 e7 e8 e9 e10 e11 e12 e13 e14
  clear f22
  first
  | (have ix0 : n13 = n2 + 1 := Eq.trans f25 (w32_iv (Iad (Iat f5 f4) (IC 1)) (by decide)); subst ix0; clear f25)
  | (have ix0 : n13 = n2 + 1 := Eq.trans f25 (w32_id (by omega) (by omega)); subst ix0; clear f25)
  | (unfold w32 at f25; have ix0 : n13 = n2 + 1 := (by omega); subst ix0)
  | skip
  try unfold w32 at f25

  refine ⟨?_, fun q hq => ?_⟩
  · exact ⟨by first | omega | trivial, by first | omega | trivial, by first | omega | trivial, y0, y1, y2, y3, y4, by omega, by omega⟩
  · have g6 := Option.some.inj hq
    subst g6
    omega
def g_283_114_2 : vG := ([(10, [13, 9], [], 1), (43, [11, 12], [], 0), (0, [12], [], 4), (5000, [0, 1, 2, 3, 4, 5, 6, 7, 8, 9, 10, 11], [0, 1], 114), (0, [0], [], 285), (90, [1], [], 0), (91, [1], [], 19), (90, [2], [], 0), (91, [2], [], 7), (90, [3], [], 0), (91, [3], [], 5), (0, [4], [], 285), (90, [5], [], 0), (91, [5], [], 19), (90, [6], [], 0), (91, [6], [], 7), (90, [7], [], 0), (91, [7], [], 5), (90, [8], [], 0), (91, [8], [], 2147483647), (90, [9], [], 0), (91, [9], [], 59), (90, [10], [], -1), (91, [10], [], 59), (90, [11], [], 0), (91, [11], [], 4)], (4000, [4, 5, 6, 7, 8, 13], [1], 85))
theorem c_283_114_2 {q0 : Nat} : vOkm T0 (eP e_283 L_283 A_283 mu_283 (some q0)) 4 g_283_114_2 := vOk_inI fun ρ η f0 f1 f2 f3 f4 f5 f6 f7 f8 f9 f10 f11 f12 f13 f14 f15 f16 f17 f18 f19 f20 f21 f22 f23 f24 f25 => q_283_21 (q0 := q0) (n0 := ρ 11) (n1 := ρ 10) (n2 := ρ 9) (n3 := ρ 8) (n4 := ρ 7) (n5 := ρ 6) (n6 := ρ 5) (n7 := ρ 4) (n8 := ρ 3) (n9 := ρ 2) (n10 := ρ 1) (n11 := ρ 0) (n12 := ρ 12) (n13 := ρ 13) (H0 := η 0) (H1 := η 1) f25 f24 f23 f22 f21 f20 f19 f18 f17 f16 f15 f14 f13 f12 f11 f10 f9 f8 f7 f6 f5 f4 f3 f2 f1 f0
theorem q_283_22 {q0 : Nat} {n0 n1 n2 n3 n4 n5 n6 : Int} {H0 : gH} (f0 : 0 ≤ n0) (f1 : n1 ≤ 59) (f2 : (-1) ≤ n1) (f3 : n2 = 4) (f4 : n0 < n2) (f5 : n3 = (-1)) (f6 : n1 ≠ n3) (f7 : n4 = 4) (f8 : n5 = w32 (n4 * n1)) (f9 : n6 = w32 (n5 + n0)) : 0 ≤ n6 ∧ n6 < 240 := by
  try simp only [SO, SS, XQ]
  rw [f7] at f8
  first
  | (have ix0 : n5 = 4 * n1 := Eq.trans f8 (w32_iv (Iml 4 rfl (Iat f2 f1)) (by decide)); subst ix0; clear f8)
  | (have ix0 : n5 = 4 * n1 := Eq.trans f8 (w32_id (by omega) (by omega)); subst ix0; clear f8)
  | (unfold w32 at f8; have ix0 : n5 = 4 * n1 := (by omega); subst ix0)
  | skip
  first
  | (have ix1 : n6 = (4 * n1) + n0 := Eq.trans f9 (w32_id (by omega) (by omega)); subst ix1; clear f9)
  | (unfold w32 at f9; have ix1 : n6 = (4 * n1) + n0 := (by omega); subst ix1)
  | skip
  try unfold w32 at f8
  try unfold w32 at f9
  omega
def g_283_114_3 : vG := ([(1, [24, 23, 11], [], 0), (3, [23, 22, 10], [], 0), (0, [22], [], 4), (41, [10, 20], [], 0), (0, [20], [], -1), (42, [11, 12], [], 0), (0, [12], [], 4), (90, [10], [], -1), (91, [10], [], 59), (90, [11], [], 0)], (70, [24], [], 240))
theorem c_283_114_3 {q0 : Nat} : vOkm T0 (eP e_283 L_283 A_283 mu_283 (some q0)) 4 g_283_114_3 := vOk_inI fun ρ η f0 f1 f2 f3 f4 f5 f6 f7 f8 f9 => q_283_22 (q0 := q0) (n0 := ρ 11) (n1 := ρ 10) (n2 := ρ 12) (n3 := ρ 20) (n4 := ρ 22) (n5 := ρ 23) (n6 := ρ 24) (H0 := η 0) f9 f8 f7 f6 f5 f4 f3 f2 f1 f0
theorem q_283_23 {q0 : Nat} {n0 n1 n2 n3 n4 n5 n6 n7 n8 n9 : Int} {H0 : gH} (f0 : 0 ≤ n0) (f1 : n1 ≤ 59) (f2 : 0 ≤ n1) (f3 : n2 ≤ 19) (f4 : 0 ≤ n2) (f5 : n3 = 4) (f6 : n0 < n3) (f7 : n4 = 240) (f8 : n5 = w32 (n4 * n2)) (f9 : n6 = 4) (f10 : n7 = w32 (n6 * n1)) (f11 : n8 = w32 (n5 + n7)) (f12 : n9 = w32 (n8 + n0)) : 0 ≤ n9 ∧ n9 < 4800 := by
  try simp only [SO, SS, XQ]
  rw [f7] at f8
  rw [f9] at f10
  first
  | (have ix0 : n5 = 240 * n2 := Eq.trans f8 (w32_iv (Iml 240 rfl (Iat f4 f3)) (by decide)); subst ix0; clear f8)
  | (have ix0 : n5 = 240 * n2 := Eq.trans f8 (w32_id (by omega) (by omega)); subst ix0; clear f8)
  | (unfold w32 at f8; have ix0 : n5 = 240 * n2 := (by omega); subst ix0)
  | skip
  first
  | (have ix1 : n7 = 4 * n1 := Eq.trans f10 (w32_iv (Iml 4 rfl (Iat f2 f1)) (by decide)); subst ix1; clear f10)
  | (have ix1 : n7 = 4 * n1 := Eq.trans f10 (w32_id (by omega) (by omega)); subst ix1; clear f10)
  | (unfold w32 at f10; have ix1 : n7 = 4 * n1 := (by omega); subst ix1)
  | skip
  first
  | (have ix2 : n8 = (240 * n2) + (4 * n1) := Eq.trans f11 (w32_iv (Iad (Iml 240 rfl (Iat f4 f3)) (Iml 4 rfl (Iat f2 f1))) (by decide)); subst ix2; clear f11)
  | (have ix2 : n8 = (240 * n2) + (4 * n1) := Eq.trans f11 (w32_id (by omega) (by omega)); subst ix2; clear f11)
  | (unfold w32 at f11; have ix2 : n8 = (240 * n2) + (4 * n1) := (by omega); subst ix2)
  | skip
  first
  | (have ix3 : n9 = ((240 * n2) + (4 * n1)) + n0 := Eq.trans f12 (w32_id (by omega) (by omega)); subst ix3; clear f12)
  | (unfold w32 at f12; have ix3 : n9 = ((240 * n2) + (4 * n1)) + n0 := (by omega); subst ix3)
  | skip
  try unfold w32 at f8
  try unfold w32 at f10
  try unfold w32 at f11
  try unfold w32 at f12
  omega
def g_283_114_4 : vG := ([(1, [19, 18, 11], [], 0), (1, [18, 15, 17], [], 0), (3, [17, 16, 9], [], 0), (0, [16], [], 4), (3, [15, 14, 5], [], 0), (0, [14], [], 240), (42, [11, 12], [], 0), (0, [12], [], 4), (90, [5], [], 0), (91, [5], [], 19), (90, [9], [], 0), (91, [9], [], 59), (90, [11], [], 0)], (70, [19], [], 4800))
theorem c_283_114_4 {q0 : Nat} : vOkm T0 (eP e_283 L_283 A_283 mu_283 (some q0)) 4 g_283_114_4 := vOk_inI fun ρ η f0 f1 f2 f3 f4 f5 f6 f7 f8 f9 f10 f11 f12 => q_283_23 (q0 := q0) (n0 := ρ 11) (n1 := ρ 9) (n2 := ρ 5) (n3 := ρ 12) (n4 := ρ 14) (n5 := ρ 15) (n6 := ρ 16) (n7 := ρ 17) (n8 := ρ 18) (n9 := ρ 19) (H0 := η 0) f12 f11 f10 f9 f8 f7 f6 f5 f4 f3 f2 f1 f0
theorem q_283_24 {q0 : Nat} {n0 n1 n2 : Int} {H0 : gH} (f0 : 0 ≤ n0) (f1 : n1 = 4) (f2 : n0 < n1) (f3 : n2 = w32 (n0 + 1)) : 0 ≤ n2 := by
  try simp only [SO, SS, XQ]
  first
  | (have ix0 : n2 = n0 + 1 := Eq.trans f3 (w32_id (by omega) (by omega)); subst ix0; clear f3)
  | (unfold w32 at f3; have ix0 : n2 = n0 + 1 := (by omega); subst ix0)
  | skip
  try unfold w32 at f3
  omega
def g_283_114_5 : vG := ([(10, [26, 11], [], 1), (42, [11, 12], [], 0), (0, [12], [], 4), (90, [11], [], 0)], (90, [26], [], 0))
theorem c_283_114_5 {q0 : Nat} : vOkm T0 (eP e_283 L_283 A_283 mu_283 (some q0)) 4 g_283_114_5 := vOk_inI fun ρ η f0 f1 f2 f3 => q_283_24 (q0 := q0) (n0 := ρ 11) (n1 := ρ 12) (n2 := ρ 26) (H0 := η 0) f3 f2 f1 f0
theorem q_283_25 {q0 : Nat} {n0 n1 n2 : Int} {H0 : gH} (f0 : 0 ≤ n0) (f1 : n1 = 4) (f2 : n0 < n1) (f3 : n2 = w32 (n0 + 1)) : n2 ≤ 4 := by
  try simp only [SO, SS, XQ]
  first
  | (have ix0 : n2 = n0 + 1 := Eq.trans f3 (w32_id (by omega) (by omega)); subst ix0; clear f3)
  | (unfold w32 at f3; have ix0 : n2 = n0 + 1 := (by omega); subst ix0)
  | skip
  try unfold w32 at f3
  omega
def g_283_114_6 : vG := ([(10, [26, 11], [], 1), (42, [11, 12], [], 0), (0, [12], [], 4), (90, [11], [], 0)], (91, [26], [], 4))
theorem c_283_114_6 {q0 : Nat} : vOkm T0 (eP e_283 L_283 A_283 mu_283 (some q0)) 4 g_283_114_6 := vOk_inI fun ρ η f0 f1 f2 f3 => q_283_25 (q0 := q0) (n0 := ρ 11) (n1 := ρ 12) (n2 := ρ 26) (H0 := η 0) f3 f2 f1 f0
theorem q_283_26 {q0 : Nat} {n0 n1 n2 n3 n4 n5 n6 n7 n8 n9 n10 n11 n12 n13 n14 n15 n16 n17 n18 n19 n20 n21 n22 n23 n24 n25 n26 : Int} {H0 H1 H2 : gH} (f0 : n0 ≤ 4) (f1 : 0 ≤ n0) (f2 : n1 ≤ 59) (f3 : (-1) ≤ n1) (f4 : n2 ≤ 59) (f5 : 0 ≤ n2) (f6 : n3 ≤ 2147483647) (f7 : 0 ≤ n3) (f8 : n4 ≤ 5) (f9 : 0 ≤ n4) (f10 : n5 ≤ 7) (f11 : 0 ≤ n5) (f12 : n6 ≤ 19) (f13 : 0 ≤ n6) (f14 : n7 = 285) (f15 : n8 ≤ 5) (f16 : 0 ≤ n8) (f17 : n9 ≤ 7) (f18 : 0 ≤ n9) (f19 : n10 ≤ 19) (f20 : 0 ≤ n10) (f21 : n11 = 285) (f22 : (hLe T0 H0 H1 ∧ hFr s_283.2.2.2.2 H0 H1 ∧ hWt T0 H1) ∧ (Ab_283_114 n11 n10 n9 n8 n7 n6 n5 n4 n3 n2 n1 n0 H0 H1 ∧ preb_283 n11 n10 n9 n8 H0) ∧ some q0 = some (mub_283_114 n11 n10 n9 n8 n7 n6 n5 n4 n3 n2 n1 n0 H0 H1)) (f23 : n12 = 4) (f24 : n0 < n12) (f25 : n13 = 337) (f26 : n13 = hV H1 (n7).toNat 75) (f27 : n14 = 240) (f28 : n15 = w32 (n14 * n6)) (f29 : n16 = 4) (f30 : n17 = w32 (n16 * n2)) (f31 : n18 = w32 (n15 + n17)) (f32 : n19 = w32 (n18 + n0)) (f33 : n20 = (-1)) (f34 : n1 ≠ n20) (f35 : n21 = 352) (f36 : n21 = hV H1 (n7).toNat 92) (f37 : n22 = 4) (f38 : n23 = w32 (n22 * n1)) (f39 : n24 = w32 (n23 + n0)) (f40 : n25 ≤ 2147483647) (f41 : (-2147483648) ≤ n25) (f42 : n25 = hV H1 (n21).toNat (n24).toNat) (f43 : hUpd H2 H1 n13 n19 n25) (f44 : n26 = w32 (n0 + 1)) : Ab_283_114 n11 n10 n9 n8 n7 n6 n5 n4 n3 n2 n1 n26 H0 H2 ∧ ∀ q, some q0 = some q → mub_283_114 n11 n10 n9 n8 n7 n6 n5 n4 n3 n2 n1 n26 H0 H2 < q := by
  have g4 := f22.2.1.1
  unfold Ab_283_114 at g4
  have g3 := f22.2.1.2
  unfold preb_283 at g3
  have g5 := Option.some.inj f22.2.2
  unfold mub_283_114 at g5
  unfold Ab_283_114
  unfold mub_283_114
  have e0 : n25 = hV H1 352 (n24).toNat := (by rw [f35] at f42; exact f42 : n25 = hV H1 352 (n24).toNat)
  have e2 : hV H1 285 18 = hV H0 285 18 := (f22.1.2.1.1 285 18 kF_283_285_18)
  have e4 : hV H1 285 64 = hV H0 285 64 := (f22.1.2.1.1 285 64 kF_283_285_64)
  have e5 : hV H1 298 = hV H0 298 := fRow f22.1.2.1 298 kR_283_298
  have e6 : hV H1 300 = hV H0 300 := fRow f22.1.2.1 300 kR_283_300
  have e7 : hV H1 301 = hV H0 301 := fRow f22.1.2.1 301 kR_283_301
  have e8 : hV H1 302 = hV H0 302 := fRow f22.1.2.1 302 kR_283_302
  have e9 : hV H1 303 = hV H0 303 := fRow f22.1.2.1 303 kR_283_303
  have e10 : hV H1 305 = hV H0 305 := fRow f22.1.2.1 305 kR_283_305
  have e11 : hV H1 328 = hV H0 328 := fRow f22.1.2.1 328 kR_283_328
  have e12 : hV H1 330 = hV H0 330 := fRow f22.1.2.1 330 kR_283_330
  have e13 : hV H1 331 = hV H0 331 := fRow f22.1.2.1 331 kR_283_331
  have e14 : hV H1 332 = hV H0 332 := fRow f22.1.2.1 332 kR_283_332
  have e15 : hV H1 341 = hV H0 341 := fRow f22.1.2.1 341 kR_283_341
  have e17 : hV H2 285 18 = hV H0 285 18 := ((uPlace f43 285 18 (iS (show n13 = ((337 : Nat) : Int) from f25) rfl))).trans (f22.1.2.1.1 285 18 kF_283_285_18)
  have e19 : hV H2 285 64 = hV H0 285 64 := ((uPlace f43 285 64 (iS (show n13 = ((337 : Nat) : Int) from f25) rfl))).trans (f22.1.2.1.1 285 64 kF_283_285_64)
  have e21 : hV H2 285 65 = hV H1 285 65 := (uPlace f43 285 65 (iS (show n13 = ((337 : Nat) : Int) from f25) rfl))
  have e23 : hV H2 285 82 = hV H1 285 82 := (uPlace f43 285 82 (iS (show n13 = ((337 : Nat) : Int) from f25) rfl))
  have e25 : hV H2 298 = hV H0 298 := (uRowNe f43 298 (iS (show n13 = ((337 : Nat) : Int) from f25) rfl)).trans e5
  have e27 : hV H2 300 = hV H0 300 := (uRowNe f43 300 (iS (show n13 = ((337 : Nat) : Int) from f25) rfl)).trans e6
  have e29 : hV H2 301 = hV H0 301 := (uRowNe f43 301 (iS (show n13 = ((337 : Nat) : Int) from f25) rfl)).trans e7
  have e31 : hV H2 302 = hV H0 302 := (uRowNe f43 302 (iS (show n13 = ((337 : Nat) : Int) from f25) rfl)).trans e8
  have e33 : hV H2 303 = hV H0 303 := (uRowNe f43 303 (iS (show n13 = ((337 : Nat) : Int) from f25) rfl)).trans e9
  have e35 : hV H2 305 = hV H0 305 := (uRowNe f43 305 (iS (show n13 = ((337 : Nat) : Int) from f25) rfl)).trans e10
  have e37 : hV H2 328 = hV H0 328 := (uRowNe f43 328 (iS (show n13 = ((337 : Nat) : Int) from f25) rfl)).trans e11
  have e39 : hV H2 330 = hV H0 330 := (uRowNe f43 330 (iS (show n13 = ((337 : Nat) : Int) from f25) rfl)).trans e12
  have e41 : hV H2 331 = hV H0 331 := (uRowNe f43 331 (iS (show n13 = ((337 : Nat) : Int) from f25) rfl)).trans e13
  have e43 : hV H2 332 = hV H0 332 := (uRowNe f43 332 (iS (show n13 = ((337 : Nat) : Int) from f25) rfl)).trans e14
  have e44 : hV H2 333 = hV H1 333 := uRowNe f43 333 (iS (show n13 = ((337 : Nat) : Int) from f25) rfl)
  have e45 : hV H2 334 = hV H1 334 := uRowNe f43 334 (iS (show n13 = ((337 : Nat) : Int) from f25) rfl)
  have e46 : hV H2 335 = hV H1 335 := uRowNe f43 335 (iS (show n13 = ((337 : Nat) : Int) from f25) rfl)
  have e47 : hV H2 336 = hV H1 336 := uRowNe f43 336 (iS (show n13 = ((337 : Nat) : Int) from f25) rfl)
  have e49 : hV H2 341 = hV H0 341 := (uRowNe f43 341 (iS (show n13 = ((337 : Nat) : Int) from f25) rfl)).trans e15
  have e50 : hV H2 344 = hV H1 344 := uRowNe f43 344 (iS (show n13 = ((337 : Nat) : Int) from f25) rfl)
  have e51 : (0 : Int) ≤ hV H0 285 18 ∧ hV H0 285 18 ≤ 8 := bTo e2 (f22.1.2.2 285 18 _ _ kW_285_18)
  have e52 : (0 : Int) ≤ hV H0 285 64 ∧ hV H0 285 64 ≤ 20 := bTo e4 (f22.1.2.2 285 64 _ _ kW_285_64)
  have e53 : (0 : Int) ≤ hV H1 285 65 ∧ hV H1 285 65 ≤ 2147483647 := f22.1.2.2 285 65 _ _ kW_285_65
  have e54 : (0 : Int) ≤ hV H1 285 82 ∧ hV H1 285 82 ≤ 40 := f22.1.2.2 285 82 _ _ kW_285_82
  try simp only [SO, SS, XQ]
  try simp only [e17, e19, e21, e23, e25, e27, e29, e31, e33, e35, e37, e39, e41, e43, e44, e45, e46, e47, e49, e50]
  have k0 := g4.1
  have k1 := g4.2.1
  have k2 := g4.2.2.1
  have y0 := g4.2.2.2.1
  have y1 := g4.2.2.2.2.1
  have y2 := g4.2.2.2.2.2.1
  have y3 := g4.2.2.2.2.2.2.1
  have y4 := g4.2.2.2.2.2.2.2.1
  have y5 := g4.2.2.2.2.2.2.2.2.1
  have y6 := g4.2.2.2.2.2.2.2.2.2
  have p0 := g3.1
  have p1 := g3.2.1
  have p2 := g3.2.2.1
  have p3 := g3.2.2.2.1
  have p4 := g3.2.2.2.2.1
  have p5 := g3.2.2.2.2.2.1
  have p6 := g3.2.2.2.2.2.2
  try simp only [XQ] at y0
  try simp only [SO] at y1
  try simp only [SS] at y2
  try simp only [SO] at p4
  try simp only [SS] at p5
  try simp only [e5, e6, e7, e8, e9, e10] at y0
  try simp only [e2, e4, e11, e12, e13, e14] at y1
  try simp only [e15] at y2
  clear g3
  clear g4
  clear f26 f36 f42 e2 e4 e5 e6 e7 e8 e9 e10 e11 e12 e13 e14 e15 e17 e19 e21 e23 e25 e27 e29 e31 e33 e35 e37 e39 e41 e43 e44 e45 e46 e47 e49 e50
  clear f22
  subst e0
  rw [f27] at f28
  rw [f29] at f30
  rw [f37] at f38
  first
  | (have ix0 : n15 = 240 * n6 := Eq.trans f28 (w32_iv (Iml 240 rfl (Iat f13 f12)) (by decide)); subst ix0; clear f28)
  | (have ix0 : n15 = 240 * n6 := Eq.trans f28 (w32_id (by omega) (by omega)); subst ix0; clear f28)
  | (unfold w32 at f28; have ix0 : n15 = 240 * n6 := (by omega); subst ix0)
  | skip
  first
  | (have ix1 : n17 = 4 * n2 := Eq.trans f30 (w32_iv (Iml 4 rfl (Iat f5 f4)) (by decide)); subst ix1; clear f30)
  | (have ix1 : n17 = 4 * n2 := Eq.trans f30 (w32_id (by omega) (by omega)); subst ix1; clear f30)
  | (unfold w32 at f30; have ix1 : n17 = 4 * n2 := (by omega); subst ix1)
  | skip
  first
  | (have ix2 : n18 = (240 * n6) + (4 * n2) := Eq.trans f31 (w32_iv (Iad (Iml 240 rfl (Iat f13 f12)) (Iml 4 rfl (Iat f5 f4))) (by decide)); subst ix2; clear f31)
  | (have ix2 : n18 = (240 * n6) + (4 * n2) := Eq.trans f31 (w32_id (by omega) (by omega)); subst ix2; clear f31)
  | (unfold w32 at f31; have ix2 : n18 = (240 * n6) + (4 * n2) := (by omega); subst ix2)
  | skip
  first
  | (have ix3 : n19 = ((240 * n6) + (4 * n2)) + n0 := Eq.trans f32 (w32_iv (Iad (Iad (Iml 240 rfl (Iat f13 f12)) (Iml 4 rfl (Iat f5 f4))) (Iat f1 f0)) (by decide)); subst ix3; clear f32)
  | (have ix3 : n19 = ((240 * n6) + (4 * n2)) + n0 := Eq.trans f32 (w32_id (by omega) (by omega)); subst ix3; clear f32)
  | (unfold w32 at f32; have ix3 : n19 = ((240 * n6) + (4 * n2)) + n0 := (by omega); subst ix3)
  | skip
  first
  | (have ix4 : n23 = 4 * n1 := Eq.trans f38 (w32_iv (Iml 4 rfl (Iat f3 f2)) (by decide)); subst ix4; clear f38)
  | (have ix4 : n23 = 4 * n1 := Eq.trans f38 (w32_id (by omega) (by omega)); subst ix4; clear f38)
  | (unfold w32 at f38; have ix4 : n23 = 4 * n1 := (by omega); subst ix4)
  | skip
  first
  | (have ix5 : n24 = (4 * n1) + n0 := Eq.trans f39 (w32_iv (Iad (Iml 4 rfl (Iat f3 f2)) (Iat f1 f0)) (by decide)); subst ix5; clear f39)
  | (have ix5 : n24 = (4 * n1) + n0 := Eq.trans f39 (w32_id (by omega) (by omega)); subst ix5; clear f39)
  | (unfold w32 at f39; have ix5 : n24 = (4 * n1) + n0 := (by omega); subst ix5)
  | skip
  first
  | (have ix6 : n26 = n0 + 1 := Eq.trans f44 (w32_iv (Iad (Iat f1 f0) (IC 1)) (by decide)); subst ix6; clear f44)
  | (have ix6 : n26 = n0 + 1 := Eq.trans f44 (w32_id (by omega) (by omega)); subst ix6; clear f44)
  | (unfold w32 at f44; have ix6 : n26 = n0 + 1 := (by omega); subst ix6)
  | skip
  try unfold w32 at f28
  try unfold w32 at f30
  try unfold w32 at f31
  try unfold w32 at f32
  try unfold w32 at f38
  try unfold w32 at f39
  try unfold w32 at f44

  refine ⟨?_, fun q hq => ?_⟩
  · exact ⟨by first | omega | trivial, by first | omega | trivial, by first | omega | trivial, y0, y1, y2, y3, y4, by omega, by omega⟩
  · have g6 := Option.some.inj hq
    subst g6
    omega
def g_283_114_7 : vG := ([(10, [26, 11], [], 1), (80, [13, 19, 25], [2, 1], 0), (22, [25, 21, 24], [1], 0), (90, [25], [], -2147483648), (91, [25], [], 2147483647), (1, [24, 23, 11], [], 0), (3, [23, 22, 10], [], 0), (0, [22], [], 4), (20, [21, 4], [1], 92), (0, [21], [], 352), (41, [10, 20], [], 0), (0, [20], [], -1), (1, [19, 18, 11], [], 0), (1, [18, 15, 17], [], 0), (3, [17, 16, 9], [], 0), (0, [16], [], 4), (3, [15, 14, 5], [], 0), (0, [14], [], 240), (20, [13, 4], [1], 75), (0, [13], [], 337), (42, [11, 12], [], 0), (0, [12], [], 4), (5000, [0, 1, 2, 3, 4, 5, 6, 7, 8, 9, 10, 11], [0, 1], 114), (0, [0], [], 285), (90, [1], [], 0), (91, [1], [], 19), (90, [2], [], 0), (91, [2], [], 7), (90, [3], [], 0), (91, [3], [], 5), (0, [4], [], 285), (90, [5], [], 0), (91, [5], [], 19), (90, [6], [], 0), (91, [6], [], 7), (90, [7], [], 0), (91, [7], [], 5), (90, [8], [], 0), (91, [8], [], 2147483647), (90, [9], [], 0), (91, [9], [], 59), (90, [10], [], -1), (91, [10], [], 59), (90, [11], [], 0), (91, [11], [], 4)], (4000, [4, 5, 6, 7, 8, 9, 10, 26], [2], 114))
theorem c_283_114_7 {q0 : Nat} : vOkm T0 (eP e_283 L_283 A_283 mu_283 (some q0)) 4 g_283_114_7 := vOk_inI fun ρ η f0 f1 f2 f3 f4 f5 f6 f7 f8 f9 f10 f11 f12 f13 f14 f15 f16 f17 f18 f19 f20 f21 f22 f23 f24 f25 f26 f27 f28 f29 f30 f31 f32 f33 f34 f35 f36 f37 f38 f39 f40 f41 f42 f43 f44 => q_283_26 (q0 := q0) (n0 := ρ 11) (n1 := ρ 10) (n2 := ρ 9) (n3 := ρ 8) (n4 := ρ 7) (n5 := ρ 6) (n6 := ρ 5) (n7 := ρ 4) (n8 := ρ 3) (n9 := ρ 2) (n10 := ρ 1) (n11 := ρ 0) (n12 := ρ 12) (n13 := ρ 13) (n14 := ρ 14) (n15 := ρ 15) (n16 := ρ 16) (n17 := ρ 17) (n18 := ρ 18) (n19 := ρ 19) (n20 := ρ 20) (n21 := ρ 21) (n22 := ρ 22) (n23 := ρ 23) (n24 := ρ 24) (n25 := ρ 25) (n26 := ρ 26) (H0 := η 0) (H1 := η 1) (H2 := η 2) f44 f43 f42 f41 f40 f39 f38 f37 f36 f35 f34 f33 f32 f31 f30 f29 f28 f27 f26 f25 f24 f23 f22 f21 f20 f19 f18 f17 f16 f15 f14 f13 f12 f11 f10 f9 f8 f7 f6 f5 f4 f3 f2 f1 f0
def g_283_114_8 : vG := ([(1, [19, 18, 11], [], 0), (1, [18, 15, 17], [], 0), (3, [17, 16, 9], [], 0), (0, [16], [], 4), (3, [15, 14, 5], [], 0), (0, [14], [], 240), (42, [11, 12], [], 0), (0, [12], [], 4), (90, [5], [], 0), (91, [5], [], 19), (90, [9], [], 0), (91, [9], [], 59), (90, [11], [], 0)], (70, [19], [], 4800))
theorem c_283_114_8 {q0 : Nat} : vOkm T0 (eP e_283 L_283 A_283 mu_283 (some q0)) 4 g_283_114_8 := vOk_inI fun ρ η f0 f1 f2 f3 f4 f5 f6 f7 f8 f9 f10 f11 f12 => q_283_23 (q0 := q0) (n0 := ρ 11) (n1 := ρ 9) (n2 := ρ 5) (n3 := ρ 12) (n4 := ρ 14) (n5 := ρ 15) (n6 := ρ 16) (n7 := ρ 17) (n8 := ρ 18) (n9 := ρ 19) (H0 := η 0) f12 f11 f10 f9 f8 f7 f6 f5 f4 f3 f2 f1 f0
def g_283_114_9 : vG := ([(10, [22, 11], [], 1), (42, [11, 12], [], 0), (0, [12], [], 4), (90, [11], [], 0)], (90, [22], [], 0))
theorem c_283_114_9 {q0 : Nat} : vOkm T0 (eP e_283 L_283 A_283 mu_283 (some q0)) 4 g_283_114_9 := vOk_inI fun ρ η f0 f1 f2 f3 => q_283_24 (q0 := q0) (n0 := ρ 11) (n1 := ρ 12) (n2 := ρ 22) (H0 := η 0) f3 f2 f1 f0
def g_283_114_10 : vG := ([(10, [22, 11], [], 1), (42, [11, 12], [], 0), (0, [12], [], 4), (90, [11], [], 0)], (91, [22], [], 4))
theorem c_283_114_10 {q0 : Nat} : vOkm T0 (eP e_283 L_283 A_283 mu_283 (some q0)) 4 g_283_114_10 := vOk_inI fun ρ η f0 f1 f2 f3 => q_283_25 (q0 := q0) (n0 := ρ 11) (n1 := ρ 12) (n2 := ρ 22) (H0 := η 0) f3 f2 f1 f0
theorem q_283_27 {q0 : Nat} {n0 n1 n2 n3 n4 n5 n6 n7 n8 n9 n10 n11 n12 n13 n14 n15 n16 n17 n18 n19 n20 n21 n22 : Int} {H0 H1 H2 : gH} (f0 : n0 ≤ 4) (f1 : 0 ≤ n0) (f2 : n1 ≤ 59) (f3 : (-1) ≤ n1) (f4 : n2 ≤ 59) (f5 : 0 ≤ n2) (f6 : n3 ≤ 2147483647) (f7 : 0 ≤ n3) (f8 : n4 ≤ 5) (f9 : 0 ≤ n4) (f10 : n5 ≤ 7) (f11 : 0 ≤ n5) (f12 : n6 ≤ 19) (f13 : 0 ≤ n6) (f14 : n7 = 285) (f15 : n8 ≤ 5) (f16 : 0 ≤ n8) (f17 : n9 ≤ 7) (f18 : 0 ≤ n9) (f19 : n10 ≤ 19) (f20 : 0 ≤ n10) (f21 : n11 = 285) (f22 : (hLe T0 H0 H1 ∧ hFr s_283.2.2.2.2 H0 H1 ∧ hWt T0 H1) ∧ (Ab_283_114 n11 n10 n9 n8 n7 n6 n5 n4 n3 n2 n1 n0 H0 H1 ∧ preb_283 n11 n10 n9 n8 H0) ∧ some q0 = some (mub_283_114 n11 n10 n9 n8 n7 n6 n5 n4 n3 n2 n1 n0 H0 H1)) (f23 : n12 = 4) (f24 : n0 < n12) (f25 : n13 = 337) (f26 : n13 = hV H1 (n7).toNat 75) (f27 : n14 = 240) (f28 : n15 = w32 (n14 * n6)) (f29 : n16 = 4) (f30 : n17 = w32 (n16 * n2)) (f31 : n18 = w32 (n15 + n17)) (f32 : n19 = w32 (n18 + n0)) (f33 : n20 = (-1)) (f34 : n1 = n20) (f35 : n21 = 0) (f36 : hUpd H2 H1 n13 n19 n21) (f37 : n22 = w32 (n0 + 1)) : Ab_283_114 n11 n10 n9 n8 n7 n6 n5 n4 n3 n2 n1 n22 H0 H2 ∧ ∀ q, some q0 = some q → mub_283_114 n11 n10 n9 n8 n7 n6 n5 n4 n3 n2 n1 n22 H0 H2 < q := by
  have g4 := f22.2.1.1
  unfold Ab_283_114 at g4
  have g3 := f22.2.1.2
  unfold preb_283 at g3
  have g5 := Option.some.inj f22.2.2
  unfold mub_283_114 at g5
  unfold Ab_283_114
  unfold mub_283_114
  have e1 : hV H1 285 18 = hV H0 285 18 := (f22.1.2.1.1 285 18 kF_283_285_18)
  have e3 : hV H1 285 64 = hV H0 285 64 := (f22.1.2.1.1 285 64 kF_283_285_64)
  have e4 : hV H1 298 = hV H0 298 := fRow f22.1.2.1 298 kR_283_298
  have e5 : hV H1 300 = hV H0 300 := fRow f22.1.2.1 300 kR_283_300
  have e6 : hV H1 301 = hV H0 301 := fRow f22.1.2.1 301 kR_283_301
  have e7 : hV H1 302 = hV H0 302 := fRow f22.1.2.1 302 kR_283_302
  have e8 : hV H1 303 = hV H0 303 := fRow f22.1.2.1 303 kR_283_303
  have e9 : hV H1 305 = hV H0 305 := fRow f22.1.2.1 305 kR_283_305
  have e10 : hV H1 328 = hV H0 328 := fRow f22.1.2.1 328 kR_283_328
  have e11 : hV H1 330 = hV H0 330 := fRow f22.1.2.1 330 kR_283_330
  have e12 : hV H1 331 = hV H0 331 := fRow f22.1.2.1 331 kR_283_331
  have e13 : hV H1 332 = hV H0 332 := fRow f22.1.2.1 332 kR_283_332
  have e14 : hV H1 341 = hV H0 341 := fRow f22.1.2.1 341 kR_283_341
  have e16 : hV H2 285 18 = hV H0 285 18 := ((uPlace f36 285 18 (iS (show n13 = ((337 : Nat) : Int) from f25) rfl))).trans (f22.1.2.1.1 285 18 kF_283_285_18)
  have e18 : hV H2 285 64 = hV H0 285 64 := ((uPlace f36 285 64 (iS (show n13 = ((337 : Nat) : Int) from f25) rfl))).trans (f22.1.2.1.1 285 64 kF_283_285_64)
  have e20 : hV H2 285 65 = hV H1 285 65 := (uPlace f36 285 65 (iS (show n13 = ((337 : Nat) : Int) from f25) rfl))
  have e22 : hV H2 285 82 = hV H1 285 82 := (uPlace f36 285 82 (iS (show n13 = ((337 : Nat) : Int) from f25) rfl))
  have e24 : hV H2 298 = hV H0 298 := (uRowNe f36 298 (iS (show n13 = ((337 : Nat) : Int) from f25) rfl)).trans e4
  have e26 : hV H2 300 = hV H0 300 := (uRowNe f36 300 (iS (show n13 = ((337 : Nat) : Int) from f25) rfl)).trans e5
  have e28 : hV H2 301 = hV H0 301 := (uRowNe f36 301 (iS (show n13 = ((337 : Nat) : Int) from f25) rfl)).trans e6
  have e30 : hV H2 302 = hV H0 302 := (uRowNe f36 302 (iS (show n13 = ((337 : Nat) : Int) from f25) rfl)).trans e7
  have e32 : hV H2 303 = hV H0 303 := (uRowNe f36 303 (iS (show n13 = ((337 : Nat) : Int) from f25) rfl)).trans e8
  have e34 : hV H2 305 = hV H0 305 := (uRowNe f36 305 (iS (show n13 = ((337 : Nat) : Int) from f25) rfl)).trans e9
  have e36 : hV H2 328 = hV H0 328 := (uRowNe f36 328 (iS (show n13 = ((337 : Nat) : Int) from f25) rfl)).trans e10
  have e38 : hV H2 330 = hV H0 330 := (uRowNe f36 330 (iS (show n13 = ((337 : Nat) : Int) from f25) rfl)).trans e11
  have e40 : hV H2 331 = hV H0 331 := (uRowNe f36 331 (iS (show n13 = ((337 : Nat) : Int) from f25) rfl)).trans e12
  have e42 : hV H2 332 = hV H0 332 := (uRowNe f36 332 (iS (show n13 = ((337 : Nat) : Int) from f25) rfl)).trans e13
  have e43 : hV H2 333 = hV H1 333 := uRowNe f36 333 (iS (show n13 = ((337 : Nat) : Int) from f25) rfl)
  have e44 : hV H2 334 = hV H1 334 := uRowNe f36 334 (iS (show n13 = ((337 : Nat) : Int) from f25) rfl)
  have e45 : hV H2 335 = hV H1 335 := uRowNe f36 335 (iS (show n13 = ((337 : Nat) : Int) from f25) rfl)
  have e46 : hV H2 336 = hV H1 336 := uRowNe f36 336 (iS (show n13 = ((337 : Nat) : Int) from f25) rfl)
  have e48 : hV H2 341 = hV H0 341 := (uRowNe f36 341 (iS (show n13 = ((337 : Nat) : Int) from f25) rfl)).trans e14
  have e49 : hV H2 344 = hV H1 344 := uRowNe f36 344 (iS (show n13 = ((337 : Nat) : Int) from f25) rfl)
  have e50 : (0 : Int) ≤ hV H0 285 18 ∧ hV H0 285 18 ≤ 8 := bTo e1 (f22.1.2.2 285 18 _ _ kW_285_18)
  have e51 : (0 : Int) ≤ hV H0 285 64 ∧ hV H0 285 64 ≤ 20 := bTo e3 (f22.1.2.2 285 64 _ _ kW_285_64)
  have e52 : (0 : Int) ≤ hV H1 285 65 ∧ hV H1 285 65 ≤ 2147483647 := f22.1.2.2 285 65 _ _ kW_285_65
  have e53 : (0 : Int) ≤ hV H1 285 82 ∧ hV H1 285 82 ≤ 40 := f22.1.2.2 285 82 _ _ kW_285_82
  try simp only [SO, SS, XQ]
  try simp only [e16, e18, e20, e22, e24, e26, e28, e30, e32, e34, e36, e38, e40, e42, e43, e44, e45, e46, e48, e49]
  have k0 := g4.1
  have k1 := g4.2.1
  have k2 := g4.2.2.1
  have y0 := g4.2.2.2.1
  have y1 := g4.2.2.2.2.1
  have y2 := g4.2.2.2.2.2.1
  have y3 := g4.2.2.2.2.2.2.1
  have y4 := g4.2.2.2.2.2.2.2.1
  have y5 := g4.2.2.2.2.2.2.2.2.1
  have y6 := g4.2.2.2.2.2.2.2.2.2
  have p0 := g3.1
  have p1 := g3.2.1
  have p2 := g3.2.2.1
  have p3 := g3.2.2.2.1
  have p4 := g3.2.2.2.2.1
  have p5 := g3.2.2.2.2.2.1
  have p6 := g3.2.2.2.2.2.2
  try simp only [XQ] at y0
  try simp only [SO] at y1
  try simp only [SS] at y2
  try simp only [SO] at p4
  try simp only [SS] at p5
  try simp only [e4, e5, e6, e7, e8, e9] at y0
  try simp only [e1, e3, e10, e11, e12, e13] at y1
  try simp only [e14] at y2
  clear g3
  clear g4
  clear f26 e1 e3 e4 e5 e6 e7 e8 e9 e10 e11 e12 e13 e14 e16 e18 e20 e22 e24 e26 e28 e30 e32 e34 e36 e38 e40 e42 e43 e44 e45 e46 e48 e49
  clear f22
  rw [f27] at f28
  rw [f29] at f30
  first
  | (have ix0 : n15 = 240 * n6 := Eq.trans f28 (w32_iv (Iml 240 rfl (Iat f13 f12)) (by decide)); subst ix0; clear f28)
  | (have ix0 : n15 = 240 * n6 := Eq.trans f28 (w32_id (by omega) (by omega)); subst ix0; clear f28)
  | (unfold w32 at f28; have ix0 : n15 = 240 * n6 := (by omega); subst ix0)
  | skip
  first
  | (have ix1 : n17 = 4 * n2 := Eq.trans f30 (w32_iv (Iml 4 rfl (Iat f5 f4)) (by decide)); subst ix1; clear f30)
  | (have ix1 : n17 = 4 * n2 := Eq.trans f30 (w32_id (by omega) (by omega)); subst ix1; clear f30)
  | (unfold w32 at f30; have ix1 : n17 = 4 * n2 := (by omega); subst ix1)
  | skip
  first
  | (have ix2 : n18 = (240 * n6) + (4 * n2) := Eq.trans f31 (w32_iv (Iad (Iml 240 rfl (Iat f13 f12)) (Iml 4 rfl (Iat f5 f4))) (by decide)); subst ix2; clear f31)
  | (have ix2 : n18 = (240 * n6) + (4 * n2) := Eq.trans f31 (w32_id (by omega) (by omega)); subst ix2; clear f31)
  | (unfold w32 at f31; have ix2 : n18 = (240 * n6) + (4 * n2) := (by omega); subst ix2)
  | skip
  first
  | (have ix3 : n19 = ((240 * n6) + (4 * n2)) + n0 := Eq.trans f32 (w32_iv (Iad (Iad (Iml 240 rfl (Iat f13 f12)) (Iml 4 rfl (Iat f5 f4))) (Iat f1 f0)) (by decide)); subst ix3; clear f32)
  | (have ix3 : n19 = ((240 * n6) + (4 * n2)) + n0 := Eq.trans f32 (w32_id (by omega) (by omega)); subst ix3; clear f32)
  | (unfold w32 at f32; have ix3 : n19 = ((240 * n6) + (4 * n2)) + n0 := (by omega); subst ix3)
  | skip
  first
  | (have ix4 : n22 = n0 + 1 := Eq.trans f37 (w32_iv (Iad (Iat f1 f0) (IC 1)) (by decide)); subst ix4; clear f37)
  | (have ix4 : n22 = n0 + 1 := Eq.trans f37 (w32_id (by omega) (by omega)); subst ix4; clear f37)
  | (unfold w32 at f37; have ix4 : n22 = n0 + 1 := (by omega); subst ix4)
  | skip
  try unfold w32 at f28
  try unfold w32 at f30
  try unfold w32 at f31
  try unfold w32 at f32
  try unfold w32 at f37

  refine ⟨?_, fun q hq => ?_⟩
  · exact ⟨by first | omega | trivial, by first | omega | trivial, by first | omega | trivial, y0, y1, y2, y3, y4, by omega, by omega⟩
  · have g6 := Option.some.inj hq
    subst g6
    omega
def g_283_114_11 : vG := ([(10, [22, 11], [], 1), (80, [13, 19, 21], [2, 1], 0), (0, [21], [], 0), (40, [10, 20], [], 0), (0, [20], [], -1), (1, [19, 18, 11], [], 0), (1, [18, 15, 17], [], 0), (3, [17, 16, 9], [], 0), (0, [16], [], 4), (3, [15, 14, 5], [], 0), (0, [14], [], 240), (20, [13, 4], [1], 75), (0, [13], [], 337), (42, [11, 12], [], 0), (0, [12], [], 4), (5000, [0, 1, 2, 3, 4, 5, 6, 7, 8, 9, 10, 11], [0, 1], 114), (0, [0], [], 285), (90, [1], [], 0), (91, [1], [], 19), (90, [2], [], 0), (91, [2], [], 7), (90, [3], [], 0), (91, [3], [], 5), (0, [4], [], 285), (90, [5], [], 0), (91, [5], [], 19), (90, [6], [], 0), (91, [6], [], 7), (90, [7], [], 0), (91, [7], [], 5), (90, [8], [], 0), (91, [8], [], 2147483647), (90, [9], [], 0), (91, [9], [], 59), (90, [10], [], -1), (91, [10], [], 59), (90, [11], [], 0), (91, [11], [], 4)], (4000, [4, 5, 6, 7, 8, 9, 10, 22], [2], 114))
theorem c_283_114_11 {q0 : Nat} : vOkm T0 (eP e_283 L_283 A_283 mu_283 (some q0)) 4 g_283_114_11 := vOk_inI fun ρ η f0 f1 f2 f3 f4 f5 f6 f7 f8 f9 f10 f11 f12 f13 f14 f15 f16 f17 f18 f19 f20 f21 f22 f23 f24 f25 f26 f27 f28 f29 f30 f31 f32 f33 f34 f35 f36 f37 => q_283_27 (q0 := q0) (n0 := ρ 11) (n1 := ρ 10) (n2 := ρ 9) (n3 := ρ 8) (n4 := ρ 7) (n5 := ρ 6) (n6 := ρ 5) (n7 := ρ 4) (n8 := ρ 3) (n9 := ρ 2) (n10 := ρ 1) (n11 := ρ 0) (n12 := ρ 12) (n13 := ρ 13) (n14 := ρ 14) (n15 := ρ 15) (n16 := ρ 16) (n17 := ρ 17) (n18 := ρ 18) (n19 := ρ 19) (n20 := ρ 20) (n21 := ρ 21) (n22 := ρ 22) (H0 := η 0) (H1 := η 1) (H2 := η 2) f37 f36 f35 f34 f33 f32 f31 f30 f29 f28 f27 f26 f25 f24 f23 f22 f21 f20 f19 f18 f17 f16 f15 f14 f13 f12 f11 f10 f9 f8 f7 f6 f5 f4 f3 f2 f1 f0
def p_283_114 : List vG := [g_283_114_0,
  g_283_114_1,
  g_283_114_2,
  g_283_114_3,
  g_283_114_4,
  g_283_114_5,
  g_283_114_6,
  g_283_114_7,
  g_283_114_8,
  g_283_114_9,
  g_283_114_10,
  g_283_114_11]
theorem r_283_114 : vCovO false (eRc e_283 L_283 cs_283 2000 (114, [(0, (3, 12, 285, 0)), (1, (0, 0, 19, 0)), (2, (0, 0, 7, 0)), (3, (0, 0, 5, 0)), (4, (0, 0, 2147483647, 0)), (5, (0, 0, 59, 0)), (6, (0, -1, 59, 0)), (7, (0, 0, 4, 0))])) p_283_114 = true := by decide +kernel
theorem m_283 (d : Nat) : eC e_283 (d + 5) := eC_ok (e := e_283) (L := L_283) (cs := cs_283) (n := 2000) (d := d + 4) (A := A_283) (μ := mu_283) (tp := false) (p0 := p_283_s) rfl ⟨m_248 (d + 3), ⟨m_258 (d + 3), ⟨m_274 d, trivial⟩⟩⟩ rfl (.inl rfl) (by decide +kernel) (fun z => nomatch z) r_283_s (allC c_283_s_0 (allC c_283_s_1 allN)) (allC (.inl ⟨p_283_11, r_283_11, fun q0 => (allC c_283_11_0 (allC c_283_11_1 (allC c_283_11_2 (allC c_283_11_3 (allC c_283_11_4 (allC c_283_11_5 (allC c_283_11_6 (allC c_283_11_7 (allC c_283_11_8 (allC c_283_11_9 (allC c_283_11_10 (allC c_283_11_11 (allC c_283_11_12 (allC c_283_11_13 (allC c_283_11_14 allN)))))))))))))))⟩) (allC (.inl ⟨p_283_85, r_283_85, fun q0 => (allC c_283_85_0 (allC c_283_85_1 (allC c_283_85_2 (allC c_283_85_3 (allC c_283_85_4 (allC c_283_85_5 (allC c_283_85_6 (allC c_283_85_7 (allC c_283_85_8 allN)))))))))⟩) (allC (.inl ⟨p_283_114, r_283_114, fun q0 => (allC c_283_114_0 (allC c_283_114_1 (allC c_283_114_2 (allC c_283_114_3 (allC c_283_114_4 (allC c_283_114_5 (allC c_283_114_6 (allC c_283_114_7 (allC c_283_114_8 (allC c_283_114_9 (allC c_283_114_10 (allC c_283_114_11 allN))))))))))))⟩) allN)))
