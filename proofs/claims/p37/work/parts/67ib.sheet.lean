/-! CONTRACTS of methods told more fully. -/
/- MixStageModel.wave (IIIII)Z, more fully -/
def nb_259 (r a0 a1 a2 a3 a4 a5 : Int) (h0 h : gH) : Prop := (WVm h0 a1 a2 a3 a4 a5 ∧ (hV h 337) = wvF (hV h0 337) (240 * a1) a2 a3 a4 a5) ∨ (¬ WVm h0 a1 a2 a3 a4 a5 ∧ (hV h 337) = (hV h0 337))
def n_259 : List Int → gH → gH → Prop := fun xs h0 h => match xs with
  | [r, a0, a1, a2, a3, a4, a5] => nb_259 r a0 a1 a2 a3 a4 a5 h0 h
  | _ => True
noncomputable def e_259vw : vE := eV e_259v n_259
noncomputable def L_259vw : List vE := [e_251, e_257v, e_258]
def Bb_259_83 (a0 a1 a2 a3 a4 a5 x0 x1 x2 x3 x4 x5 x6 x8 : Int) (h0 h : gH) : Prop := WVm h0 a1 a2 a3 a4 a5 ∧ (hV h 337) = wvF (hV h0 337) (240 * a1) a2 x8 a4 a5 ∧ a2 ≤ x8 ∧ x8 ≤ a3
def B_259 : Int → List Int → gH → gH → Prop := fun c xs h0 h => match c.toNat with
  | 83 => (match xs with
    | [a0, a1, a2, a3, a4, a5, x0, x1, x2, x3, x4, x5, x6, x8] => Bb_259_83 a0 a1 a2 a3 a4 a5 x0 x1 x2 x3 x4 x5 x6 x8 h0 h
    | _ => False)
  | _ => True
theorem q_259vw_0 {n0 n1 n2 n3 n4 n5 n6 n7 : Int} {H0 H1 : gH} (f0 : n0 ≤ 2147483647) (f1 : (-2147483648) ≤ n0) (f2 : n1 ≤ 2147483647) (f3 : (-2147483648) ≤ n1) (f4 : n2 ≤ 2147483647) (f5 : (-2147483648) ≤ n2) (f6 : n3 ≤ 2147483647) (f7 : (-2147483648) ≤ n3) (f8 : n4 ≤ 2147483647) (f9 : (-2147483648) ≤ n4) (f10 : n5 = 285) (f11 : hWt T0 H0 ∧ preb_259v n5 n4 n3 n2 n1 n0 H0) (f12 : n6 ≤ 1) (f13 : 0 ≤ n6) (f14 : (hLe T0 H0 H1 ∧ hFr s_257v.2.2.2.2 H0 H1 ∧ ((0 : Int) = 0 → H1.length = H0.length) ∧ hWt T0 H1) ∧ postb_257v n6 n5 n4 H0 H1) (f15 : n6 = 0) (f16 : n7 = 0) : nb_259 n7 n5 n4 n3 n2 n1 n0 H0 H1 := by
  unfold nb_259
  have ow := f14.2
  unfold postb_257v at ow
  have sb := f14.1.2.2.2 285 64 0 20 (by decide +kernel)
  rw [show hV H1 285 64 = hV H0 285 64 from f14.1.2.1.1 285 64 (by decide +kernel)] at ow sb
  rw [show hV H1 328 = hV H0 328 from fRow f14.1.2.1 328 (by decide +kernel), show hV H1 329 = hV H0 329 from fRow f14.1.2.1 329 (by decide +kernel)] at ow
  exact .inr ⟨fun w => by
    unfold WVm at w
    omega, fRow f14.1.2.1 337 (by decide +kernel)⟩
def g_259vw_s_0 : vG := ([(0, [7], [], 0), (30, [6], [], 0), (1257, [6, 0, 1], [0, 1], 0), (90, [6], [], 0), (91, [6], [], 1), (6000, [0, 1, 2, 3, 4, 5], [0], 0), (0, [0], [], 285), (90, [1], [], -2147483648), (91, [1], [], 2147483647), (90, [2], [], -2147483648), (91, [2], [], 2147483647), (90, [3], [], -2147483648), (91, [3], [], 2147483647), (90, [4], [], -2147483648), (91, [4], [], 2147483647), (90, [5], [], -2147483648), (91, [5], [], 2147483647)], (3000, [7], [1], 28))
theorem c_259vw_s_0 : vOkm T0 (eN e_259v L_259vw A_259v mu_259v n_259 B_259 none) 6 g_259vw_s_0 := vOk_inI fun ρ η f0 f1 f2 f3 f4 f5 f6 f7 f8 f9 f10 f11 f12 f13 f14 f15 f16 => q_259vw_0 (n0 := ρ 5) (n1 := ρ 4) (n2 := ρ 3) (n3 := ρ 2) (n4 := ρ 1) (n5 := ρ 0) (n6 := ρ 6) (n7 := ρ 7) (H0 := η 0) (H1 := η 1) f16 f15 f14 f13 f12 f11 f10 f9 f8 f7 f6 f5 f4 f3 f2 f1 f0
theorem q_259vw_1 {n0 n1 n2 n3 n4 n5 n6 n7 : Int} {H0 H1 : gH} (f0 : n0 ≤ 2147483647) (f1 : (-2147483648) ≤ n0) (f2 : n1 ≤ 2147483647) (f3 : (-2147483648) ≤ n1) (f4 : n2 ≤ 2147483647) (f5 : (-2147483648) ≤ n2) (f6 : n3 ≤ 2147483647) (f7 : (-2147483648) ≤ n3) (f8 : n4 ≤ 2147483647) (f9 : (-2147483648) ≤ n4) (f10 : n5 = 285) (f11 : hWt T0 H0 ∧ preb_259v n5 n4 n3 n2 n1 n0 H0) (f12 : n6 ≤ 1) (f13 : 0 ≤ n6) (f14 : (hLe T0 H0 H1 ∧ hFr s_257v.2.2.2.2 H0 H1 ∧ ((0 : Int) = 0 → H1.length = H0.length) ∧ hWt T0 H1) ∧ postb_257v n6 n5 n4 H0 H1) (f15 : n6 ≠ 0) (f16 : n3 < 0) (f17 : n7 = 0) : nb_259 n7 n5 n4 n3 n2 n1 n0 H0 H1 := by
  unfold nb_259
  have ow := f14.2
  unfold postb_257v at ow
  have sb := f14.1.2.2.2 285 64 0 20 (by decide +kernel)
  rw [show hV H1 285 64 = hV H0 285 64 from f14.1.2.1.1 285 64 (by decide +kernel)] at ow sb
  rw [show hV H1 328 = hV H0 328 from fRow f14.1.2.1 328 (by decide +kernel), show hV H1 329 = hV H0 329 from fRow f14.1.2.1 329 (by decide +kernel)] at ow
  exact .inr ⟨fun w => by
    unfold WVm at w
    omega, fRow f14.1.2.1 337 (by decide +kernel)⟩
def g_259vw_s_1 : vG := ([(0, [7], [], 0), (32, [2], [], 0), (31, [6], [], 0), (1257, [6, 0, 1], [0, 1], 0), (90, [6], [], 0), (91, [6], [], 1), (6000, [0, 1, 2, 3, 4, 5], [0], 0), (0, [0], [], 285), (90, [1], [], -2147483648), (91, [1], [], 2147483647), (90, [2], [], -2147483648), (91, [2], [], 2147483647), (90, [3], [], -2147483648), (91, [3], [], 2147483647), (90, [4], [], -2147483648), (91, [4], [], 2147483647), (90, [5], [], -2147483648), (91, [5], [], 2147483647)], (3000, [7], [1], 28))
theorem c_259vw_s_1 : vOkm T0 (eN e_259v L_259vw A_259v mu_259v n_259 B_259 none) 6 g_259vw_s_1 := vOk_inI fun ρ η f0 f1 f2 f3 f4 f5 f6 f7 f8 f9 f10 f11 f12 f13 f14 f15 f16 f17 => q_259vw_1 (n0 := ρ 5) (n1 := ρ 4) (n2 := ρ 3) (n3 := ρ 2) (n4 := ρ 1) (n5 := ρ 0) (n6 := ρ 6) (n7 := ρ 7) (H0 := η 0) (H1 := η 1) f17 f16 f15 f14 f13 f12 f11 f10 f9 f8 f7 f6 f5 f4 f3 f2 f1 f0
theorem q_259vw_2 {n0 n1 n2 n3 n4 n5 n6 n7 : Int} {H0 H1 : gH} (f0 : n0 ≤ 2147483647) (f1 : (-2147483648) ≤ n0) (f2 : n1 ≤ 2147483647) (f3 : (-2147483648) ≤ n1) (f4 : n2 ≤ 2147483647) (f5 : (-2147483648) ≤ n2) (f6 : n3 ≤ 2147483647) (f7 : (-2147483648) ≤ n3) (f8 : n4 ≤ 2147483647) (f9 : (-2147483648) ≤ n4) (f10 : n5 = 285) (f11 : hWt T0 H0 ∧ preb_259v n5 n4 n3 n2 n1 n0 H0) (f12 : n6 ≤ 1) (f13 : 0 ≤ n6) (f14 : (hLe T0 H0 H1 ∧ hFr s_257v.2.2.2.2 H0 H1 ∧ ((0 : Int) = 0 → H1.length = H0.length) ∧ hWt T0 H1) ∧ postb_257v n6 n5 n4 H0 H1) (f15 : n6 ≠ 0) (f16 : 0 ≤ n3) (f17 : n2 ≤ n3) (f18 : n7 = 0) : nb_259 n7 n5 n4 n3 n2 n1 n0 H0 H1 := by
  unfold nb_259
  have ow := f14.2
  unfold postb_257v at ow
  have sb := f14.1.2.2.2 285 64 0 20 (by decide +kernel)
  rw [show hV H1 285 64 = hV H0 285 64 from f14.1.2.1.1 285 64 (by decide +kernel)] at ow sb
  rw [show hV H1 328 = hV H0 328 from fRow f14.1.2.1 328 (by decide +kernel), show hV H1 329 = hV H0 329 from fRow f14.1.2.1 329 (by decide +kernel)] at ow
  exact .inr ⟨fun w => by
    unfold WVm at w
    omega, fRow f14.1.2.1 337 (by decide +kernel)⟩
def g_259vw_s_2 : vG := ([(0, [7], [], 0), (43, [2, 3], [], 0), (33, [2], [], 0), (31, [6], [], 0), (1257, [6, 0, 1], [0, 1], 0), (90, [6], [], 0), (91, [6], [], 1), (6000, [0, 1, 2, 3, 4, 5], [0], 0), (0, [0], [], 285), (90, [1], [], -2147483648), (91, [1], [], 2147483647), (90, [2], [], -2147483648), (91, [2], [], 2147483647), (90, [3], [], -2147483648), (91, [3], [], 2147483647), (90, [4], [], -2147483648), (91, [4], [], 2147483647), (90, [5], [], -2147483648), (91, [5], [], 2147483647)], (3000, [7], [1], 28))
theorem c_259vw_s_2 : vOkm T0 (eN e_259v L_259vw A_259v mu_259v n_259 B_259 none) 6 g_259vw_s_2 := vOk_inI fun ρ η f0 f1 f2 f3 f4 f5 f6 f7 f8 f9 f10 f11 f12 f13 f14 f15 f16 f17 f18 => q_259vw_2 (n0 := ρ 5) (n1 := ρ 4) (n2 := ρ 3) (n3 := ρ 2) (n4 := ρ 1) (n5 := ρ 0) (n6 := ρ 6) (n7 := ρ 7) (H0 := η 0) (H1 := η 1) f18 f17 f16 f15 f14 f13 f12 f11 f10 f9 f8 f7 f6 f5 f4 f3 f2 f1 f0
theorem q_259vw_3 {n0 n1 n2 n3 n4 n5 n6 n7 n8 n9 n10 n11 n12 n13 n14 n15 n16 n17 n18 n19 n20 n21 : Int} {H0 H1 H2 : gH} (f0 : n0 ≤ 2147483647) (f1 : (-2147483648) ≤ n0) (f2 : n1 ≤ 2147483647) (f3 : (-2147483648) ≤ n1) (f4 : n2 ≤ 2147483647) (f5 : (-2147483648) ≤ n2) (f6 : n3 ≤ 2147483647) (f7 : (-2147483648) ≤ n3) (f8 : n4 ≤ 2147483647) (f9 : (-2147483648) ≤ n4) (f10 : n5 = 285) (f11 : hWt T0 H0 ∧ preb_259v n5 n4 n3 n2 n1 n0 H0) (f12 : n6 ≤ 1) (f13 : 0 ≤ n6) (f14 : (hLe T0 H0 H1 ∧ hFr s_257v.2.2.2.2 H0 H1 ∧ ((0 : Int) = 0 → H1.length = H0.length) ∧ hWt T0 H1) ∧ postb_257v n6 n5 n4 H0 H1) (f15 : n6 ≠ 0) (f16 : 0 ≤ n3) (f17 : n3 < n2) (f18 : n7 = 329) (f19 : hK H1 (n5).toNat = 12) (f20 : n7 = hV H1 (n5).toNat 67) (f21 : n8 ≤ 240) (f22 : (-1) ≤ n8) (f23 : n8 = hV H1 (n7).toNat (n4).toNat) (f24 : n2 ≤ n8) (f25 : n9 = n1) (f26 : n10 = n2) (f27 : n11 = 1) (f28 : n12 = o64 (fun x y => x - y) n10 n11) (f29 : n13 = n3) (f30 : n14 = o64 (fun x y => x - y) n12 n13) (f31 : n15 = n0) (f32 : n16 = o64 (fun x y => x * y) n14 n15) (f33 : n17 = o64 (fun x y => x + y) n9 n16) (f34 : n18 = (-9999)) (f35 : n19 = 9999) (f36 : n20 ≤ 1) (f37 : 0 ≤ n20) (f38 : (hLe T0 H1 H2 ∧ hFr s_251.2.2.2.2 H1 H2 ∧ ((0 : Int) = 0 → H2.length = H1.length) ∧ hWt T0 H2) ∧ postb_251 n20 n1 n18 n19 H1 H2) (f39 : n20 = 0) (f40 : n21 = 0) : nb_259 n21 n5 n4 n3 n2 n1 n0 H0 H2 := by
  unfold nb_259
  have ow := f14.2
  unfold postb_257v at ow
  have sb := f14.1.2.2.2 285 64 0 20 (by decide +kernel)
  rw [show hV H1 285 64 = hV H0 285 64 from f14.1.2.1.1 285 64 (by decide +kernel)] at ow sb
  rw [show hV H1 328 = hV H0 328 from fRow f14.1.2.1 328 (by decide +kernel), show hV H1 329 = hV H0 329 from fRow f14.1.2.1 329 (by decide +kernel)] at ow
  have d23 := rdW (q := 329) f23 f18
  rw [show hV H1 329 = hV H0 329 from fRow f14.1.2.1 329 (by decide +kernel)] at d23
  have in38 := f38.2
  unfold postb_251 at in38
  rw [f34] at in38
  rw [f35] at in38
  have l25 := f25
  have l26 := f26
  have l29 := f29
  have l31 := f31
  have e1 : n12 = n2 - 1 := by
    have w := f28
    rw [f27] at w
    rw [o64_sub (by omega) (by omega)] at w
    omega
  have e2 : n14 = n2 - 1 - n3 := by
    have w := f30
    rw [o64_sub (by omega) (by omega)] at w
    omega
  have mb := mul_in (x := n0) (y := n2 - 1 - n3) (by omega) (by omega) (by omega) (by omega)
  have e3 : n16 = n0 * (n2 - 1 - n3) := by
    have w := f32
    rw [e2, show n15 = n0 by omega] at w
    have c := Int.mul_comm (n2 - 1 - n3) n0
    rw [o64_mul (by rw [c]; omega) (by rw [c]; omega), c] at w
    exact w
  have es : n17 = n1 + n0 * (n2 - 1 - n3) := by
    have w := f33
    rw [e3, show n9 = n1 by omega] at w
    rw [o64_add (by omega) (by omega)] at w
    exact w
  exact .inr ⟨fun w => by
    unfold WVm at w
    omega, (fRow f38.1.2.1 337 (by decide +kernel)).trans (fRow f14.1.2.1 337 (by decide +kernel))⟩
def g_259vw_s_3 : vG := ([(0, [21], [], 0), (30, [20], [], 0), (1251, [20, 4, 18, 19], [1, 2], 0), (90, [20], [], 0), (91, [20], [], 1), (0, [19], [], 9999), (0, [18], [], -9999), (61, [17, 9, 16], [], 0), (63, [16, 14, 15], [], 0), (17, [15, 5], [], 0), (62, [14, 12, 13], [], 0), (17, [13, 2], [], 0), (62, [12, 10, 11], [], 0), (0, [11], [], 1), (17, [10, 3], [], 0), (17, [9, 4], [], 0), (45, [3, 8], [], 0), (22, [8, 7, 1], [1], 0), (90, [8], [], -1), (91, [8], [], 240), (20, [7, 0], [1], 67), (23, [0], [1], 12), (0, [7], [], 329), (42, [2, 3], [], 0), (33, [2], [], 0), (31, [6], [], 0), (1257, [6, 0, 1], [0, 1], 0), (90, [6], [], 0), (91, [6], [], 1), (6000, [0, 1, 2, 3, 4, 5], [0], 0), (0, [0], [], 285), (90, [1], [], -2147483648), (91, [1], [], 2147483647), (90, [2], [], -2147483648), (91, [2], [], 2147483647), (90, [3], [], -2147483648), (91, [3], [], 2147483647), (90, [4], [], -2147483648), (91, [4], [], 2147483647), (90, [5], [], -2147483648), (91, [5], [], 2147483647)], (3000, [21], [2], 79))
theorem c_259vw_s_3 : vOkm T0 (eN e_259v L_259vw A_259v mu_259v n_259 B_259 none) 6 g_259vw_s_3 := vOk_inI fun ρ η f0 f1 f2 f3 f4 f5 f6 f7 f8 f9 f10 f11 f12 f13 f14 f15 f16 f17 f18 f19 f20 f21 f22 f23 f24 f25 f26 f27 f28 f29 f30 f31 f32 f33 f34 f35 f36 f37 f38 f39 f40 => q_259vw_3 (n0 := ρ 5) (n1 := ρ 4) (n2 := ρ 3) (n3 := ρ 2) (n4 := ρ 1) (n5 := ρ 0) (n6 := ρ 6) (n7 := ρ 7) (n8 := ρ 8) (n9 := ρ 9) (n10 := ρ 10) (n11 := ρ 11) (n12 := ρ 12) (n13 := ρ 13) (n14 := ρ 14) (n15 := ρ 15) (n16 := ρ 16) (n17 := ρ 17) (n18 := ρ 18) (n19 := ρ 19) (n20 := ρ 20) (n21 := ρ 21) (H0 := η 0) (H1 := η 1) (H2 := η 2) f40 f39 f38 f37 f36 f35 f34 f33 f32 f31 f30 f29 f28 f27 f26 f25 f24 f23 f22 f21 f20 f19 f18 f17 f16 f15 f14 f13 f12 f11 f10 f9 f8 f7 f6 f5 f4 f3 f2 f1 f0
theorem q_259vw_4 {n0 n1 n2 n3 n4 n5 n6 n7 n8 n9 n10 n11 n12 n13 n14 n15 n16 n17 n18 n19 n20 n21 n22 n23 : Int} {H0 H1 H2 : gH} (f0 : n0 ≤ 2147483647) (f1 : (-2147483648) ≤ n0) (f2 : n1 ≤ 2147483647) (f3 : (-2147483648) ≤ n1) (f4 : n2 ≤ 2147483647) (f5 : (-2147483648) ≤ n2) (f6 : n3 ≤ 2147483647) (f7 : (-2147483648) ≤ n3) (f8 : n4 ≤ 2147483647) (f9 : (-2147483648) ≤ n4) (f10 : n5 = 285) (f11 : hWt T0 H0 ∧ preb_259v n5 n4 n3 n2 n1 n0 H0) (f12 : n6 ≤ 1) (f13 : 0 ≤ n6) (f14 : (hLe T0 H0 H1 ∧ hFr s_257v.2.2.2.2 H0 H1 ∧ ((0 : Int) = 0 → H1.length = H0.length) ∧ hWt T0 H1) ∧ postb_257v n6 n5 n4 H0 H1) (f15 : n6 ≠ 0) (f16 : 0 ≤ n3) (f17 : n3 < n2) (f18 : n7 = 329) (f19 : hK H1 (n5).toNat = 12) (f20 : n7 = hV H1 (n5).toNat 67) (f21 : n8 ≤ 240) (f22 : (-1) ≤ n8) (f23 : n8 = hV H1 (n7).toNat (n4).toNat) (f24 : n2 ≤ n8) (f25 : n9 = n1) (f26 : n10 = n2) (f27 : n11 = 1) (f28 : n12 = o64 (fun x y => x - y) n10 n11) (f29 : n13 = n3) (f30 : n14 = o64 (fun x y => x - y) n12 n13) (f31 : n15 = n0) (f32 : n16 = o64 (fun x y => x * y) n14 n15) (f33 : n17 = o64 (fun x y => x + y) n9 n16) (f34 : n18 = (-9999)) (f35 : n19 = 9999) (f36 : n20 ≤ 1) (f37 : 0 ≤ n20) (f38 : (hLe T0 H1 H2 ∧ hFr s_251.2.2.2.2 H1 H2 ∧ ((0 : Int) = 0 → H2.length = H1.length) ∧ hWt T0 H2) ∧ postb_251 n20 n1 n18 n19 H1 H2) (f39 : n20 ≠ 0) (f40 : n21 = (-9999)) (f41 : n22 = (lg_cmp (Int64.ofInt n17) (Int64.ofInt n21)).toInt) (f42 : n22 < 0) (f43 : n23 = 0) : nb_259 n23 n5 n4 n3 n2 n1 n0 H0 H2 := by
  unfold nb_259
  have ow := f14.2
  unfold postb_257v at ow
  have sb := f14.1.2.2.2 285 64 0 20 (by decide +kernel)
  rw [show hV H1 285 64 = hV H0 285 64 from f14.1.2.1.1 285 64 (by decide +kernel)] at ow sb
  rw [show hV H1 328 = hV H0 328 from fRow f14.1.2.1 328 (by decide +kernel), show hV H1 329 = hV H0 329 from fRow f14.1.2.1 329 (by decide +kernel)] at ow
  have d23 := rdW (q := 329) f23 f18
  rw [show hV H1 329 = hV H0 329 from fRow f14.1.2.1 329 (by decide +kernel)] at d23
  have in38 := f38.2
  unfold postb_251 at in38
  rw [f34] at in38
  rw [f35] at in38
  have l25 := f25
  have l26 := f26
  have l29 := f29
  have l31 := f31
  have e1 : n12 = n2 - 1 := by
    have w := f28
    rw [f27] at w
    rw [o64_sub (by omega) (by omega)] at w
    omega
  have e2 : n14 = n2 - 1 - n3 := by
    have w := f30
    rw [o64_sub (by omega) (by omega)] at w
    omega
  have mb := mul_in (x := n0) (y := n2 - 1 - n3) (by omega) (by omega) (by omega) (by omega)
  have e3 : n16 = n0 * (n2 - 1 - n3) := by
    have w := f32
    rw [e2, show n15 = n0 by omega] at w
    have c := Int.mul_comm (n2 - 1 - n3) n0
    rw [o64_mul (by rw [c]; omega) (by rw [c]; omega), c] at w
    exact w
  have es : n17 = n1 + n0 * (n2 - 1 - n3) := by
    have w := f33
    rw [e3, show n9 = n1 by omega] at w
    rw [o64_add (by omega) (by omega)] at w
    exact w
  have lc41 := lgw (k := n22) (x := n17) (y := (-9999)) (by
    have w := f41
    rw [f40] at w
    exact w) (by omega) (by omega) (by omega) (by omega)
  exact .inr ⟨fun w => by
    unfold WVm at w
    omega, (fRow f38.1.2.1 337 (by decide +kernel)).trans (fRow f14.1.2.1 337 (by decide +kernel))⟩
def g_259vw_s_4 : vG := ([(0, [23], [], 0), (32, [22], [], 0), (65, [22, 17, 21], [], 0), (0, [21], [], -9999), (31, [20], [], 0), (1251, [20, 4, 18, 19], [1, 2], 0), (90, [20], [], 0), (91, [20], [], 1), (0, [19], [], 9999), (0, [18], [], -9999), (61, [17, 9, 16], [], 0), (63, [16, 14, 15], [], 0), (17, [15, 5], [], 0), (62, [14, 12, 13], [], 0), (17, [13, 2], [], 0), (62, [12, 10, 11], [], 0), (0, [11], [], 1), (17, [10, 3], [], 0), (17, [9, 4], [], 0), (45, [3, 8], [], 0), (22, [8, 7, 1], [1], 0), (90, [8], [], -1), (91, [8], [], 240), (20, [7, 0], [1], 67), (23, [0], [1], 12), (0, [7], [], 329), (42, [2, 3], [], 0), (33, [2], [], 0), (31, [6], [], 0), (1257, [6, 0, 1], [0, 1], 0), (90, [6], [], 0), (91, [6], [], 1), (6000, [0, 1, 2, 3, 4, 5], [0], 0), (0, [0], [], 285), (90, [1], [], -2147483648), (91, [1], [], 2147483647), (90, [2], [], -2147483648), (91, [2], [], 2147483647), (90, [3], [], -2147483648), (91, [3], [], 2147483647), (90, [4], [], -2147483648), (91, [4], [], 2147483647), (90, [5], [], -2147483648), (91, [5], [], 2147483647)], (3000, [23], [2], 79))
theorem c_259vw_s_4 : vOkm T0 (eN e_259v L_259vw A_259v mu_259v n_259 B_259 none) 6 g_259vw_s_4 := vOk_inI fun ρ η f0 f1 f2 f3 f4 f5 f6 f7 f8 f9 f10 f11 f12 f13 f14 f15 f16 f17 f18 f19 f20 f21 f22 f23 f24 f25 f26 f27 f28 f29 f30 f31 f32 f33 f34 f35 f36 f37 f38 f39 f40 f41 f42 f43 => q_259vw_4 (n0 := ρ 5) (n1 := ρ 4) (n2 := ρ 3) (n3 := ρ 2) (n4 := ρ 1) (n5 := ρ 0) (n6 := ρ 6) (n7 := ρ 7) (n8 := ρ 8) (n9 := ρ 9) (n10 := ρ 10) (n11 := ρ 11) (n12 := ρ 12) (n13 := ρ 13) (n14 := ρ 14) (n15 := ρ 15) (n16 := ρ 16) (n17 := ρ 17) (n18 := ρ 18) (n19 := ρ 19) (n20 := ρ 20) (n21 := ρ 21) (n22 := ρ 22) (n23 := ρ 23) (H0 := η 0) (H1 := η 1) (H2 := η 2) f43 f42 f41 f40 f39 f38 f37 f36 f35 f34 f33 f32 f31 f30 f29 f28 f27 f26 f25 f24 f23 f22 f21 f20 f19 f18 f17 f16 f15 f14 f13 f12 f11 f10 f9 f8 f7 f6 f5 f4 f3 f2 f1 f0
theorem q_259vw_5 {n0 n1 n2 n3 n4 n5 n6 n7 n8 n9 n10 n11 n12 n13 n14 n15 n16 n17 n18 n19 n20 n21 n22 n23 n24 : Int} {H0 H1 H2 : gH} (f0 : n0 ≤ 2147483647) (f1 : (-2147483648) ≤ n0) (f2 : n1 ≤ 2147483647) (f3 : (-2147483648) ≤ n1) (f4 : n2 ≤ 2147483647) (f5 : (-2147483648) ≤ n2) (f6 : n3 ≤ 2147483647) (f7 : (-2147483648) ≤ n3) (f8 : n4 ≤ 2147483647) (f9 : (-2147483648) ≤ n4) (f10 : n5 = 285) (f11 : hWt T0 H0 ∧ preb_259v n5 n4 n3 n2 n1 n0 H0) (f12 : n6 ≤ 1) (f13 : 0 ≤ n6) (f14 : (hLe T0 H0 H1 ∧ hFr s_257v.2.2.2.2 H0 H1 ∧ ((0 : Int) = 0 → H1.length = H0.length) ∧ hWt T0 H1) ∧ postb_257v n6 n5 n4 H0 H1) (f15 : n6 ≠ 0) (f16 : 0 ≤ n3) (f17 : n3 < n2) (f18 : n7 = 329) (f19 : hK H1 (n5).toNat = 12) (f20 : n7 = hV H1 (n5).toNat 67) (f21 : n8 ≤ 240) (f22 : (-1) ≤ n8) (f23 : n8 = hV H1 (n7).toNat (n4).toNat) (f24 : n2 ≤ n8) (f25 : n9 = n1) (f26 : n10 = n2) (f27 : n11 = 1) (f28 : n12 = o64 (fun x y => x - y) n10 n11) (f29 : n13 = n3) (f30 : n14 = o64 (fun x y => x - y) n12 n13) (f31 : n15 = n0) (f32 : n16 = o64 (fun x y => x * y) n14 n15) (f33 : n17 = o64 (fun x y => x + y) n9 n16) (f34 : n18 = (-9999)) (f35 : n19 = 9999) (f36 : n20 ≤ 1) (f37 : 0 ≤ n20) (f38 : (hLe T0 H1 H2 ∧ hFr s_251.2.2.2.2 H1 H2 ∧ ((0 : Int) = 0 → H2.length = H1.length) ∧ hWt T0 H2) ∧ postb_251 n20 n1 n18 n19 H1 H2) (f39 : n20 ≠ 0) (f40 : n21 = (-9999)) (f41 : n22 = (lg_cmp (Int64.ofInt n17) (Int64.ofInt n21)).toInt) (f42 : 0 ≤ n22) (f43 : n23 = 9999) (f44 : n24 = (lg_cmp (Int64.ofInt n17) (Int64.ofInt n23)).toInt) (f45 : n24 ≤ 0) : Bb_259_83 n5 n4 n3 n2 n1 n0 n5 n4 n3 n2 n1 n0 n17 n3 H0 H2 := by
  unfold Bb_259_83
  have ow := f14.2
  unfold postb_257v at ow
  have sb := f14.1.2.2.2 285 64 0 20 (by decide +kernel)
  rw [show hV H1 285 64 = hV H0 285 64 from f14.1.2.1.1 285 64 (by decide +kernel)] at ow sb
  rw [show hV H1 328 = hV H0 328 from fRow f14.1.2.1 328 (by decide +kernel), show hV H1 329 = hV H0 329 from fRow f14.1.2.1 329 (by decide +kernel)] at ow
  have d23 := rdW (q := 329) f23 f18
  rw [show hV H1 329 = hV H0 329 from fRow f14.1.2.1 329 (by decide +kernel)] at d23
  have in38 := f38.2
  unfold postb_251 at in38
  rw [f34] at in38
  rw [f35] at in38
  have l25 := f25
  have l26 := f26
  have l29 := f29
  have l31 := f31
  have e1 : n12 = n2 - 1 := by
    have w := f28
    rw [f27] at w
    rw [o64_sub (by omega) (by omega)] at w
    omega
  have e2 : n14 = n2 - 1 - n3 := by
    have w := f30
    rw [o64_sub (by omega) (by omega)] at w
    omega
  have mb := mul_in (x := n0) (y := n2 - 1 - n3) (by omega) (by omega) (by omega) (by omega)
  have e3 : n16 = n0 * (n2 - 1 - n3) := by
    have w := f32
    rw [e2, show n15 = n0 by omega] at w
    have c := Int.mul_comm (n2 - 1 - n3) n0
    rw [o64_mul (by rw [c]; omega) (by rw [c]; omega), c] at w
    exact w
  have es : n17 = n1 + n0 * (n2 - 1 - n3) := by
    have w := f33
    rw [e3, show n9 = n1 by omega] at w
    rw [o64_add (by omega) (by omega)] at w
    exact w
  have lc41 := lgw (k := n22) (x := n17) (y := (-9999)) (by
    have w := f41
    rw [f40] at w
    exact w) (by omega) (by omega) (by omega) (by omega)
  have lc44 := lgw (k := n24) (x := n17) (y := 9999) (by
    have w := f44
    rw [f43] at w
    exact w) (by omega) (by omega) (by omega) (by omega)
  refine ⟨?_, ?_, by omega, by omega⟩
  · unfold WVm
    omega
  · rw [wvF_0 (by omega)]
    exact (fRow f38.1.2.1 337 (by decide +kernel)).trans (fRow f14.1.2.1 337 (by decide +kernel))
def g_259vw_s_5 : vG := ([(35, [24], [], 0), (65, [24, 17, 23], [], 0), (0, [23], [], 9999), (33, [22], [], 0), (65, [22, 17, 21], [], 0), (0, [21], [], -9999), (31, [20], [], 0), (1251, [20, 4, 18, 19], [1, 2], 0), (90, [20], [], 0), (91, [20], [], 1), (0, [19], [], 9999), (0, [18], [], -9999), (61, [17, 9, 16], [], 0), (63, [16, 14, 15], [], 0), (17, [15, 5], [], 0), (62, [14, 12, 13], [], 0), (17, [13, 2], [], 0), (62, [12, 10, 11], [], 0), (0, [11], [], 1), (17, [10, 3], [], 0), (17, [9, 4], [], 0), (45, [3, 8], [], 0), (22, [8, 7, 1], [1], 0), (90, [8], [], -1), (91, [8], [], 240), (20, [7, 0], [1], 67), (23, [0], [1], 12), (0, [7], [], 329), (42, [2, 3], [], 0), (33, [2], [], 0), (31, [6], [], 0), (1257, [6, 0, 1], [0, 1], 0), (90, [6], [], 0), (91, [6], [], 1), (6000, [0, 1, 2, 3, 4, 5], [0], 0), (0, [0], [], 285), (90, [1], [], -2147483648), (91, [1], [], 2147483647), (90, [2], [], -2147483648), (91, [2], [], 2147483647), (90, [3], [], -2147483648), (91, [3], [], 2147483647), (90, [4], [], -2147483648), (91, [4], [], 2147483647), (90, [5], [], -2147483648), (91, [5], [], 2147483647)], (4000, [0, 1, 2, 3, 4, 5, 17, 2], [2], 83))
theorem c_259vw_s_5 : vOkm T0 (eN e_259v L_259vw A_259v mu_259v n_259 B_259 none) 6 g_259vw_s_5 := vOk_inI fun ρ η f0 f1 f2 f3 f4 f5 f6 f7 f8 f9 f10 f11 f12 f13 f14 f15 f16 f17 f18 f19 f20 f21 f22 f23 f24 f25 f26 f27 f28 f29 f30 f31 f32 f33 f34 f35 f36 f37 f38 f39 f40 f41 f42 f43 f44 f45 => q_259vw_5 (n0 := ρ 5) (n1 := ρ 4) (n2 := ρ 3) (n3 := ρ 2) (n4 := ρ 1) (n5 := ρ 0) (n6 := ρ 6) (n7 := ρ 7) (n8 := ρ 8) (n9 := ρ 9) (n10 := ρ 10) (n11 := ρ 11) (n12 := ρ 12) (n13 := ρ 13) (n14 := ρ 14) (n15 := ρ 15) (n16 := ρ 16) (n17 := ρ 17) (n18 := ρ 18) (n19 := ρ 19) (n20 := ρ 20) (n21 := ρ 21) (n22 := ρ 22) (n23 := ρ 23) (n24 := ρ 24) (H0 := η 0) (H1 := η 1) (H2 := η 2) f45 f44 f43 f42 f41 f40 f39 f38 f37 f36 f35 f34 f33 f32 f31 f30 f29 f28 f27 f26 f25 f24 f23 f22 f21 f20 f19 f18 f17 f16 f15 f14 f13 f12 f11 f10 f9 f8 f7 f6 f5 f4 f3 f2 f1 f0
theorem q_259vw_6 {n0 n1 n2 n3 n4 n5 n6 n7 n8 n9 n10 n11 n12 n13 n14 n15 n16 n17 n18 n19 n20 n21 n22 n23 n24 n25 : Int} {H0 H1 H2 : gH} (f0 : n0 ≤ 2147483647) (f1 : (-2147483648) ≤ n0) (f2 : n1 ≤ 2147483647) (f3 : (-2147483648) ≤ n1) (f4 : n2 ≤ 2147483647) (f5 : (-2147483648) ≤ n2) (f6 : n3 ≤ 2147483647) (f7 : (-2147483648) ≤ n3) (f8 : n4 ≤ 2147483647) (f9 : (-2147483648) ≤ n4) (f10 : n5 = 285) (f11 : hWt T0 H0 ∧ preb_259v n5 n4 n3 n2 n1 n0 H0) (f12 : n6 ≤ 1) (f13 : 0 ≤ n6) (f14 : (hLe T0 H0 H1 ∧ hFr s_257v.2.2.2.2 H0 H1 ∧ ((0 : Int) = 0 → H1.length = H0.length) ∧ hWt T0 H1) ∧ postb_257v n6 n5 n4 H0 H1) (f15 : n6 ≠ 0) (f16 : 0 ≤ n3) (f17 : n3 < n2) (f18 : n7 = 329) (f19 : hK H1 (n5).toNat = 12) (f20 : n7 = hV H1 (n5).toNat 67) (f21 : n8 ≤ 240) (f22 : (-1) ≤ n8) (f23 : n8 = hV H1 (n7).toNat (n4).toNat) (f24 : n2 ≤ n8) (f25 : n9 = n1) (f26 : n10 = n2) (f27 : n11 = 1) (f28 : n12 = o64 (fun x y => x - y) n10 n11) (f29 : n13 = n3) (f30 : n14 = o64 (fun x y => x - y) n12 n13) (f31 : n15 = n0) (f32 : n16 = o64 (fun x y => x * y) n14 n15) (f33 : n17 = o64 (fun x y => x + y) n9 n16) (f34 : n18 = (-9999)) (f35 : n19 = 9999) (f36 : n20 ≤ 1) (f37 : 0 ≤ n20) (f38 : (hLe T0 H1 H2 ∧ hFr s_251.2.2.2.2 H1 H2 ∧ ((0 : Int) = 0 → H2.length = H1.length) ∧ hWt T0 H2) ∧ postb_251 n20 n1 n18 n19 H1 H2) (f39 : n20 ≠ 0) (f40 : n21 = (-9999)) (f41 : n22 = (lg_cmp (Int64.ofInt n17) (Int64.ofInt n21)).toInt) (f42 : 0 ≤ n22) (f43 : n23 = 9999) (f44 : n24 = (lg_cmp (Int64.ofInt n17) (Int64.ofInt n23)).toInt) (f45 : 0 < n24) (f46 : n25 = 0) : nb_259 n25 n5 n4 n3 n2 n1 n0 H0 H2 := by
  unfold nb_259
  have ow := f14.2
  unfold postb_257v at ow
  have sb := f14.1.2.2.2 285 64 0 20 (by decide +kernel)
  rw [show hV H1 285 64 = hV H0 285 64 from f14.1.2.1.1 285 64 (by decide +kernel)] at ow sb
  rw [show hV H1 328 = hV H0 328 from fRow f14.1.2.1 328 (by decide +kernel), show hV H1 329 = hV H0 329 from fRow f14.1.2.1 329 (by decide +kernel)] at ow
  have d23 := rdW (q := 329) f23 f18
  rw [show hV H1 329 = hV H0 329 from fRow f14.1.2.1 329 (by decide +kernel)] at d23
  have in38 := f38.2
  unfold postb_251 at in38
  rw [f34] at in38
  rw [f35] at in38
  have l25 := f25
  have l26 := f26
  have l29 := f29
  have l31 := f31
  have e1 : n12 = n2 - 1 := by
    have w := f28
    rw [f27] at w
    rw [o64_sub (by omega) (by omega)] at w
    omega
  have e2 : n14 = n2 - 1 - n3 := by
    have w := f30
    rw [o64_sub (by omega) (by omega)] at w
    omega
  have mb := mul_in (x := n0) (y := n2 - 1 - n3) (by omega) (by omega) (by omega) (by omega)
  have e3 : n16 = n0 * (n2 - 1 - n3) := by
    have w := f32
    rw [e2, show n15 = n0 by omega] at w
    have c := Int.mul_comm (n2 - 1 - n3) n0
    rw [o64_mul (by rw [c]; omega) (by rw [c]; omega), c] at w
    exact w
  have es : n17 = n1 + n0 * (n2 - 1 - n3) := by
    have w := f33
    rw [e3, show n9 = n1 by omega] at w
    rw [o64_add (by omega) (by omega)] at w
    exact w
  have lc41 := lgw (k := n22) (x := n17) (y := (-9999)) (by
    have w := f41
    rw [f40] at w
    exact w) (by omega) (by omega) (by omega) (by omega)
  have lc44 := lgw (k := n24) (x := n17) (y := 9999) (by
    have w := f44
    rw [f43] at w
    exact w) (by omega) (by omega) (by omega) (by omega)
  exact .inr ⟨fun w => by
    unfold WVm at w
    omega, (fRow f38.1.2.1 337 (by decide +kernel)).trans (fRow f14.1.2.1 337 (by decide +kernel))⟩
def g_259vw_s_6 : vG := ([(0, [25], [], 0), (34, [24], [], 0), (65, [24, 17, 23], [], 0), (0, [23], [], 9999), (33, [22], [], 0), (65, [22, 17, 21], [], 0), (0, [21], [], -9999), (31, [20], [], 0), (1251, [20, 4, 18, 19], [1, 2], 0), (90, [20], [], 0), (91, [20], [], 1), (0, [19], [], 9999), (0, [18], [], -9999), (61, [17, 9, 16], [], 0), (63, [16, 14, 15], [], 0), (17, [15, 5], [], 0), (62, [14, 12, 13], [], 0), (17, [13, 2], [], 0), (62, [12, 10, 11], [], 0), (0, [11], [], 1), (17, [10, 3], [], 0), (17, [9, 4], [], 0), (45, [3, 8], [], 0), (22, [8, 7, 1], [1], 0), (90, [8], [], -1), (91, [8], [], 240), (20, [7, 0], [1], 67), (23, [0], [1], 12), (0, [7], [], 329), (42, [2, 3], [], 0), (33, [2], [], 0), (31, [6], [], 0), (1257, [6, 0, 1], [0, 1], 0), (90, [6], [], 0), (91, [6], [], 1), (6000, [0, 1, 2, 3, 4, 5], [0], 0), (0, [0], [], 285), (90, [1], [], -2147483648), (91, [1], [], 2147483647), (90, [2], [], -2147483648), (91, [2], [], 2147483647), (90, [3], [], -2147483648), (91, [3], [], 2147483647), (90, [4], [], -2147483648), (91, [4], [], 2147483647), (90, [5], [], -2147483648), (91, [5], [], 2147483647)], (3000, [25], [2], 79))
theorem c_259vw_s_6 : vOkm T0 (eN e_259v L_259vw A_259v mu_259v n_259 B_259 none) 6 g_259vw_s_6 := vOk_inI fun ρ η f0 f1 f2 f3 f4 f5 f6 f7 f8 f9 f10 f11 f12 f13 f14 f15 f16 f17 f18 f19 f20 f21 f22 f23 f24 f25 f26 f27 f28 f29 f30 f31 f32 f33 f34 f35 f36 f37 f38 f39 f40 f41 f42 f43 f44 f45 f46 => q_259vw_6 (n0 := ρ 5) (n1 := ρ 4) (n2 := ρ 3) (n3 := ρ 2) (n4 := ρ 1) (n5 := ρ 0) (n6 := ρ 6) (n7 := ρ 7) (n8 := ρ 8) (n9 := ρ 9) (n10 := ρ 10) (n11 := ρ 11) (n12 := ρ 12) (n13 := ρ 13) (n14 := ρ 14) (n15 := ρ 15) (n16 := ρ 16) (n17 := ρ 17) (n18 := ρ 18) (n19 := ρ 19) (n20 := ρ 20) (n21 := ρ 21) (n22 := ρ 22) (n23 := ρ 23) (n24 := ρ 24) (n25 := ρ 25) (H0 := η 0) (H1 := η 1) (H2 := η 2) f46 f45 f44 f43 f42 f41 f40 f39 f38 f37 f36 f35 f34 f33 f32 f31 f30 f29 f28 f27 f26 f25 f24 f23 f22 f21 f20 f19 f18 f17 f16 f15 f14 f13 f12 f11 f10 f9 f8 f7 f6 f5 f4 f3 f2 f1 f0
theorem q_259vw_7 {n0 n1 n2 n3 n4 n5 n6 n7 n8 n9 : Int} {H0 H1 : gH} (f0 : n0 ≤ 2147483647) (f1 : (-2147483648) ≤ n0) (f2 : n1 ≤ 2147483647) (f3 : (-2147483648) ≤ n1) (f4 : n2 ≤ 2147483647) (f5 : (-2147483648) ≤ n2) (f6 : n3 ≤ 2147483647) (f7 : (-2147483648) ≤ n3) (f8 : n4 ≤ 2147483647) (f9 : (-2147483648) ≤ n4) (f10 : n5 = 285) (f11 : hWt T0 H0 ∧ preb_259v n5 n4 n3 n2 n1 n0 H0) (f12 : n6 ≤ 1) (f13 : 0 ≤ n6) (f14 : (hLe T0 H0 H1 ∧ hFr s_257v.2.2.2.2 H0 H1 ∧ ((0 : Int) = 0 → H1.length = H0.length) ∧ hWt T0 H1) ∧ postb_257v n6 n5 n4 H0 H1) (f15 : n6 ≠ 0) (f16 : 0 ≤ n3) (f17 : n3 < n2) (f18 : n7 = 329) (f19 : hK H1 (n5).toNat = 12) (f20 : n7 = hV H1 (n5).toNat 67) (f21 : n8 ≤ 240) (f22 : (-1) ≤ n8) (f23 : n8 = hV H1 (n7).toNat (n4).toNat) (f24 : n8 < n2) (f25 : n9 = 0) : nb_259 n9 n5 n4 n3 n2 n1 n0 H0 H1 := by
  unfold nb_259
  have ow := f14.2
  unfold postb_257v at ow
  have sb := f14.1.2.2.2 285 64 0 20 (by decide +kernel)
  rw [show hV H1 285 64 = hV H0 285 64 from f14.1.2.1.1 285 64 (by decide +kernel)] at ow sb
  rw [show hV H1 328 = hV H0 328 from fRow f14.1.2.1 328 (by decide +kernel), show hV H1 329 = hV H0 329 from fRow f14.1.2.1 329 (by decide +kernel)] at ow
  have d23 := rdW (q := 329) f23 f18
  rw [show hV H1 329 = hV H0 329 from fRow f14.1.2.1 329 (by decide +kernel)] at d23
  exact .inr ⟨fun w => by
    unfold WVm at w
    omega, fRow f14.1.2.1 337 (by decide +kernel)⟩
def g_259vw_s_7 : vG := ([(0, [9], [], 0), (44, [3, 8], [], 0), (22, [8, 7, 1], [1], 0), (90, [8], [], -1), (91, [8], [], 240), (20, [7, 0], [1], 67), (23, [0], [1], 12), (0, [7], [], 329), (42, [2, 3], [], 0), (33, [2], [], 0), (31, [6], [], 0), (1257, [6, 0, 1], [0, 1], 0), (90, [6], [], 0), (91, [6], [], 1), (6000, [0, 1, 2, 3, 4, 5], [0], 0), (0, [0], [], 285), (90, [1], [], -2147483648), (91, [1], [], 2147483647), (90, [2], [], -2147483648), (91, [2], [], 2147483647), (90, [3], [], -2147483648), (91, [3], [], 2147483647), (90, [4], [], -2147483648), (91, [4], [], 2147483647), (90, [5], [], -2147483648), (91, [5], [], 2147483647)], (3000, [9], [1], 28))
theorem c_259vw_s_7 : vOkm T0 (eN e_259v L_259vw A_259v mu_259v n_259 B_259 none) 6 g_259vw_s_7 := vOk_inI fun ρ η f0 f1 f2 f3 f4 f5 f6 f7 f8 f9 f10 f11 f12 f13 f14 f15 f16 f17 f18 f19 f20 f21 f22 f23 f24 f25 => q_259vw_7 (n0 := ρ 5) (n1 := ρ 4) (n2 := ρ 3) (n3 := ρ 2) (n4 := ρ 1) (n5 := ρ 0) (n6 := ρ 6) (n7 := ρ 7) (n8 := ρ 8) (n9 := ρ 9) (H0 := η 0) (H1 := η 1) f25 f24 f23 f22 f21 f20 f19 f18 f17 f16 f15 f14 f13 f12 f11 f10 f9 f8 f7 f6 f5 f4 f3 f2 f1 f0
def p_259vw_s : List vG := [g_259vw_s_0,
  g_259vw_s_1,
  g_259vw_s_2,
  g_259vw_s_3,
  g_259vw_s_4,
  g_259vw_s_5,
  g_259vw_s_6,
  g_259vw_s_7]
theorem r_259vw_s : vCovBO (eR0 e_259v L_259v cs_259v 2000) p_259vw_s = true := by decide +kernel
theorem q_259vw_8 {q0 : Nat} {n0 n1 n2 n3 n4 n5 n6 n7 n8 n9 n10 n11 n12 n13 n14 : Int} {H0 H1 H2 : gH} (f0 : n0 ≤ 2147483647) (f1 : (-2147483648) ≤ n0) (f2 : n1 ≤ 2147483647) (f3 : (-2147483648) ≤ n1) (f4 : n2 ≤ 2147483647) (f5 : (-2147483648) ≤ n2) (f6 : n3 ≤ 2147483647) (f7 : (-2147483648) ≤ n3) (f8 : n4 ≤ 2147483647) (f9 : (-2147483648) ≤ n4) (f10 : n5 ≤ 2147483647) (f11 : (-2147483648) ≤ n5) (f12 : n6 = 285) (f13 : n7 ≤ 2147483647) (f14 : (-2147483648) ≤ n7) (f15 : n8 ≤ 2147483647) (f16 : (-2147483648) ≤ n8) (f17 : n9 ≤ 2147483647) (f18 : (-2147483648) ≤ n9) (f19 : n10 ≤ 2147483647) (f20 : (-2147483648) ≤ n10) (f21 : n11 ≤ 2147483647) (f22 : (-2147483648) ≤ n11) (f23 : n12 = 285) (f24 : (hLe T0 H0 H1 ∧ hFr s_259v.2.2.2.2 H0 H1 ∧ hWt T0 H1) ∧ ((Ab_259v_83 n12 n11 n10 n9 n8 n7 n6 n5 n4 n3 n2 n1 n13 n0 H0 H1 ∧ Bb_259_83 n12 n11 n10 n9 n8 n7 n6 n5 n4 n3 n2 n1 n13 n0 H0 H1) ∧ preb_259v n12 n11 n10 n9 n8 n7 H0) ∧ some q0 = some (mub_259v_83 n12 n11 n10 n9 n8 n7 n6 n5 n4 n3 n2 n1 n13 n0 H0 H1)) (f25 : n3 ≤ n0) (f26 : (hLe T0 H1 H2 ∧ hFr s_258.2.2.2.2 H1 H2 ∧ ((0 : Int) = 0 → H2.length = H1.length) ∧ hWt T0 H2) ∧ postb_258 n6 n5 H1 H2) (f27 : n14 = 1) : nb_259 n14 n12 n11 n10 n9 n8 n7 H0 H2 := by
  have gb := f24.2.1.1.2
  unfold Bb_259_83 at gb
  obtain ⟨g1, g2, g3, g4⟩ := gb
  have ga := f24.2.1.1.1
  unfold Ab_259v_83 at ga
  obtain ⟨c0, c1, c2, c3, c4, c5, c6, c7, c8, c9, c10⟩ := ga
  unfold nb_259
  refine .inl ⟨g1, ?_⟩
  rw [show hV H2 337 = hV H1 337 from fRow f26.1.2.1 337 (by decide +kernel), g2, show n0 = n9 by omega]
def g_259vw_83_0 : vG := ([(0, [14], [], 1), (1258, [6, 7], [1, 2], 0), (43, [13, 9], [], 0), (5000, [0, 1, 2, 3, 4, 5, 6, 7, 8, 9, 10, 11, 12, 13], [0, 1], 83), (0, [0], [], 285), (90, [1], [], -2147483648), (91, [1], [], 2147483647), (90, [2], [], -2147483648), (91, [2], [], 2147483647), (90, [3], [], -2147483648), (91, [3], [], 2147483647), (90, [4], [], -2147483648), (91, [4], [], 2147483647), (90, [5], [], -2147483648), (91, [5], [], 2147483647), (0, [6], [], 285), (90, [7], [], -2147483648), (91, [7], [], 2147483647), (90, [8], [], -2147483648), (91, [8], [], 2147483647), (90, [9], [], -2147483648), (91, [9], [], 2147483647), (90, [10], [], -2147483648), (91, [10], [], 2147483647), (90, [11], [], -2147483648), (91, [11], [], 2147483647), (90, [13], [], -2147483648), (91, [13], [], 2147483647)], (3000, [14], [2], 124))
theorem c_259vw_83_0 {q0 : Nat} : vOkm T0 (eN e_259v L_259vw A_259v mu_259v n_259 B_259 (some q0)) 6 g_259vw_83_0 := vOk_inI fun ρ η f0 f1 f2 f3 f4 f5 f6 f7 f8 f9 f10 f11 f12 f13 f14 f15 f16 f17 f18 f19 f20 f21 f22 f23 f24 f25 f26 f27 => q_259vw_8 (q0 := q0) (n0 := ρ 13) (n1 := ρ 11) (n2 := ρ 10) (n3 := ρ 9) (n4 := ρ 8) (n5 := ρ 7) (n6 := ρ 6) (n7 := ρ 5) (n8 := ρ 4) (n9 := ρ 3) (n10 := ρ 2) (n11 := ρ 1) (n12 := ρ 0) (n13 := ρ 12) (n14 := ρ 14) (H0 := η 0) (H1 := η 1) (H2 := η 2) f27 f26 f25 f24 f23 f22 f21 f20 f19 f18 f17 f16 f15 f14 f13 f12 f11 f10 f9 f8 f7 f6 f5 f4 f3 f2 f1 f0
theorem q_259vw_9 {q0 : Nat} {n0 n1 n2 n3 n4 n5 n6 n7 n8 n9 n10 n11 n12 n13 n14 n15 n16 n17 n18 n19 n20 n21 : Int} {H0 H1 H2 : gH} (f0 : n0 ≤ 2147483647) (f1 : (-2147483648) ≤ n0) (f2 : n1 ≤ 2147483647) (f3 : (-2147483648) ≤ n1) (f4 : n2 ≤ 2147483647) (f5 : (-2147483648) ≤ n2) (f6 : n3 ≤ 2147483647) (f7 : (-2147483648) ≤ n3) (f8 : n4 ≤ 2147483647) (f9 : (-2147483648) ≤ n4) (f10 : n5 ≤ 2147483647) (f11 : (-2147483648) ≤ n5) (f12 : n6 = 285) (f13 : n7 ≤ 2147483647) (f14 : (-2147483648) ≤ n7) (f15 : n8 ≤ 2147483647) (f16 : (-2147483648) ≤ n8) (f17 : n9 ≤ 2147483647) (f18 : (-2147483648) ≤ n9) (f19 : n10 ≤ 2147483647) (f20 : (-2147483648) ≤ n10) (f21 : n11 ≤ 2147483647) (f22 : (-2147483648) ≤ n11) (f23 : n12 = 285) (f24 : (hLe T0 H0 H1 ∧ hFr s_259v.2.2.2.2 H0 H1 ∧ hWt T0 H1) ∧ ((Ab_259v_83 n12 n11 n10 n9 n8 n7 n6 n5 n4 n3 n2 n1 n13 n0 H0 H1 ∧ Bb_259_83 n12 n11 n10 n9 n8 n7 n6 n5 n4 n3 n2 n1 n13 n0 H0 H1) ∧ preb_259v n12 n11 n10 n9 n8 n7 H0) ∧ some q0 = some (mub_259v_83 n12 n11 n10 n9 n8 n7 n6 n5 n4 n3 n2 n1 n13 n0 H0 H1)) (f25 : n0 < n3) (f26 : n14 = 337) (f27 : hK H1 (n6).toNat = 12) (f28 : n14 = hV H1 (n6).toNat 75) (f29 : n15 = 240) (f30 : n16 = w32 (n15 * n5)) (f31 : n17 = w32 (n16 + n0)) (f32 : n18 = w32 (n0 - n4)) (f33 : n19 = w32 (n18 * n1)) (f34 : n20 = w32 (n2 + n19)) (f35 : hK H1 (n14).toNat = 524) (f36 : hUpd H2 H1 n14 n17 n20) (f37 : n21 = w32 (n0 + 1)) : Bb_259_83 n12 n11 n10 n9 n8 n7 n6 n5 n4 n3 n2 n1 n13 n21 H0 H2 := by
  have gb := f24.2.1.1.2
  unfold Bb_259_83 at gb
  obtain ⟨g1, g2, g3, g4⟩ := gb
  have ga := f24.2.1.1.1
  unfold Ab_259v_83 at ga
  obtain ⟨c0, c1, c2, c3, c4, c5, c6, c7, c8, c9, c10⟩ := ga
  have gw := g1
  unfold WVm at gw
  have wi := wave_in (v := n8) (s := n7) (k := (n0 - n10)) (n := n9 - 1 - n10) (by omega) (by omega) (by omega) (by omega) (by omega) (by omega)
  have ud : n18 = (n0 - n10) := by
    have u := f32
    rw [w32_id (by omega) (by omega)] at u
    omega
  have um : n19 = n7 * (n0 - n10) := by
    have u := f33
    rw [ud, show n1 = n7 by omega] at u
    have c := Int.mul_comm (n0 - n10) n7
    rw [c] at u
    rw [w32_id (by omega) (by omega)] at u
    exact u
  have us : n20 = n8 + n7 * (n0 - n10) := by
    have u := f34
    rw [um, show n2 = n8 by omega] at u
    rw [w32_id (by omega) (by omega)] at u
    exact u
  have u30 := f30
  rw [f29] at u30
  rw [w32_id (by omega) (by omega)] at u30
  have u31 := f31
  rw [w32_id (by omega) (by omega)] at u31
  have u37 := f37
  rw [w32_id (by omega) (by omega)] at u37
  have w := uRowQ f36 337 f26
  rw [g2] at w
  unfold Bb_259_83
  refine ⟨g1, ?_, by omega, by omega⟩
  rw [w, show n21 = n0 + 1 by omega]
  exact wvF_step g3 (by omega) us
def g_259vw_83_1 : vG := ([(10, [21, 13], [], 1), (80, [14, 17, 20], [2, 1], 0), (23, [14], [1], 524), (1, [20, 10, 19], [], 0), (3, [19, 18, 11], [], 0), (2, [18, 13, 8], [], 0), (1, [17, 16, 13], [], 0), (3, [16, 15, 7], [], 0), (0, [15], [], 240), (20, [14, 6], [1], 75), (23, [6], [1], 12), (0, [14], [], 337), (42, [13, 9], [], 0), (5000, [0, 1, 2, 3, 4, 5, 6, 7, 8, 9, 10, 11, 12, 13], [0, 1], 83), (0, [0], [], 285), (90, [1], [], -2147483648), (91, [1], [], 2147483647), (90, [2], [], -2147483648), (91, [2], [], 2147483647), (90, [3], [], -2147483648), (91, [3], [], 2147483647), (90, [4], [], -2147483648), (91, [4], [], 2147483647), (90, [5], [], -2147483648), (91, [5], [], 2147483647), (0, [6], [], 285), (90, [7], [], -2147483648), (91, [7], [], 2147483647), (90, [8], [], -2147483648), (91, [8], [], 2147483647), (90, [9], [], -2147483648), (91, [9], [], 2147483647), (90, [10], [], -2147483648), (91, [10], [], 2147483647), (90, [11], [], -2147483648), (91, [11], [], 2147483647), (90, [13], [], -2147483648), (91, [13], [], 2147483647)], (4000, [6, 7, 8, 9, 10, 11, 12, 21], [2], 83))
theorem c_259vw_83_1 {q0 : Nat} : vOkm T0 (eN e_259v L_259vw A_259v mu_259v n_259 B_259 (some q0)) 6 g_259vw_83_1 := vOk_inI fun ρ η f0 f1 f2 f3 f4 f5 f6 f7 f8 f9 f10 f11 f12 f13 f14 f15 f16 f17 f18 f19 f20 f21 f22 f23 f24 f25 f26 f27 f28 f29 f30 f31 f32 f33 f34 f35 f36 f37 => q_259vw_9 (q0 := q0) (n0 := ρ 13) (n1 := ρ 11) (n2 := ρ 10) (n3 := ρ 9) (n4 := ρ 8) (n5 := ρ 7) (n6 := ρ 6) (n7 := ρ 5) (n8 := ρ 4) (n9 := ρ 3) (n10 := ρ 2) (n11 := ρ 1) (n12 := ρ 0) (n13 := ρ 12) (n14 := ρ 14) (n15 := ρ 15) (n16 := ρ 16) (n17 := ρ 17) (n18 := ρ 18) (n19 := ρ 19) (n20 := ρ 20) (n21 := ρ 21) (H0 := η 0) (H1 := η 1) (H2 := η 2) f37 f36 f35 f34 f33 f32 f31 f30 f29 f28 f27 f26 f25 f24 f23 f22 f21 f20 f19 f18 f17 f16 f15 f14 f13 f12 f11 f10 f9 f8 f7 f6 f5 f4 f3 f2 f1 f0
def p_259vw_83 : List vG := [g_259vw_83_0,
  g_259vw_83_1]
theorem r_259vw_83 : vCovBO (eRc e_259v L_259v cs_259v 2000 (83, [(0, (3, 12, 285, 0)), (1, (0, -2147483648, 2147483647, 0)), (2, (0, -2147483648, 2147483647, 0)), (3, (0, -2147483648, 2147483647, 0)), (4, (0, -2147483648, 2147483647, 0)), (5, (0, -2147483648, 2147483647, 0)), (6, (1, 0, 0, 0)), (8, (0, -2147483648, 2147483647, 0))])) p_259vw_83 = true := by decide +kernel
theorem m_259vw (d : Nat) : eC e_259vw (d + 3) := eC_ref (e := e_259v) (L := L_259v) (L' := L_259vw) (cs := cs_259v) (n := 2000) (d := d + 2) (A := A_259v) (μ := mu_259v) (tp := false) (p0 := p_259v_s) (p1 := p_259vw_s) (N := n_259) (B := B_259) rfl ⟨m_251 (d + 1), ⟨m_257v d, ⟨m_258 (d + 1), trivial⟩⟩⟩ rfl (.inl rfl) (by decide +kernel) (fun z => nomatch z) r_259v_s (allC c_259v_s_0 (allC c_259v_s_1 (allC c_259v_s_2 (allC c_259v_s_3 (allC c_259v_s_4 (allC c_259v_s_5 (allC c_259v_s_6 (allC c_259v_s_7 (allC c_259v_s_8 allN))))))))) (allC (.inl ⟨p_259v_83, r_259v_83, fun q0 => (allC c_259v_83_0 (allC c_259v_83_1 (allC c_259v_83_2 (allC c_259v_83_3 (allC c_259v_83_4 (allC c_259v_83_5 allN))))))⟩) allN) (sub0 (sub0 (sub0 trivial))) r_259vw_s (allC c_259vw_s_0 (allC c_259vw_s_1 (allC c_259vw_s_2 (allC c_259vw_s_3 (allC c_259vw_s_4 (allC c_259vw_s_5 (allC c_259vw_s_6 (allC c_259vw_s_7 allN)))))))) (allC ⟨p_259vw_83, r_259vw_83, fun q0 => (allC c_259vw_83_0 (allC c_259vw_83_1 allN))⟩ allN)
/- MixStageModel.makes (III)I, more fully -/
def nb_283 (r a0 a1 a2 a3 : Int) (h0 h : gH) : Prop := hV h0 328 ((a1).toNat) = 6 ∧ 0 ≤ a1 ∧ a1 < hV h0 285 64 ∧ KSp (hV h0 337) (hV h 337) a1
def n_283 : List Int → gH → gH → Prop := fun xs h0 h => match xs with
  | [r, a0, a1, a2, a3] => nb_283 r a0 a1 a2 a3 h0 h
  | _ => True
noncomputable def e_283vw : vE := eV e_283v n_283
noncomputable def L_283vw : List vE := [e_248, e_258, e_274]
def Bb_283_11 (a0 a1 a2 a3 x0 x1 x2 x3 x4 x5 : Int) (h0 h : gH) : Prop := (hV h 337) = (hV h0 337)
def Bb_283_85 (a0 a1 a2 a3 x0 x1 x2 x3 x4 x5 : Int) (h0 h : gH) : Prop := KSp (hV h0 337) (hV h 337) a1
def Bb_283_114 (a0 a1 a2 a3 x0 x1 x2 x3 x4 x5 x6 x7 : Int) (h0 h : gH) : Prop := KSp (hV h0 337) (hV h 337) a1
def B_283 : Int → List Int → gH → gH → Prop := fun c xs h0 h => match c.toNat with
  | 11 => (match xs with
    | [a0, a1, a2, a3, x0, x1, x2, x3, x4, x5] => Bb_283_11 a0 a1 a2 a3 x0 x1 x2 x3 x4 x5 h0 h
    | _ => False)
  | 85 => (match xs with
    | [a0, a1, a2, a3, x0, x1, x2, x3, x4, x5] => Bb_283_85 a0 a1 a2 a3 x0 x1 x2 x3 x4 x5 h0 h
    | _ => False)
  | 114 => (match xs with
    | [a0, a1, a2, a3, x0, x1, x2, x3, x4, x5, x6, x7] => Bb_283_114 a0 a1 a2 a3 x0 x1 x2 x3 x4 x5 x6 x7 h0 h
    | _ => False)
  | _ => True
theorem q_283vw_0 {n0 n1 n2 n3 n4 n5 : Int} {H0 H1 : gH} (f0 : n0 ≤ 5) (f1 : 0 ≤ n0) (f2 : n1 ≤ 7) (f3 : 0 ≤ n1) (f4 : n2 ≤ 19) (f5 : 0 ≤ n2) (f6 : n3 = 285) (f7 : hWt T0 H0 ∧ preb_283v n3 n2 n1 n0 H0) (f8 : (hLe T0 H0 H1 ∧ hFr s_274.2.2.2.2 H0 H1 ∧ ((0 : Int) = 0 → H1.length = H0.length) ∧ hWt T0 H1) ∧ postb_274 n3 n1 H0 H1) (f9 : n4 = 0) (f10 : n5 = 0) : Bb_283_11 n3 n2 n1 n0 n3 n2 n1 n0 n4 n5 H0 H1 := by
  unfold Bb_283_11
  exact fRow f8.1.2.1 337 (by decide +kernel)
def g_283vw_s_0 : vG := ([(0, [5], [], 0), (0, [4], [], 0), (1274, [0, 2], [0, 1], 0), (6000, [0, 1, 2, 3], [0], 0), (0, [0], [], 285), (90, [1], [], 0), (91, [1], [], 19), (90, [2], [], 0), (91, [2], [], 7), (90, [3], [], 0), (91, [3], [], 5)], (4000, [0, 1, 2, 3, 4, 5], [1], 11))
theorem c_283vw_s_0 : vOkm T0 (eN e_283v L_283vw A_283v mu_283v n_283 B_283 none) 4 g_283vw_s_0 := vOk_inI fun ρ η f0 f1 f2 f3 f4 f5 f6 f7 f8 f9 f10 => q_283vw_0 (n0 := ρ 3) (n1 := ρ 2) (n2 := ρ 1) (n3 := ρ 0) (n4 := ρ 4) (n5 := ρ 5) (H0 := η 0) (H1 := η 1) f10 f9 f8 f7 f6 f5 f4 f3 f2 f1 f0
def p_283vw_s : List vG := [g_283vw_s_0]
theorem r_283vw_s : vCovBO (eR0 e_283v L_283v cs_283v 2000) p_283vw_s = true := by decide +kernel
theorem q_283vw_1 {q0 : Nat} {n0 n1 n2 n3 n4 n5 n6 n7 n8 n9 n10 n11 : Int} {H0 H1 : gH} (f0 : n0 ≤ 40) (f1 : 0 ≤ n0) (f2 : n1 ≤ 2147483647) (f3 : 0 ≤ n1) (f4 : n2 ≤ 5) (f5 : 0 ≤ n2) (f6 : n3 ≤ 7) (f7 : 0 ≤ n3) (f8 : n4 ≤ 19) (f9 : 0 ≤ n4) (f10 : n5 = 285) (f11 : n6 ≤ 5) (f12 : 0 ≤ n6) (f13 : n7 ≤ 7) (f14 : 0 ≤ n7) (f15 : n8 ≤ 19) (f16 : 0 ≤ n8) (f17 : n9 = 285) (f18 : (hLe T0 H0 H1 ∧ hFr s_283v.2.2.2.2 H0 H1 ∧ hWt T0 H1) ∧ ((Ab_283v_11 n9 n8 n7 n6 n5 n4 n3 n2 n1 n0 H0 H1 ∧ Bb_283_11 n9 n8 n7 n6 n5 n4 n3 n2 n1 n0 H0 H1) ∧ preb_283v n9 n8 n7 n6 H0) ∧ some q0 = some (mub_283v_11 n9 n8 n7 n6 n5 n4 n3 n2 n1 n0 H0 H1)) (f19 : n10 ≤ 40) (f20 : 0 ≤ n10) (f21 : hK H1 (n5).toNat = 12) (f22 : n10 = hV H1 (n5).toNat 82) (f23 : n10 ≤ n0) (f24 : n11 = 0) : Bb_283_85 n9 n8 n7 n6 n5 n4 n3 n2 n1 n11 H0 H1 := by
  have gb := f18.2.1.1.2
  unfold Bb_283_11 at gb
  unfold Bb_283_85
  rw [gb]
  exact fun _ _ => rfl
def g_283vw_11_0 : vG := ([(0, [11], [], 0), (43, [9, 10], [], 0), (20, [10, 4], [1], 82), (23, [4], [1], 12), (90, [10], [], 0), (91, [10], [], 40), (5000, [0, 1, 2, 3, 4, 5, 6, 7, 8, 9], [0, 1], 11), (0, [0], [], 285), (90, [1], [], 0), (91, [1], [], 19), (90, [2], [], 0), (91, [2], [], 7), (90, [3], [], 0), (91, [3], [], 5), (0, [4], [], 285), (90, [5], [], 0), (91, [5], [], 19), (90, [6], [], 0), (91, [6], [], 7), (90, [7], [], 0), (91, [7], [], 5), (90, [8], [], 0), (91, [8], [], 2147483647), (90, [9], [], 0), (91, [9], [], 40)], (4000, [4, 5, 6, 7, 8, 11], [1], 85))
theorem c_283vw_11_0 {q0 : Nat} : vOkm T0 (eN e_283v L_283vw A_283v mu_283v n_283 B_283 (some q0)) 4 g_283vw_11_0 := vOk_inI fun ρ η f0 f1 f2 f3 f4 f5 f6 f7 f8 f9 f10 f11 f12 f13 f14 f15 f16 f17 f18 f19 f20 f21 f22 f23 f24 => q_283vw_1 (q0 := q0) (n0 := ρ 9) (n1 := ρ 8) (n2 := ρ 7) (n3 := ρ 6) (n4 := ρ 5) (n5 := ρ 4) (n6 := ρ 3) (n7 := ρ 2) (n8 := ρ 1) (n9 := ρ 0) (n10 := ρ 10) (n11 := ρ 11) (H0 := η 0) (H1 := η 1) f24 f23 f22 f21 f20 f19 f18 f17 f16 f15 f14 f13 f12 f11 f10 f9 f8 f7 f6 f5 f4 f3 f2 f1 f0
theorem q_283vw_2 {q0 : Nat} {n0 n1 n2 n3 n4 n5 n6 n7 n8 n9 n10 n11 n12 n13 n14 n15 : Int} {H0 H1 : gH} (f0 : n0 ≤ 40) (f1 : 0 ≤ n0) (f2 : n1 ≤ 2147483647) (f3 : 0 ≤ n1) (f4 : n2 ≤ 5) (f5 : 0 ≤ n2) (f6 : n3 ≤ 7) (f7 : 0 ≤ n3) (f8 : n4 ≤ 19) (f9 : 0 ≤ n4) (f10 : n5 = 285) (f11 : n6 ≤ 5) (f12 : 0 ≤ n6) (f13 : n7 ≤ 7) (f14 : 0 ≤ n7) (f15 : n8 ≤ 19) (f16 : 0 ≤ n8) (f17 : n9 = 285) (f18 : (hLe T0 H0 H1 ∧ hFr s_283v.2.2.2.2 H0 H1 ∧ hWt T0 H1) ∧ ((Ab_283v_11 n9 n8 n7 n6 n5 n4 n3 n2 n1 n0 H0 H1 ∧ Bb_283_11 n9 n8 n7 n6 n5 n4 n3 n2 n1 n0 H0 H1) ∧ preb_283v n9 n8 n7 n6 H0) ∧ some q0 = some (mub_283v_11 n9 n8 n7 n6 n5 n4 n3 n2 n1 n0 H0 H1)) (f19 : n10 ≤ 40) (f20 : 0 ≤ n10) (f21 : hK H1 (n5).toNat = 12) (f22 : n10 = hV H1 (n5).toNat 82) (f23 : n0 < n10) (f24 : n11 = 298) (f25 : hK H1 (n5).toNat = 12) (f26 : n11 = hV H1 (n5).toNat 24) (f27 : n12 = 344) (f28 : hK H1 (n5).toNat = 12) (f29 : n12 = hV H1 (n5).toNat 83) (f30 : n13 ≤ 1007) (f31 : 0 ≤ n13) (f32 : n13 = hV H1 (n12).toNat (n0).toNat) (f33 : n14 ≤ 5) (f34 : 0 ≤ n14) (f35 : n14 = hV H1 (n11).toNat (n13).toNat) (f36 : n14 ≠ 0) (f37 : n15 = w32 (n0 + 1)) : Bb_283_11 n9 n8 n7 n6 n5 n4 n3 n2 n1 n15 H0 H1 := by
  have gb := f18.2.1.1.2
  unfold Bb_283_11 at gb
  unfold Bb_283_11
  exact gb
def g_283vw_11_1 : vG := ([(10, [15, 9], [], 1), (31, [14], [], 0), (22, [14, 11, 13], [1], 0), (90, [14], [], 0), (91, [14], [], 5), (22, [13, 12, 9], [1], 0), (90, [13], [], 0), (91, [13], [], 1007), (20, [12, 4], [1], 83), (23, [4], [1], 12), (0, [12], [], 344), (20, [11, 4], [1], 24), (23, [4], [1], 12), (0, [11], [], 298), (42, [9, 10], [], 0), (20, [10, 4], [1], 82), (23, [4], [1], 12), (90, [10], [], 0), (91, [10], [], 40), (5000, [0, 1, 2, 3, 4, 5, 6, 7, 8, 9], [0, 1], 11), (0, [0], [], 285), (90, [1], [], 0), (91, [1], [], 19), (90, [2], [], 0), (91, [2], [], 7), (90, [3], [], 0), (91, [3], [], 5), (0, [4], [], 285), (90, [5], [], 0), (91, [5], [], 19), (90, [6], [], 0), (91, [6], [], 7), (90, [7], [], 0), (91, [7], [], 5), (90, [8], [], 0), (91, [8], [], 2147483647), (90, [9], [], 0), (91, [9], [], 40)], (4000, [4, 5, 6, 7, 8, 15], [1], 11))
theorem c_283vw_11_1 {q0 : Nat} : vOkm T0 (eN e_283v L_283vw A_283v mu_283v n_283 B_283 (some q0)) 4 g_283vw_11_1 := vOk_inI fun ρ η f0 f1 f2 f3 f4 f5 f6 f7 f8 f9 f10 f11 f12 f13 f14 f15 f16 f17 f18 f19 f20 f21 f22 f23 f24 f25 f26 f27 f28 f29 f30 f31 f32 f33 f34 f35 f36 f37 => q_283vw_2 (q0 := q0) (n0 := ρ 9) (n1 := ρ 8) (n2 := ρ 7) (n3 := ρ 6) (n4 := ρ 5) (n5 := ρ 4) (n6 := ρ 3) (n7 := ρ 2) (n8 := ρ 1) (n9 := ρ 0) (n10 := ρ 10) (n11 := ρ 11) (n12 := ρ 12) (n13 := ρ 13) (n14 := ρ 14) (n15 := ρ 15) (H0 := η 0) (H1 := η 1) f37 f36 f35 f34 f33 f32 f31 f30 f29 f28 f27 f26 f25 f24 f23 f22 f21 f20 f19 f18 f17 f16 f15 f14 f13 f12 f11 f10 f9 f8 f7 f6 f5 f4 f3 f2 f1 f0
theorem q_283vw_3 {q0 : Nat} {n0 n1 n2 n3 n4 n5 n6 n7 n8 n9 n10 n11 n12 n13 n14 n15 n16 n17 n18 n19 n20 n21 : Int} {H0 H1 : gH} (f0 : n0 ≤ 40) (f1 : 0 ≤ n0) (f2 : n1 ≤ 2147483647) (f3 : 0 ≤ n1) (f4 : n2 ≤ 5) (f5 : 0 ≤ n2) (f6 : n3 ≤ 7) (f7 : 0 ≤ n3) (f8 : n4 ≤ 19) (f9 : 0 ≤ n4) (f10 : n5 = 285) (f11 : n6 ≤ 5) (f12 : 0 ≤ n6) (f13 : n7 ≤ 7) (f14 : 0 ≤ n7) (f15 : n8 ≤ 19) (f16 : 0 ≤ n8) (f17 : n9 = 285) (f18 : (hLe T0 H0 H1 ∧ hFr s_283v.2.2.2.2 H0 H1 ∧ hWt T0 H1) ∧ ((Ab_283v_11 n9 n8 n7 n6 n5 n4 n3 n2 n1 n0 H0 H1 ∧ Bb_283_11 n9 n8 n7 n6 n5 n4 n3 n2 n1 n0 H0 H1) ∧ preb_283v n9 n8 n7 n6 H0) ∧ some q0 = some (mub_283v_11 n9 n8 n7 n6 n5 n4 n3 n2 n1 n0 H0 H1)) (f19 : n10 ≤ 40) (f20 : 0 ≤ n10) (f21 : hK H1 (n5).toNat = 12) (f22 : n10 = hV H1 (n5).toNat 82) (f23 : n0 < n10) (f24 : n11 = 298) (f25 : hK H1 (n5).toNat = 12) (f26 : n11 = hV H1 (n5).toNat 24) (f27 : n12 = 344) (f28 : hK H1 (n5).toNat = 12) (f29 : n12 = hV H1 (n5).toNat 83) (f30 : n13 ≤ 1007) (f31 : 0 ≤ n13) (f32 : n13 = hV H1 (n12).toNat (n0).toNat) (f33 : n14 ≤ 5) (f34 : 0 ≤ n14) (f35 : n14 = hV H1 (n11).toNat (n13).toNat) (f36 : n14 = 0) (f37 : n15 = 334) (f38 : hK H1 (n5).toNat = 12) (f39 : n15 = hV H1 (n5).toNat 72) (f40 : n16 = 300) (f41 : hK H1 (n5).toNat = 12) (f42 : n16 = hV H1 (n5).toNat 26) (f43 : n17 = 344) (f44 : hK H1 (n5).toNat = 12) (f45 : n17 = hV H1 (n5).toNat 83) (f46 : n18 ≤ 1007) (f47 : 0 ≤ n18) (f48 : n18 = hV H1 (n17).toNat (n0).toNat) (f49 : n19 ≤ 9999) (f50 : (-1) ≤ n19) (f51 : n19 = hV H1 (n16).toNat (n18).toNat) (f52 : n20 ≤ 2147483647) (f53 : 0 ≤ n20) (f54 : n20 = hV H1 (n15).toNat (n19).toNat) (f55 : n20 ≤ n1) (f56 : n21 = w32 (n0 + 1)) : Bb_283_11 n9 n8 n7 n6 n5 n4 n3 n2 n1 n21 H0 H1 := by
  have gb := f18.2.1.1.2
  unfold Bb_283_11 at gb
  unfold Bb_283_11
  exact gb
def g_283vw_11_2 : vG := ([(10, [21, 9], [], 1), (45, [20, 8], [], 0), (22, [20, 15, 19], [1], 0), (90, [20], [], 0), (91, [20], [], 2147483647), (22, [19, 16, 18], [1], 0), (90, [19], [], -1), (91, [19], [], 9999), (22, [18, 17, 9], [1], 0), (90, [18], [], 0), (91, [18], [], 1007), (20, [17, 4], [1], 83), (23, [4], [1], 12), (0, [17], [], 344), (20, [16, 4], [1], 26), (23, [4], [1], 12), (0, [16], [], 300), (20, [15, 4], [1], 72), (23, [4], [1], 12), (0, [15], [], 334), (30, [14], [], 0), (22, [14, 11, 13], [1], 0), (90, [14], [], 0), (91, [14], [], 5), (22, [13, 12, 9], [1], 0), (90, [13], [], 0), (91, [13], [], 1007), (20, [12, 4], [1], 83), (23, [4], [1], 12), (0, [12], [], 344), (20, [11, 4], [1], 24), (23, [4], [1], 12), (0, [11], [], 298), (42, [9, 10], [], 0), (20, [10, 4], [1], 82), (23, [4], [1], 12), (90, [10], [], 0), (91, [10], [], 40), (5000, [0, 1, 2, 3, 4, 5, 6, 7, 8, 9], [0, 1], 11), (0, [0], [], 285), (90, [1], [], 0), (91, [1], [], 19), (90, [2], [], 0), (91, [2], [], 7), (90, [3], [], 0), (91, [3], [], 5), (0, [4], [], 285), (90, [5], [], 0), (91, [5], [], 19), (90, [6], [], 0), (91, [6], [], 7), (90, [7], [], 0), (91, [7], [], 5), (90, [8], [], 0), (91, [8], [], 2147483647), (90, [9], [], 0), (91, [9], [], 40)], (4000, [4, 5, 6, 7, 8, 21], [1], 11))
theorem c_283vw_11_2 {q0 : Nat} : vOkm T0 (eN e_283v L_283vw A_283v mu_283v n_283 B_283 (some q0)) 4 g_283vw_11_2 := vOk_inI fun ρ η f0 f1 f2 f3 f4 f5 f6 f7 f8 f9 f10 f11 f12 f13 f14 f15 f16 f17 f18 f19 f20 f21 f22 f23 f24 f25 f26 f27 f28 f29 f30 f31 f32 f33 f34 f35 f36 f37 f38 f39 f40 f41 f42 f43 f44 f45 f46 f47 f48 f49 f50 f51 f52 f53 f54 f55 f56 => q_283vw_3 (q0 := q0) (n0 := ρ 9) (n1 := ρ 8) (n2 := ρ 7) (n3 := ρ 6) (n4 := ρ 5) (n5 := ρ 4) (n6 := ρ 3) (n7 := ρ 2) (n8 := ρ 1) (n9 := ρ 0) (n10 := ρ 10) (n11 := ρ 11) (n12 := ρ 12) (n13 := ρ 13) (n14 := ρ 14) (n15 := ρ 15) (n16 := ρ 16) (n17 := ρ 17) (n18 := ρ 18) (n19 := ρ 19) (n20 := ρ 20) (n21 := ρ 21) (H0 := η 0) (H1 := η 1) f56 f55 f54 f53 f52 f51 f50 f49 f48 f47 f46 f45 f44 f43 f42 f41 f40 f39 f38 f37 f36 f35 f34 f33 f32 f31 f30 f29 f28 f27 f26 f25 f24 f23 f22 f21 f20 f19 f18 f17 f16 f15 f14 f13 f12 f11 f10 f9 f8 f7 f6 f5 f4 f3 f2 f1 f0
theorem q_283vw_4 {q0 : Nat} {n0 n1 n2 n3 n4 n5 n6 n7 n8 n9 n10 n11 n12 n13 n14 n15 n16 n17 n18 n19 n20 n21 n22 n23 n24 n25 n26 n27 : Int} {H0 H1 : gH} (f0 : n0 ≤ 40) (f1 : 0 ≤ n0) (f2 : n1 ≤ 2147483647) (f3 : 0 ≤ n1) (f4 : n2 ≤ 5) (f5 : 0 ≤ n2) (f6 : n3 ≤ 7) (f7 : 0 ≤ n3) (f8 : n4 ≤ 19) (f9 : 0 ≤ n4) (f10 : n5 = 285) (f11 : n6 ≤ 5) (f12 : 0 ≤ n6) (f13 : n7 ≤ 7) (f14 : 0 ≤ n7) (f15 : n8 ≤ 19) (f16 : 0 ≤ n8) (f17 : n9 = 285) (f18 : (hLe T0 H0 H1 ∧ hFr s_283v.2.2.2.2 H0 H1 ∧ hWt T0 H1) ∧ ((Ab_283v_11 n9 n8 n7 n6 n5 n4 n3 n2 n1 n0 H0 H1 ∧ Bb_283_11 n9 n8 n7 n6 n5 n4 n3 n2 n1 n0 H0 H1) ∧ preb_283v n9 n8 n7 n6 H0) ∧ some q0 = some (mub_283v_11 n9 n8 n7 n6 n5 n4 n3 n2 n1 n0 H0 H1)) (f19 : n10 ≤ 40) (f20 : 0 ≤ n10) (f21 : hK H1 (n5).toNat = 12) (f22 : n10 = hV H1 (n5).toNat 82) (f23 : n0 < n10) (f24 : n11 = 298) (f25 : hK H1 (n5).toNat = 12) (f26 : n11 = hV H1 (n5).toNat 24) (f27 : n12 = 344) (f28 : hK H1 (n5).toNat = 12) (f29 : n12 = hV H1 (n5).toNat 83) (f30 : n13 ≤ 1007) (f31 : 0 ≤ n13) (f32 : n13 = hV H1 (n12).toNat (n0).toNat) (f33 : n14 ≤ 5) (f34 : 0 ≤ n14) (f35 : n14 = hV H1 (n11).toNat (n13).toNat) (f36 : n14 = 0) (f37 : n15 = 334) (f38 : hK H1 (n5).toNat = 12) (f39 : n15 = hV H1 (n5).toNat 72) (f40 : n16 = 300) (f41 : hK H1 (n5).toNat = 12) (f42 : n16 = hV H1 (n5).toNat 26) (f43 : n17 = 344) (f44 : hK H1 (n5).toNat = 12) (f45 : n17 = hV H1 (n5).toNat 83) (f46 : n18 ≤ 1007) (f47 : 0 ≤ n18) (f48 : n18 = hV H1 (n17).toNat (n0).toNat) (f49 : n19 ≤ 9999) (f50 : (-1) ≤ n19) (f51 : n19 = hV H1 (n16).toNat (n18).toNat) (f52 : n20 ≤ 2147483647) (f53 : 0 ≤ n20) (f54 : n20 = hV H1 (n15).toNat (n19).toNat) (f55 : n1 < n20) (f56 : n21 = 334) (f57 : hK H1 (n5).toNat = 12) (f58 : n21 = hV H1 (n5).toNat 72) (f59 : n22 = 300) (f60 : hK H1 (n5).toNat = 12) (f61 : n22 = hV H1 (n5).toNat 26) (f62 : n23 = 344) (f63 : hK H1 (n5).toNat = 12) (f64 : n23 = hV H1 (n5).toNat 83) (f65 : n24 ≤ 1007) (f66 : 0 ≤ n24) (f67 : n24 = hV H1 (n23).toNat (n0).toNat) (f68 : n25 ≤ 9999) (f69 : (-1) ≤ n25) (f70 : n25 = hV H1 (n22).toNat (n24).toNat) (f71 : n26 ≤ 2147483647) (f72 : 0 ≤ n26) (f73 : n26 = hV H1 (n21).toNat (n25).toNat) (f74 : n27 = w32 (n0 + 1)) : Bb_283_11 n9 n8 n7 n6 n5 n4 n3 n2 n26 n27 H0 H1 := by
  have gb := f18.2.1.1.2
  unfold Bb_283_11 at gb
  unfold Bb_283_11
  exact gb
def g_283vw_11_3 : vG := ([(10, [27, 9], [], 1), (22, [26, 21, 25], [1], 0), (90, [26], [], 0), (91, [26], [], 2147483647), (22, [25, 22, 24], [1], 0), (90, [25], [], -1), (91, [25], [], 9999), (22, [24, 23, 9], [1], 0), (90, [24], [], 0), (91, [24], [], 1007), (20, [23, 4], [1], 83), (23, [4], [1], 12), (0, [23], [], 344), (20, [22, 4], [1], 26), (23, [4], [1], 12), (0, [22], [], 300), (20, [21, 4], [1], 72), (23, [4], [1], 12), (0, [21], [], 334), (44, [20, 8], [], 0), (22, [20, 15, 19], [1], 0), (90, [20], [], 0), (91, [20], [], 2147483647), (22, [19, 16, 18], [1], 0), (90, [19], [], -1), (91, [19], [], 9999), (22, [18, 17, 9], [1], 0), (90, [18], [], 0), (91, [18], [], 1007), (20, [17, 4], [1], 83), (23, [4], [1], 12), (0, [17], [], 344), (20, [16, 4], [1], 26), (23, [4], [1], 12), (0, [16], [], 300), (20, [15, 4], [1], 72), (23, [4], [1], 12), (0, [15], [], 334), (30, [14], [], 0), (22, [14, 11, 13], [1], 0), (90, [14], [], 0), (91, [14], [], 5), (22, [13, 12, 9], [1], 0), (90, [13], [], 0), (91, [13], [], 1007), (20, [12, 4], [1], 83), (23, [4], [1], 12), (0, [12], [], 344), (20, [11, 4], [1], 24), (23, [4], [1], 12), (0, [11], [], 298), (42, [9, 10], [], 0), (20, [10, 4], [1], 82), (23, [4], [1], 12), (90, [10], [], 0), (91, [10], [], 40), (5000, [0, 1, 2, 3, 4, 5, 6, 7, 8, 9], [0, 1], 11), (0, [0], [], 285), (90, [1], [], 0), (91, [1], [], 19), (90, [2], [], 0), (91, [2], [], 7), (90, [3], [], 0), (91, [3], [], 5), (0, [4], [], 285), (90, [5], [], 0), (91, [5], [], 19), (90, [6], [], 0), (91, [6], [], 7), (90, [7], [], 0), (91, [7], [], 5), (90, [8], [], 0), (91, [8], [], 2147483647), (90, [9], [], 0), (91, [9], [], 40)], (4000, [4, 5, 6, 7, 26, 27], [1], 11))
theorem c_283vw_11_3 {q0 : Nat} : vOkm T0 (eN e_283v L_283vw A_283v mu_283v n_283 B_283 (some q0)) 4 g_283vw_11_3 := vOk_inI fun ρ η f0 f1 f2 f3 f4 f5 f6 f7 f8 f9 f10 f11 f12 f13 f14 f15 f16 f17 f18 f19 f20 f21 f22 f23 f24 f25 f26 f27 f28 f29 f30 f31 f32 f33 f34 f35 f36 f37 f38 f39 f40 f41 f42 f43 f44 f45 f46 f47 f48 f49 f50 f51 f52 f53 f54 f55 f56 f57 f58 f59 f60 f61 f62 f63 f64 f65 f66 f67 f68 f69 f70 f71 f72 f73 f74 => q_283vw_4 (q0 := q0) (n0 := ρ 9) (n1 := ρ 8) (n2 := ρ 7) (n3 := ρ 6) (n4 := ρ 5) (n5 := ρ 4) (n6 := ρ 3) (n7 := ρ 2) (n8 := ρ 1) (n9 := ρ 0) (n10 := ρ 10) (n11 := ρ 11) (n12 := ρ 12) (n13 := ρ 13) (n14 := ρ 14) (n15 := ρ 15) (n16 := ρ 16) (n17 := ρ 17) (n18 := ρ 18) (n19 := ρ 19) (n20 := ρ 20) (n21 := ρ 21) (n22 := ρ 22) (n23 := ρ 23) (n24 := ρ 24) (n25 := ρ 25) (n26 := ρ 26) (n27 := ρ 27) (H0 := η 0) (H1 := η 1) f74 f73 f72 f71 f70 f69 f68 f67 f66 f65 f64 f63 f62 f61 f60 f59 f58 f57 f56 f55 f54 f53 f52 f51 f50 f49 f48 f47 f46 f45 f44 f43 f42 f41 f40 f39 f38 f37 f36 f35 f34 f33 f32 f31 f30 f29 f28 f27 f26 f25 f24 f23 f22 f21 f20 f19 f18 f17 f16 f15 f14 f13 f12 f11 f10 f9 f8 f7 f6 f5 f4 f3 f2 f1 f0
def p_283vw_11 : List vG := [g_283vw_11_0,
  g_283vw_11_1,
  g_283vw_11_2,
  g_283vw_11_3]
theorem r_283vw_11 : vCovBO (eRc e_283v L_283v cs_283v 2000 (11, [(0, (3, 12, 285, 0)), (1, (0, 0, 19, 0)), (2, (0, 0, 7, 0)), (3, (0, 0, 5, 0)), (4, (0, 0, 2147483647, 0)), (5, (0, 0, 40, 0))])) p_283vw_11 = true := by decide +kernel
theorem q_283vw_5 {q0 : Nat} {n0 n1 n2 n3 n4 n5 n6 n7 n8 n9 n10 n11 n12 n13 n14 n15 n16 n17 n18 n19 n20 n21 n22 n23 : Int} {H0 H1 H2 H3 H4 H5 H6 : gH} (f0 : n0 ≤ 60) (f1 : 0 ≤ n0) (f2 : n1 ≤ 2147483647) (f3 : 0 ≤ n1) (f4 : n2 ≤ 5) (f5 : 0 ≤ n2) (f6 : n3 ≤ 7) (f7 : 0 ≤ n3) (f8 : n4 ≤ 19) (f9 : 0 ≤ n4) (f10 : n5 = 285) (f11 : n6 ≤ 5) (f12 : 0 ≤ n6) (f13 : n7 ≤ 7) (f14 : 0 ≤ n7) (f15 : n8 ≤ 19) (f16 : 0 ≤ n8) (f17 : n9 = 285) (f18 : (hLe T0 H0 H1 ∧ hFr s_283v.2.2.2.2 H0 H1 ∧ hWt T0 H1) ∧ ((Ab_283v_85 n9 n8 n7 n6 n5 n4 n3 n2 n1 n0 H0 H1 ∧ Bb_283_85 n9 n8 n7 n6 n5 n4 n3 n2 n1 n0 H0 H1) ∧ preb_283v n9 n8 n7 n6 H0) ∧ some q0 = some (mub_283v_85 n9 n8 n7 n6 n5 n4 n3 n2 n1 n0 H0 H1)) (f19 : n10 = 325) (f20 : hK H1 (n5).toNat = 12) (f21 : n10 = hV H1 (n5).toNat 61) (f22 : n11 ≤ 60) (f23 : 0 ≤ n11) (f24 : n11 = hV H1 (n10).toNat (n2).toNat) (f25 : n11 ≤ n0) (f26 : n12 = 329) (f27 : hK H1 (n5).toNat = 12) (f28 : n12 = hV H1 (n5).toNat 67) (f29 : n13 = 4) (f30 : n14 = 325) (f31 : hK H1 (n5).toNat = 12) (f32 : n14 = hV H1 (n5).toNat 61) (f33 : n15 ≤ 60) (f34 : 0 ≤ n15) (f35 : n15 = hV H1 (n14).toNat (n2).toNat) (f36 : n16 = w32 (n13 * n15)) (f37 : hK H1 (n12).toNat = 460) (f38 : hUpd H2 H1 n12 n4 n16) (f39 : n17 = 334) (f40 : hK H2 (n5).toNat = 12) (f41 : n17 = hV H2 (n5).toNat 72) (f42 : n18 = 1) (f43 : n19 = w32 (n1 + n18)) (f44 : hK H2 (n17).toNat = 500) (f45 : hUpd H3 H2 n17 n4 n19) (f46 : n20 = 335) (f47 : hK H3 (n5).toNat = 12) (f48 : n20 = hV H3 (n5).toNat 73) (f49 : hK H3 (n20).toNat = 508) (f50 : hUpd H4 H3 n20 n4 n3) (f51 : n21 = 336) (f52 : hK H4 (n5).toNat = 12) (f53 : n21 = hV H4 (n5).toNat 74) (f54 : hK H4 (n21).toNat = 516) (f55 : hUpd H5 H4 n21 n4 n2) (f56 : (hLe T0 H5 H6 ∧ hFr s_258.2.2.2.2 H5 H6 ∧ ((0 : Int) = 0 → H6.length = H5.length) ∧ hWt T0 H6) ∧ postb_258 n5 n4 H5 H6) (f57 : n22 = 333) (f58 : hK H6 (n5).toNat = 12) (f59 : n22 = hV H6 (n5).toNat 71) (f60 : n23 ≤ 2147483647) (f61 : 0 ≤ n23) (f62 : n23 = hV H6 (n22).toNat (n4).toNat) : nb_283 n23 n9 n8 n7 n6 H0 H6 := by
  have gb := f18.2.1.1.2
  unfold Bb_283_85 at gb
  have pz := f18.2.1.2
  unfold preb_283v at pz
  unfold nb_283
  refine ⟨pz.2.1, by omega, pz.1, ?_⟩
  rw [show hV H6 337 = hV H1 337 from (fRow f56.1.2.1 337 (by decide +kernel)).trans ((uRowNe f55 337 (by rw [f51]; decide)).trans ((uRowNe f50 337 (by rw [f46]; decide)).trans ((uRowNe f45 337 (by rw [f39]; decide)).trans (uRowNe f38 337 (by rw [f26]; decide)))))]
  exact gb
def g_283vw_85_0 : vG := ([(22, [23, 22, 5], [6], 0), (90, [23], [], 0), (91, [23], [], 2147483647), (20, [22, 4], [6], 71), (23, [4], [6], 12), (0, [22], [], 333), (1258, [4, 5], [5, 6], 0), (80, [21, 5, 7], [5, 4], 0), (23, [21], [4], 516), (20, [21, 4], [4], 74), (23, [4], [4], 12), (0, [21], [], 336), (80, [20, 5, 6], [4, 3], 0), (23, [20], [3], 508), (20, [20, 4], [3], 73), (23, [4], [3], 12), (0, [20], [], 335), (80, [17, 5, 19], [3, 2], 0), (23, [17], [2], 500), (1, [19, 8, 18], [], 0), (0, [18], [], 1), (20, [17, 4], [2], 72), (23, [4], [2], 12), (0, [17], [], 334), (80, [12, 5, 16], [2, 1], 0), (23, [12], [1], 460), (3, [16, 13, 15], [], 0), (22, [15, 14, 7], [1], 0), (90, [15], [], 0), (91, [15], [], 60), (20, [14, 4], [1], 61), (23, [4], [1], 12), (0, [14], [], 325), (0, [13], [], 4), (20, [12, 4], [1], 67), (23, [4], [1], 12), (0, [12], [], 329), (43, [9, 11], [], 0), (22, [11, 10, 7], [1], 0), (90, [11], [], 0), (91, [11], [], 60), (20, [10, 4], [1], 61), (23, [4], [1], 12), (0, [10], [], 325), (5000, [0, 1, 2, 3, 4, 5, 6, 7, 8, 9], [0, 1], 85), (0, [0], [], 285), (90, [1], [], 0), (91, [1], [], 19), (90, [2], [], 0), (91, [2], [], 7), (90, [3], [], 0), (91, [3], [], 5), (0, [4], [], 285), (90, [5], [], 0), (91, [5], [], 19), (90, [6], [], 0), (91, [6], [], 7), (90, [7], [], 0), (91, [7], [], 5), (90, [8], [], 0), (91, [8], [], 2147483647), (90, [9], [], 0), (91, [9], [], 60)], (3000, [23], [6], 221))
theorem c_283vw_85_0 {q0 : Nat} : vOkm T0 (eN e_283v L_283vw A_283v mu_283v n_283 B_283 (some q0)) 4 g_283vw_85_0 := vOk_inI fun ρ η f0 f1 f2 f3 f4 f5 f6 f7 f8 f9 f10 f11 f12 f13 f14 f15 f16 f17 f18 f19 f20 f21 f22 f23 f24 f25 f26 f27 f28 f29 f30 f31 f32 f33 f34 f35 f36 f37 f38 f39 f40 f41 f42 f43 f44 f45 f46 f47 f48 f49 f50 f51 f52 f53 f54 f55 f56 f57 f58 f59 f60 f61 f62 => q_283vw_5 (q0 := q0) (n0 := ρ 9) (n1 := ρ 8) (n2 := ρ 7) (n3 := ρ 6) (n4 := ρ 5) (n5 := ρ 4) (n6 := ρ 3) (n7 := ρ 2) (n8 := ρ 1) (n9 := ρ 0) (n10 := ρ 10) (n11 := ρ 11) (n12 := ρ 12) (n13 := ρ 13) (n14 := ρ 14) (n15 := ρ 15) (n16 := ρ 16) (n17 := ρ 17) (n18 := ρ 18) (n19 := ρ 19) (n20 := ρ 20) (n21 := ρ 21) (n22 := ρ 22) (n23 := ρ 23) (H0 := η 0) (H1 := η 1) (H2 := η 2) (H3 := η 3) (H4 := η 4) (H5 := η 5) (H6 := η 6) f62 f61 f60 f59 f58 f57 f56 f55 f54 f53 f52 f51 f50 f49 f48 f47 f46 f45 f44 f43 f42 f41 f40 f39 f38 f37 f36 f35 f34 f33 f32 f31 f30 f29 f28 f27 f26 f25 f24 f23 f22 f21 f20 f19 f18 f17 f16 f15 f14 f13 f12 f11 f10 f9 f8 f7 f6 f5 f4 f3 f2 f1 f0
theorem q_283vw_6 {q0 : Nat} {n0 n1 n2 n3 n4 n5 n6 n7 n8 n9 n10 n11 n12 n13 n14 n15 : Int} {H0 H1 H2 : gH} (f0 : n0 ≤ 60) (f1 : 0 ≤ n0) (f2 : n1 ≤ 2147483647) (f3 : 0 ≤ n1) (f4 : n2 ≤ 5) (f5 : 0 ≤ n2) (f6 : n3 ≤ 7) (f7 : 0 ≤ n3) (f8 : n4 ≤ 19) (f9 : 0 ≤ n4) (f10 : n5 = 285) (f11 : n6 ≤ 5) (f12 : 0 ≤ n6) (f13 : n7 ≤ 7) (f14 : 0 ≤ n7) (f15 : n8 ≤ 19) (f16 : 0 ≤ n8) (f17 : n9 = 285) (f18 : (hLe T0 H0 H1 ∧ hFr s_283v.2.2.2.2 H0 H1 ∧ hWt T0 H1) ∧ ((Ab_283v_85 n9 n8 n7 n6 n5 n4 n3 n2 n1 n0 H0 H1 ∧ Bb_283_85 n9 n8 n7 n6 n5 n4 n3 n2 n1 n0 H0 H1) ∧ preb_283v n9 n8 n7 n6 H0) ∧ some q0 = some (mub_283v_85 n9 n8 n7 n6 n5 n4 n3 n2 n1 n0 H0 H1)) (f19 : n10 = 325) (f20 : hK H1 (n5).toNat = 12) (f21 : n10 = hV H1 (n5).toNat 61) (f22 : n11 ≤ 60) (f23 : 0 ≤ n11) (f24 : n11 = hV H1 (n10).toNat (n2).toNat) (f25 : n0 < n11) (f26 : n12 = 293) (f27 : hK H1 (n5).toNat = 12) (f28 : n12 = hV H1 (n5).toNat 19) (f29 : n13 ≤ 5) (f30 : 0 ≤ n13) (f31 : n13 = hV H1 (n12).toNat (n3).toNat) (f32 : n14 ≤ 59) (f33 : (-1) ≤ n14) (f34 : (hLe T0 H1 H2 ∧ hFr s_248.2.2.2.2 H1 H2 ∧ ((0 : Int) = 0 → H2.length = H1.length) ∧ hWt T0 H2) ∧ True) (f35 : n15 = 0) : Bb_283_114 n9 n8 n7 n6 n5 n4 n3 n2 n1 n0 n14 n15 H0 H2 := by
  have gb := f18.2.1.1.2
  unfold Bb_283_85 at gb
  unfold Bb_283_114
  rw [show hV H2 337 = hV H1 337 from fRow f34.1.2.1 337 (by decide +kernel)]
  exact gb
def g_283vw_85_1 : vG := ([(0, [15], [], 0), (1248, [14, 4, 7, 9, 13], [1, 2], 0), (90, [14], [], -1), (91, [14], [], 59), (22, [13, 12, 6], [1], 0), (90, [13], [], 0), (91, [13], [], 5), (20, [12, 4], [1], 19), (23, [4], [1], 12), (0, [12], [], 293), (42, [9, 11], [], 0), (22, [11, 10, 7], [1], 0), (90, [11], [], 0), (91, [11], [], 60), (20, [10, 4], [1], 61), (23, [4], [1], 12), (0, [10], [], 325), (5000, [0, 1, 2, 3, 4, 5, 6, 7, 8, 9], [0, 1], 85), (0, [0], [], 285), (90, [1], [], 0), (91, [1], [], 19), (90, [2], [], 0), (91, [2], [], 7), (90, [3], [], 0), (91, [3], [], 5), (0, [4], [], 285), (90, [5], [], 0), (91, [5], [], 19), (90, [6], [], 0), (91, [6], [], 7), (90, [7], [], 0), (91, [7], [], 5), (90, [8], [], 0), (91, [8], [], 2147483647), (90, [9], [], 0), (91, [9], [], 60)], (4000, [4, 5, 6, 7, 8, 9, 14, 15], [2], 114))
theorem c_283vw_85_1 {q0 : Nat} : vOkm T0 (eN e_283v L_283vw A_283v mu_283v n_283 B_283 (some q0)) 4 g_283vw_85_1 := vOk_inI fun ρ η f0 f1 f2 f3 f4 f5 f6 f7 f8 f9 f10 f11 f12 f13 f14 f15 f16 f17 f18 f19 f20 f21 f22 f23 f24 f25 f26 f27 f28 f29 f30 f31 f32 f33 f34 f35 => q_283vw_6 (q0 := q0) (n0 := ρ 9) (n1 := ρ 8) (n2 := ρ 7) (n3 := ρ 6) (n4 := ρ 5) (n5 := ρ 4) (n6 := ρ 3) (n7 := ρ 2) (n8 := ρ 1) (n9 := ρ 0) (n10 := ρ 10) (n11 := ρ 11) (n12 := ρ 12) (n13 := ρ 13) (n14 := ρ 14) (n15 := ρ 15) (H0 := η 0) (H1 := η 1) (H2 := η 2) f35 f34 f33 f32 f31 f30 f29 f28 f27 f26 f25 f24 f23 f22 f21 f20 f19 f18 f17 f16 f15 f14 f13 f12 f11 f10 f9 f8 f7 f6 f5 f4 f3 f2 f1 f0
def p_283vw_85 : List vG := [g_283vw_85_0,
  g_283vw_85_1]
theorem r_283vw_85 : vCovBO (eRc e_283v L_283v cs_283v 2000 (85, [(0, (3, 12, 285, 0)), (1, (0, 0, 19, 0)), (2, (0, 0, 7, 0)), (3, (0, 0, 5, 0)), (4, (0, 0, 2147483647, 0)), (5, (0, 0, 60, 0))])) p_283vw_85 = true := by decide +kernel
theorem q_283vw_7 {q0 : Nat} {n0 n1 n2 n3 n4 n5 n6 n7 n8 n9 n10 n11 n12 n13 : Int} {H0 H1 : gH} (f0 : n0 ≤ 4) (f1 : 0 ≤ n0) (f2 : n1 ≤ 59) (f3 : (-1) ≤ n1) (f4 : n2 ≤ 59) (f5 : 0 ≤ n2) (f6 : n3 ≤ 2147483647) (f7 : 0 ≤ n3) (f8 : n4 ≤ 5) (f9 : 0 ≤ n4) (f10 : n5 ≤ 7) (f11 : 0 ≤ n5) (f12 : n6 ≤ 19) (f13 : 0 ≤ n6) (f14 : n7 = 285) (f15 : n8 ≤ 5) (f16 : 0 ≤ n8) (f17 : n9 ≤ 7) (f18 : 0 ≤ n9) (f19 : n10 ≤ 19) (f20 : 0 ≤ n10) (f21 : n11 = 285) (f22 : (hLe T0 H0 H1 ∧ hFr s_283v.2.2.2.2 H0 H1 ∧ hWt T0 H1) ∧ ((Ab_283v_114 n11 n10 n9 n8 n7 n6 n5 n4 n3 n2 n1 n0 H0 H1 ∧ Bb_283_114 n11 n10 n9 n8 n7 n6 n5 n4 n3 n2 n1 n0 H0 H1) ∧ preb_283v n11 n10 n9 n8 H0) ∧ some q0 = some (mub_283v_114 n11 n10 n9 n8 n7 n6 n5 n4 n3 n2 n1 n0 H0 H1)) (f23 : n12 = 4) (f24 : n12 ≤ n0) (f25 : n13 = w32 (n2 + 1)) : Bb_283_85 n11 n10 n9 n8 n7 n6 n5 n4 n3 n13 H0 H1 := by
  have gb := f22.2.1.1.2
  unfold Bb_283_114 at gb
  unfold Bb_283_85
  exact gb
def g_283vw_114_0 : vG := ([(10, [13, 9], [], 1), (43, [11, 12], [], 0), (0, [12], [], 4), (5000, [0, 1, 2, 3, 4, 5, 6, 7, 8, 9, 10, 11], [0, 1], 114), (0, [0], [], 285), (90, [1], [], 0), (91, [1], [], 19), (90, [2], [], 0), (91, [2], [], 7), (90, [3], [], 0), (91, [3], [], 5), (0, [4], [], 285), (90, [5], [], 0), (91, [5], [], 19), (90, [6], [], 0), (91, [6], [], 7), (90, [7], [], 0), (91, [7], [], 5), (90, [8], [], 0), (91, [8], [], 2147483647), (90, [9], [], 0), (91, [9], [], 59), (90, [10], [], -1), (91, [10], [], 59), (90, [11], [], 0), (91, [11], [], 4)], (4000, [4, 5, 6, 7, 8, 13], [1], 85))
theorem c_283vw_114_0 {q0 : Nat} : vOkm T0 (eN e_283v L_283vw A_283v mu_283v n_283 B_283 (some q0)) 4 g_283vw_114_0 := vOk_inI fun ρ η f0 f1 f2 f3 f4 f5 f6 f7 f8 f9 f10 f11 f12 f13 f14 f15 f16 f17 f18 f19 f20 f21 f22 f23 f24 f25 => q_283vw_7 (q0 := q0) (n0 := ρ 11) (n1 := ρ 10) (n2 := ρ 9) (n3 := ρ 8) (n4 := ρ 7) (n5 := ρ 6) (n6 := ρ 5) (n7 := ρ 4) (n8 := ρ 3) (n9 := ρ 2) (n10 := ρ 1) (n11 := ρ 0) (n12 := ρ 12) (n13 := ρ 13) (H0 := η 0) (H1 := η 1) f25 f24 f23 f22 f21 f20 f19 f18 f17 f16 f15 f14 f13 f12 f11 f10 f9 f8 f7 f6 f5 f4 f3 f2 f1 f0
theorem q_283vw_8 {q0 : Nat} {n0 n1 n2 n3 n4 n5 n6 n7 n8 n9 n10 n11 n12 n13 n14 n15 n16 n17 n18 n19 n20 n21 n22 n23 n24 n25 n26 : Int} {H0 H1 H2 : gH} (f0 : n0 ≤ 4) (f1 : 0 ≤ n0) (f2 : n1 ≤ 59) (f3 : (-1) ≤ n1) (f4 : n2 ≤ 59) (f5 : 0 ≤ n2) (f6 : n3 ≤ 2147483647) (f7 : 0 ≤ n3) (f8 : n4 ≤ 5) (f9 : 0 ≤ n4) (f10 : n5 ≤ 7) (f11 : 0 ≤ n5) (f12 : n6 ≤ 19) (f13 : 0 ≤ n6) (f14 : n7 = 285) (f15 : n8 ≤ 5) (f16 : 0 ≤ n8) (f17 : n9 ≤ 7) (f18 : 0 ≤ n9) (f19 : n10 ≤ 19) (f20 : 0 ≤ n10) (f21 : n11 = 285) (f22 : (hLe T0 H0 H1 ∧ hFr s_283v.2.2.2.2 H0 H1 ∧ hWt T0 H1) ∧ ((Ab_283v_114 n11 n10 n9 n8 n7 n6 n5 n4 n3 n2 n1 n0 H0 H1 ∧ Bb_283_114 n11 n10 n9 n8 n7 n6 n5 n4 n3 n2 n1 n0 H0 H1) ∧ preb_283v n11 n10 n9 n8 H0) ∧ some q0 = some (mub_283v_114 n11 n10 n9 n8 n7 n6 n5 n4 n3 n2 n1 n0 H0 H1)) (f23 : n12 = 4) (f24 : n0 < n12) (f25 : n13 = 337) (f26 : hK H1 (n7).toNat = 12) (f27 : n13 = hV H1 (n7).toNat 75) (f28 : n14 = 240) (f29 : n15 = w32 (n14 * n6)) (f30 : n16 = 4) (f31 : n17 = w32 (n16 * n2)) (f32 : n18 = w32 (n15 + n17)) (f33 : n19 = w32 (n18 + n0)) (f34 : n20 = (-1)) (f35 : n1 ≠ n20) (f36 : n21 = 352) (f37 : hK H1 (n7).toNat = 12) (f38 : n21 = hV H1 (n7).toNat 92) (f39 : n22 = 4) (f40 : n23 = w32 (n22 * n1)) (f41 : n24 = w32 (n23 + n0)) (f42 : n25 ≤ 2147483647) (f43 : (-2147483648) ≤ n25) (f44 : n25 = hV H1 (n21).toNat (n24).toNat) (f45 : hK H1 (n13).toNat = 524) (f46 : hUpd H2 H1 n13 n19 n25) (f47 : n26 = w32 (n0 + 1)) : Bb_283_114 n11 n10 n9 n8 n7 n6 n5 n4 n3 n2 n1 n26 H0 H2 := by
  have gb := f22.2.1.1.2
  unfold Bb_283_114 at gb
  have ga := f22.2.1.1.1
  unfold Ab_283v_114 at ga
  obtain ⟨c0, c1, c2, c3, c4, c5, c6, c7, c8, c9, c10⟩ := ga
  have u29 := f29
  rw [f28] at u29
  rw [w32_id (by omega) (by omega)] at u29
  have u31 := f31
  rw [f30] at u31
  rw [w32_id (by omega) (by omega)] at u31
  have u32 := f32
  rw [w32_id (by omega) (by omega)] at u32
  have u33 := f33
  rw [w32_id (by omega) (by omega)] at u33
  have u40 := f40
  rw [f39] at u40
  rw [w32_id (by omega) (by omega)] at u40
  have u41 := f41
  rw [w32_id (by omega) (by omega)] at u41
  have w := uRowQ f46 337 f25
  unfold Bb_283_114
  rw [w]
  exact KSp_up gb (by omega) (by omega)
def g_283vw_114_1 : vG := ([(10, [26, 11], [], 1), (80, [13, 19, 25], [2, 1], 0), (23, [13], [1], 524), (22, [25, 21, 24], [1], 0), (90, [25], [], -2147483648), (91, [25], [], 2147483647), (1, [24, 23, 11], [], 0), (3, [23, 22, 10], [], 0), (0, [22], [], 4), (20, [21, 4], [1], 92), (23, [4], [1], 12), (0, [21], [], 352), (41, [10, 20], [], 0), (0, [20], [], -1), (1, [19, 18, 11], [], 0), (1, [18, 15, 17], [], 0), (3, [17, 16, 9], [], 0), (0, [16], [], 4), (3, [15, 14, 5], [], 0), (0, [14], [], 240), (20, [13, 4], [1], 75), (23, [4], [1], 12), (0, [13], [], 337), (42, [11, 12], [], 0), (0, [12], [], 4), (5000, [0, 1, 2, 3, 4, 5, 6, 7, 8, 9, 10, 11], [0, 1], 114), (0, [0], [], 285), (90, [1], [], 0), (91, [1], [], 19), (90, [2], [], 0), (91, [2], [], 7), (90, [3], [], 0), (91, [3], [], 5), (0, [4], [], 285), (90, [5], [], 0), (91, [5], [], 19), (90, [6], [], 0), (91, [6], [], 7), (90, [7], [], 0), (91, [7], [], 5), (90, [8], [], 0), (91, [8], [], 2147483647), (90, [9], [], 0), (91, [9], [], 59), (90, [10], [], -1), (91, [10], [], 59), (90, [11], [], 0), (91, [11], [], 4)], (4000, [4, 5, 6, 7, 8, 9, 10, 26], [2], 114))
theorem c_283vw_114_1 {q0 : Nat} : vOkm T0 (eN e_283v L_283vw A_283v mu_283v n_283 B_283 (some q0)) 4 g_283vw_114_1 := vOk_inI fun ρ η f0 f1 f2 f3 f4 f5 f6 f7 f8 f9 f10 f11 f12 f13 f14 f15 f16 f17 f18 f19 f20 f21 f22 f23 f24 f25 f26 f27 f28 f29 f30 f31 f32 f33 f34 f35 f36 f37 f38 f39 f40 f41 f42 f43 f44 f45 f46 f47 => q_283vw_8 (q0 := q0) (n0 := ρ 11) (n1 := ρ 10) (n2 := ρ 9) (n3 := ρ 8) (n4 := ρ 7) (n5 := ρ 6) (n6 := ρ 5) (n7 := ρ 4) (n8 := ρ 3) (n9 := ρ 2) (n10 := ρ 1) (n11 := ρ 0) (n12 := ρ 12) (n13 := ρ 13) (n14 := ρ 14) (n15 := ρ 15) (n16 := ρ 16) (n17 := ρ 17) (n18 := ρ 18) (n19 := ρ 19) (n20 := ρ 20) (n21 := ρ 21) (n22 := ρ 22) (n23 := ρ 23) (n24 := ρ 24) (n25 := ρ 25) (n26 := ρ 26) (H0 := η 0) (H1 := η 1) (H2 := η 2) f47 f46 f45 f44 f43 f42 f41 f40 f39 f38 f37 f36 f35 f34 f33 f32 f31 f30 f29 f28 f27 f26 f25 f24 f23 f22 f21 f20 f19 f18 f17 f16 f15 f14 f13 f12 f11 f10 f9 f8 f7 f6 f5 f4 f3 f2 f1 f0
theorem q_283vw_9 {q0 : Nat} {n0 n1 n2 n3 n4 n5 n6 n7 n8 n9 n10 n11 n12 n13 n14 n15 n16 n17 n18 n19 n20 n21 n22 : Int} {H0 H1 H2 : gH} (f0 : n0 ≤ 4) (f1 : 0 ≤ n0) (f2 : n1 ≤ 59) (f3 : (-1) ≤ n1) (f4 : n2 ≤ 59) (f5 : 0 ≤ n2) (f6 : n3 ≤ 2147483647) (f7 : 0 ≤ n3) (f8 : n4 ≤ 5) (f9 : 0 ≤ n4) (f10 : n5 ≤ 7) (f11 : 0 ≤ n5) (f12 : n6 ≤ 19) (f13 : 0 ≤ n6) (f14 : n7 = 285) (f15 : n8 ≤ 5) (f16 : 0 ≤ n8) (f17 : n9 ≤ 7) (f18 : 0 ≤ n9) (f19 : n10 ≤ 19) (f20 : 0 ≤ n10) (f21 : n11 = 285) (f22 : (hLe T0 H0 H1 ∧ hFr s_283v.2.2.2.2 H0 H1 ∧ hWt T0 H1) ∧ ((Ab_283v_114 n11 n10 n9 n8 n7 n6 n5 n4 n3 n2 n1 n0 H0 H1 ∧ Bb_283_114 n11 n10 n9 n8 n7 n6 n5 n4 n3 n2 n1 n0 H0 H1) ∧ preb_283v n11 n10 n9 n8 H0) ∧ some q0 = some (mub_283v_114 n11 n10 n9 n8 n7 n6 n5 n4 n3 n2 n1 n0 H0 H1)) (f23 : n12 = 4) (f24 : n0 < n12) (f25 : n13 = 337) (f26 : hK H1 (n7).toNat = 12) (f27 : n13 = hV H1 (n7).toNat 75) (f28 : n14 = 240) (f29 : n15 = w32 (n14 * n6)) (f30 : n16 = 4) (f31 : n17 = w32 (n16 * n2)) (f32 : n18 = w32 (n15 + n17)) (f33 : n19 = w32 (n18 + n0)) (f34 : n20 = (-1)) (f35 : n1 = n20) (f36 : n21 = 0) (f37 : hK H1 (n13).toNat = 524) (f38 : hUpd H2 H1 n13 n19 n21) (f39 : n22 = w32 (n0 + 1)) : Bb_283_114 n11 n10 n9 n8 n7 n6 n5 n4 n3 n2 n1 n22 H0 H2 := by
  have gb := f22.2.1.1.2
  unfold Bb_283_114 at gb
  have ga := f22.2.1.1.1
  unfold Ab_283v_114 at ga
  obtain ⟨c0, c1, c2, c3, c4, c5, c6, c7, c8, c9, c10⟩ := ga
  have u29 := f29
  rw [f28] at u29
  rw [w32_id (by omega) (by omega)] at u29
  have u31 := f31
  rw [f30] at u31
  rw [w32_id (by omega) (by omega)] at u31
  have u32 := f32
  rw [w32_id (by omega) (by omega)] at u32
  have u33 := f33
  rw [w32_id (by omega) (by omega)] at u33
  have w := uRowQ f38 337 f25
  unfold Bb_283_114
  rw [w]
  exact KSp_up gb (by omega) (by omega)
def g_283vw_114_2 : vG := ([(10, [22, 11], [], 1), (80, [13, 19, 21], [2, 1], 0), (23, [13], [1], 524), (0, [21], [], 0), (40, [10, 20], [], 0), (0, [20], [], -1), (1, [19, 18, 11], [], 0), (1, [18, 15, 17], [], 0), (3, [17, 16, 9], [], 0), (0, [16], [], 4), (3, [15, 14, 5], [], 0), (0, [14], [], 240), (20, [13, 4], [1], 75), (23, [4], [1], 12), (0, [13], [], 337), (42, [11, 12], [], 0), (0, [12], [], 4), (5000, [0, 1, 2, 3, 4, 5, 6, 7, 8, 9, 10, 11], [0, 1], 114), (0, [0], [], 285), (90, [1], [], 0), (91, [1], [], 19), (90, [2], [], 0), (91, [2], [], 7), (90, [3], [], 0), (91, [3], [], 5), (0, [4], [], 285), (90, [5], [], 0), (91, [5], [], 19), (90, [6], [], 0), (91, [6], [], 7), (90, [7], [], 0), (91, [7], [], 5), (90, [8], [], 0), (91, [8], [], 2147483647), (90, [9], [], 0), (91, [9], [], 59), (90, [10], [], -1), (91, [10], [], 59), (90, [11], [], 0), (91, [11], [], 4)], (4000, [4, 5, 6, 7, 8, 9, 10, 22], [2], 114))
theorem c_283vw_114_2 {q0 : Nat} : vOkm T0 (eN e_283v L_283vw A_283v mu_283v n_283 B_283 (some q0)) 4 g_283vw_114_2 := vOk_inI fun ρ η f0 f1 f2 f3 f4 f5 f6 f7 f8 f9 f10 f11 f12 f13 f14 f15 f16 f17 f18 f19 f20 f21 f22 f23 f24 f25 f26 f27 f28 f29 f30 f31 f32 f33 f34 f35 f36 f37 f38 f39 => q_283vw_9 (q0 := q0) (n0 := ρ 11) (n1 := ρ 10) (n2 := ρ 9) (n3 := ρ 8) (n4 := ρ 7) (n5 := ρ 6) (n6 := ρ 5) (n7 := ρ 4) (n8 := ρ 3) (n9 := ρ 2) (n10 := ρ 1) (n11 := ρ 0) (n12 := ρ 12) (n13 := ρ 13) (n14 := ρ 14) (n15 := ρ 15) (n16 := ρ 16) (n17 := ρ 17) (n18 := ρ 18) (n19 := ρ 19) (n20 := ρ 20) (n21 := ρ 21) (n22 := ρ 22) (H0 := η 0) (H1 := η 1) (H2 := η 2) f39 f38 f37 f36 f35 f34 f33 f32 f31 f30 f29 f28 f27 f26 f25 f24 f23 f22 f21 f20 f19 f18 f17 f16 f15 f14 f13 f12 f11 f10 f9 f8 f7 f6 f5 f4 f3 f2 f1 f0
def p_283vw_114 : List vG := [g_283vw_114_0,
  g_283vw_114_1,
  g_283vw_114_2]
theorem r_283vw_114 : vCovBO (eRc e_283v L_283v cs_283v 2000 (114, [(0, (3, 12, 285, 0)), (1, (0, 0, 19, 0)), (2, (0, 0, 7, 0)), (3, (0, 0, 5, 0)), (4, (0, 0, 2147483647, 0)), (5, (0, 0, 59, 0)), (6, (0, -1, 59, 0)), (7, (0, 0, 4, 0))])) p_283vw_114 = true := by decide +kernel
theorem m_283vw (d : Nat) : eC e_283vw (d + 5) := eC_ref (e := e_283v) (L := L_283v) (L' := L_283vw) (cs := cs_283v) (n := 2000) (d := d + 4) (A := A_283v) (μ := mu_283v) (tp := false) (p0 := p_283v_s) (p1 := p_283vw_s) (N := n_283) (B := B_283) rfl ⟨m_248 (d + 3), ⟨m_258 (d + 3), ⟨m_274 d, trivial⟩⟩⟩ rfl (.inl rfl) (by decide +kernel) (fun z => nomatch z) r_283v_s (allC c_283v_s_0 (allC c_283v_s_1 allN)) (allC (.inl ⟨p_283v_11, r_283v_11, fun q0 => (allC c_283v_11_0 (allC c_283v_11_1 (allC c_283v_11_2 (allC c_283v_11_3 (allC c_283v_11_4 (allC c_283v_11_5 (allC c_283v_11_6 (allC c_283v_11_7 (allC c_283v_11_8 (allC c_283v_11_9 (allC c_283v_11_10 (allC c_283v_11_11 (allC c_283v_11_12 (allC c_283v_11_13 (allC c_283v_11_14 allN)))))))))))))))⟩) (allC (.inl ⟨p_283v_85, r_283v_85, fun q0 => (allC c_283v_85_0 (allC c_283v_85_1 (allC c_283v_85_2 (allC c_283v_85_3 (allC c_283v_85_4 (allC c_283v_85_5 (allC c_283v_85_6 (allC c_283v_85_7 (allC c_283v_85_8 allN)))))))))⟩) (allC (.inl ⟨p_283v_114, r_283v_114, fun q0 => (allC c_283v_114_0 (allC c_283v_114_1 (allC c_283v_114_2 (allC c_283v_114_3 (allC c_283v_114_4 (allC c_283v_114_5 (allC c_283v_114_6 (allC c_283v_114_7 (allC c_283v_114_8 (allC c_283v_114_9 (allC c_283v_114_10 (allC c_283v_114_11 allN))))))))))))⟩) allN))) (sub0 (sub0 (sub0 trivial))) r_283vw_s (allC c_283vw_s_0 allN) (allC ⟨p_283vw_11, r_283vw_11, fun q0 => (allC c_283vw_11_0 (allC c_283vw_11_1 (allC c_283vw_11_2 (allC c_283vw_11_3 allN))))⟩ (allC ⟨p_283vw_85, r_283vw_85, fun q0 => (allC c_283vw_85_0 (allC c_283vw_85_1 allN))⟩ (allC ⟨p_283vw_114, r_283vw_114, fun q0 => (allC c_283vw_114_0 (allC c_283vw_114_1 (allC c_283vw_114_2 allN)))⟩ allN)))
/- MixStageModel.make (III)I, more fully -/
def nb_285 (r a0 a1 a2 a3 : Int) (h0 h : gH) : Prop := KSm (hV h0 285 64) (hV h0 328) (hV h0 337) (hV h 337)
def n_285 : List Int → gH → gH → Prop := fun xs h0 h => match xs with
  | [r, a0, a1, a2, a3] => nb_285 r a0 a1 a2 a3 h0 h
  | _ => True
noncomputable def e_285vw : vE := eV e_285v n_285
noncomputable def L_285vw : List vE := [e_250, e_278, e_280, e_283vw, e_284]
def Bb_285_64 (a0 a1 a2 a3 x0 x1 x2 x3 x4 x5 : Int) (h0 h : gH) : Prop := (hV h 337) = (hV h0 337)
def B_285 : Int → List Int → gH → gH → Prop := fun c xs h0 h => match c.toNat with
  | 64 => (match xs with
    | [a0, a1, a2, a3, x0, x1, x2, x3, x4, x5] => Bb_285_64 a0 a1 a2 a3 x0 x1 x2 x3 x4 x5 h0 h
    | _ => False)
  | _ => True
theorem q_285vw_0 {n0 n1 n2 n3 n4 n5 : Int} {H0 H1 : gH} (f0 : n0 ≤ 2147483647) (f1 : (-2147483648) ≤ n0) (f2 : n1 ≤ 2147483647) (f3 : (-2147483648) ≤ n1) (f4 : n2 ≤ 2147483647) (f5 : (-2147483648) ≤ n2) (f6 : n3 = 285) (f7 : hWt T0 H0 ∧ preb_285v n3 n2 n1 n0 H0) (f8 : n4 ≤ 1) (f9 : 0 ≤ n4) (f10 : (hLe T0 H0 H1 ∧ hFr s_250.2.2.2.2 H0 H1 ∧ ((0 : Int) = 0 → H1.length = H0.length) ∧ hWt T0 H1) ∧ postb_250 n4 n3 n2 H0 H1) (f11 : n4 = 0) (f12 : n5 = (-1)) : nb_285 n5 n3 n2 n1 n0 H0 H1 := by
  unfold nb_285
  rw [show hV H1 337 = hV H0 337 from fRow f10.1.2.1 337 (by decide +kernel)]
  exact fun _ _ => rfl
def g_285vw_s_0 : vG := ([(0, [5], [], -1), (30, [4], [], 0), (1250, [4, 0, 1], [0, 1], 0), (90, [4], [], 0), (91, [4], [], 1), (6000, [0, 1, 2, 3], [0], 0), (0, [0], [], 285), (90, [1], [], -2147483648), (91, [1], [], 2147483647), (90, [2], [], -2147483648), (91, [2], [], 2147483647), (90, [3], [], -2147483648), (91, [3], [], 2147483647)], (3000, [5], [1], 29))
theorem c_285vw_s_0 : vOkm T0 (eN e_285v L_285vw A_285v mu_285v n_285 B_285 none) 4 g_285vw_s_0 := vOk_inI fun ρ η f0 f1 f2 f3 f4 f5 f6 f7 f8 f9 f10 f11 f12 => q_285vw_0 (n0 := ρ 3) (n1 := ρ 2) (n2 := ρ 1) (n3 := ρ 0) (n4 := ρ 4) (n5 := ρ 5) (H0 := η 0) (H1 := η 1) f12 f11 f10 f9 f8 f7 f6 f5 f4 f3 f2 f1 f0
theorem q_285vw_1 {n0 n1 n2 n3 n4 n5 n6 n7 n8 : Int} {H0 H1 : gH} (f0 : n0 ≤ 2147483647) (f1 : (-2147483648) ≤ n0) (f2 : n1 ≤ 2147483647) (f3 : (-2147483648) ≤ n1) (f4 : n2 ≤ 2147483647) (f5 : (-2147483648) ≤ n2) (f6 : n3 = 285) (f7 : hWt T0 H0 ∧ preb_285v n3 n2 n1 n0 H0) (f8 : n4 ≤ 1) (f9 : 0 ≤ n4) (f10 : (hLe T0 H0 H1 ∧ hFr s_250.2.2.2.2 H0 H1 ∧ ((0 : Int) = 0 → H1.length = H0.length) ∧ hWt T0 H1) ∧ postb_250 n4 n3 n2 H0 H1) (f11 : n4 ≠ 0) (f12 : n5 = 328) (f13 : hK H1 (n3).toNat = 12) (f14 : n5 = hV H1 (n3).toNat 66) (f15 : n6 ≤ 6) (f16 : 0 ≤ n6) (f17 : n6 = hV H1 (n5).toNat (n2).toNat) (f18 : n7 = 6) (f19 : n6 ≠ n7) (f20 : n8 = (-1)) : nb_285 n8 n3 n2 n1 n0 H0 H1 := by
  unfold nb_285
  rw [show hV H1 337 = hV H0 337 from fRow f10.1.2.1 337 (by decide +kernel)]
  exact fun _ _ => rfl
def g_285vw_s_1 : vG := ([(0, [8], [], -1), (41, [6, 7], [], 0), (0, [7], [], 6), (22, [6, 5, 1], [1], 0), (90, [6], [], 0), (91, [6], [], 6), (20, [5, 0], [1], 66), (23, [0], [1], 12), (0, [5], [], 328), (31, [4], [], 0), (1250, [4, 0, 1], [0, 1], 0), (90, [4], [], 0), (91, [4], [], 1), (6000, [0, 1, 2, 3], [0], 0), (0, [0], [], 285), (90, [1], [], -2147483648), (91, [1], [], 2147483647), (90, [2], [], -2147483648), (91, [2], [], 2147483647), (90, [3], [], -2147483648), (91, [3], [], 2147483647)], (3000, [8], [1], 29))
theorem c_285vw_s_1 : vOkm T0 (eN e_285v L_285vw A_285v mu_285v n_285 B_285 none) 4 g_285vw_s_1 := vOk_inI fun ρ η f0 f1 f2 f3 f4 f5 f6 f7 f8 f9 f10 f11 f12 f13 f14 f15 f16 f17 f18 f19 f20 => q_285vw_1 (n0 := ρ 3) (n1 := ρ 2) (n2 := ρ 1) (n3 := ρ 0) (n4 := ρ 4) (n5 := ρ 5) (n6 := ρ 6) (n7 := ρ 7) (n8 := ρ 8) (H0 := η 0) (H1 := η 1) f20 f19 f18 f17 f16 f15 f14 f13 f12 f11 f10 f9 f8 f7 f6 f5 f4 f3 f2 f1 f0
theorem q_285vw_2 {n0 n1 n2 n3 n4 n5 n6 n7 n8 n9 n10 n11 n12 n13 : Int} {H0 H1 H2 H3 : gH} (f0 : n0 ≤ 2147483647) (f1 : (-2147483648) ≤ n0) (f2 : n1 ≤ 2147483647) (f3 : (-2147483648) ≤ n1) (f4 : n2 ≤ 2147483647) (f5 : (-2147483648) ≤ n2) (f6 : n3 = 285) (f7 : hWt T0 H0 ∧ preb_285v n3 n2 n1 n0 H0) (f8 : n4 ≤ 1) (f9 : 0 ≤ n4) (f10 : (hLe T0 H0 H1 ∧ hFr s_250.2.2.2.2 H0 H1 ∧ ((0 : Int) = 0 → H1.length = H0.length) ∧ hWt T0 H1) ∧ postb_250 n4 n3 n2 H0 H1) (f11 : n4 ≠ 0) (f12 : n5 = 328) (f13 : hK H1 (n3).toNat = 12) (f14 : n5 = hV H1 (n3).toNat 66) (f15 : n6 ≤ 6) (f16 : 0 ≤ n6) (f17 : n6 = hV H1 (n5).toNat (n2).toNat) (f18 : n7 = 6) (f19 : n6 = n7) (f20 : n8 ≤ 1) (f21 : 0 ≤ n8) (f22 : (hLe T0 H1 H2 ∧ hFr s_284.2.2.2.2 H1 H2 ∧ ((0 : Int) = 0 → H2.length = H1.length) ∧ hWt T0 H2) ∧ postb_284 n8 n3 n1 n0 H1 H2) (f23 : n8 ≠ 0) (f24 : n9 ≤ 2147483647) (f25 : (-2147483648) ≤ n9) (f26 : (hLe T0 H2 H3 ∧ hFr s_278.2.2.2.2 H2 H3 ∧ ((0 : Int) = 0 → H3.length = H2.length) ∧ hWt T0 H3) ∧ postb_278 n9 n3 n1 H2 H3) (f27 : n10 = 1) (f28 : n11 ≤ 20) (f29 : 0 ≤ n11) (f30 : hK H3 (n3).toNat = 12) (f31 : n11 = hV H3 (n3).toNat 64) (f32 : n12 = o32 (fun x y => x <<< (y &&& 31)) n10 n11) (f33 : n12 ≤ n9) (f34 : n13 = (-2)) : nb_285 n13 n3 n2 n1 n0 H0 H3 := by
  unfold nb_285
  rw [show hV H3 337 = hV H0 337 from (fRow f26.1.2.1 337 (by decide +kernel)).trans ((fRow f22.1.2.1 337 (by decide +kernel)).trans (fRow f10.1.2.1 337 (by decide +kernel)))]
  exact fun _ _ => rfl
def g_285vw_s_2 : vG := ([(0, [13], [], -2), (43, [9, 12], [], 0), (7, [12, 10, 11], [], 0), (20, [11, 0], [3], 64), (23, [0], [3], 12), (90, [11], [], 0), (91, [11], [], 20), (0, [10], [], 1), (1278, [9, 0, 2], [2, 3], 0), (90, [9], [], -2147483648), (91, [9], [], 2147483647), (31, [8], [], 0), (1284, [8, 0, 2, 3], [1, 2], 0), (90, [8], [], 0), (91, [8], [], 1), (40, [6, 7], [], 0), (0, [7], [], 6), (22, [6, 5, 1], [1], 0), (90, [6], [], 0), (91, [6], [], 6), (20, [5, 0], [1], 66), (23, [0], [1], 12), (0, [5], [], 328), (31, [4], [], 0), (1250, [4, 0, 1], [0, 1], 0), (90, [4], [], 0), (91, [4], [], 1), (6000, [0, 1, 2, 3], [0], 0), (0, [0], [], 285), (90, [1], [], -2147483648), (91, [1], [], 2147483647), (90, [2], [], -2147483648), (91, [2], [], 2147483647), (90, [3], [], -2147483648), (91, [3], [], 2147483647)], (3000, [13], [3], 60))
theorem c_285vw_s_2 : vOkm T0 (eN e_285v L_285vw A_285v mu_285v n_285 B_285 none) 4 g_285vw_s_2 := vOk_inI fun ρ η f0 f1 f2 f3 f4 f5 f6 f7 f8 f9 f10 f11 f12 f13 f14 f15 f16 f17 f18 f19 f20 f21 f22 f23 f24 f25 f26 f27 f28 f29 f30 f31 f32 f33 f34 => q_285vw_2 (n0 := ρ 3) (n1 := ρ 2) (n2 := ρ 1) (n3 := ρ 0) (n4 := ρ 4) (n5 := ρ 5) (n6 := ρ 6) (n7 := ρ 7) (n8 := ρ 8) (n9 := ρ 9) (n10 := ρ 10) (n11 := ρ 11) (n12 := ρ 12) (n13 := ρ 13) (H0 := η 0) (H1 := η 1) (H2 := η 2) (H3 := η 3) f34 f33 f32 f31 f30 f29 f28 f27 f26 f25 f24 f23 f22 f21 f20 f19 f18 f17 f16 f15 f14 f13 f12 f11 f10 f9 f8 f7 f6 f5 f4 f3 f2 f1 f0
theorem q_285vw_3 {n0 n1 n2 n3 n4 n5 n6 n7 n8 n9 n10 n11 n12 n13 n14 n15 n16 n17 : Int} {H0 H1 H2 H3 : gH} (f0 : n0 ≤ 2147483647) (f1 : (-2147483648) ≤ n0) (f2 : n1 ≤ 2147483647) (f3 : (-2147483648) ≤ n1) (f4 : n2 ≤ 2147483647) (f5 : (-2147483648) ≤ n2) (f6 : n3 = 285) (f7 : hWt T0 H0 ∧ preb_285v n3 n2 n1 n0 H0) (f8 : n4 ≤ 1) (f9 : 0 ≤ n4) (f10 : (hLe T0 H0 H1 ∧ hFr s_250.2.2.2.2 H0 H1 ∧ ((0 : Int) = 0 → H1.length = H0.length) ∧ hWt T0 H1) ∧ postb_250 n4 n3 n2 H0 H1) (f11 : n4 ≠ 0) (f12 : n5 = 328) (f13 : hK H1 (n3).toNat = 12) (f14 : n5 = hV H1 (n3).toNat 66) (f15 : n6 ≤ 6) (f16 : 0 ≤ n6) (f17 : n6 = hV H1 (n5).toNat (n2).toNat) (f18 : n7 = 6) (f19 : n6 = n7) (f20 : n8 ≤ 1) (f21 : 0 ≤ n8) (f22 : (hLe T0 H1 H2 ∧ hFr s_284.2.2.2.2 H1 H2 ∧ ((0 : Int) = 0 → H2.length = H1.length) ∧ hWt T0 H2) ∧ postb_284 n8 n3 n1 n0 H1 H2) (f23 : n8 ≠ 0) (f24 : n9 ≤ 2147483647) (f25 : (-2147483648) ≤ n9) (f26 : (hLe T0 H2 H3 ∧ hFr s_278.2.2.2.2 H2 H3 ∧ ((0 : Int) = 0 → H3.length = H2.length) ∧ hWt T0 H3) ∧ postb_278 n9 n3 n1 H2 H3) (f27 : n10 = 1) (f28 : n11 ≤ 20) (f29 : 0 ≤ n11) (f30 : hK H3 (n3).toNat = 12) (f31 : n11 = hV H3 (n3).toNat 64) (f32 : n12 = o32 (fun x y => x <<< (y &&& 31)) n10 n11) (f33 : n9 < n12) (f34 : n13 = o32 (fun x y => x >>> (y &&& 31)) n9 n2) (f35 : n14 = 1) (f36 : n15 = o32 (fun x y => x &&& y) n13 n14) (f37 : n16 = 1) (f38 : n15 ≠ n16) (f39 : n17 = 0) : Bb_285_64 n3 n2 n1 n0 n3 n2 n1 n0 n9 n17 H0 H3 := by
  unfold Bb_285_64
  exact (fRow f26.1.2.1 337 (by decide +kernel)).trans ((fRow f22.1.2.1 337 (by decide +kernel)).trans (fRow f10.1.2.1 337 (by decide +kernel)))
def g_285vw_s_3 : vG := ([(0, [17], [], 0), (41, [15, 16], [], 0), (0, [16], [], 1), (4, [15, 13, 14], [], 0), (0, [14], [], 1), (8, [13, 9, 1], [], 0), (42, [9, 12], [], 0), (7, [12, 10, 11], [], 0), (20, [11, 0], [3], 64), (23, [0], [3], 12), (90, [11], [], 0), (91, [11], [], 20), (0, [10], [], 1), (1278, [9, 0, 2], [2, 3], 0), (90, [9], [], -2147483648), (91, [9], [], 2147483647), (31, [8], [], 0), (1284, [8, 0, 2, 3], [1, 2], 0), (90, [8], [], 0), (91, [8], [], 1), (40, [6, 7], [], 0), (0, [7], [], 6), (22, [6, 5, 1], [1], 0), (90, [6], [], 0), (91, [6], [], 6), (20, [5, 0], [1], 66), (23, [0], [1], 12), (0, [5], [], 328), (31, [4], [], 0), (1250, [4, 0, 1], [0, 1], 0), (90, [4], [], 0), (91, [4], [], 1), (6000, [0, 1, 2, 3], [0], 0), (0, [0], [], 285), (90, [1], [], -2147483648), (91, [1], [], 2147483647), (90, [2], [], -2147483648), (91, [2], [], 2147483647), (90, [3], [], -2147483648), (91, [3], [], 2147483647)], (4000, [0, 1, 2, 3, 9, 17], [3], 64))
theorem c_285vw_s_3 : vOkm T0 (eN e_285v L_285vw A_285v mu_285v n_285 B_285 none) 4 g_285vw_s_3 := vOk_inI fun ρ η f0 f1 f2 f3 f4 f5 f6 f7 f8 f9 f10 f11 f12 f13 f14 f15 f16 f17 f18 f19 f20 f21 f22 f23 f24 f25 f26 f27 f28 f29 f30 f31 f32 f33 f34 f35 f36 f37 f38 f39 => q_285vw_3 (n0 := ρ 3) (n1 := ρ 2) (n2 := ρ 1) (n3 := ρ 0) (n4 := ρ 4) (n5 := ρ 5) (n6 := ρ 6) (n7 := ρ 7) (n8 := ρ 8) (n9 := ρ 9) (n10 := ρ 10) (n11 := ρ 11) (n12 := ρ 12) (n13 := ρ 13) (n14 := ρ 14) (n15 := ρ 15) (n16 := ρ 16) (n17 := ρ 17) (H0 := η 0) (H1 := η 1) (H2 := η 2) (H3 := η 3) f39 f38 f37 f36 f35 f34 f33 f32 f31 f30 f29 f28 f27 f26 f25 f24 f23 f22 f21 f20 f19 f18 f17 f16 f15 f14 f13 f12 f11 f10 f9 f8 f7 f6 f5 f4 f3 f2 f1 f0
theorem q_285vw_4 {n0 n1 n2 n3 n4 n5 n6 n7 n8 n9 n10 n11 n12 n13 n14 n15 n16 n17 : Int} {H0 H1 H2 H3 : gH} (f0 : n0 ≤ 2147483647) (f1 : (-2147483648) ≤ n0) (f2 : n1 ≤ 2147483647) (f3 : (-2147483648) ≤ n1) (f4 : n2 ≤ 2147483647) (f5 : (-2147483648) ≤ n2) (f6 : n3 = 285) (f7 : hWt T0 H0 ∧ preb_285v n3 n2 n1 n0 H0) (f8 : n4 ≤ 1) (f9 : 0 ≤ n4) (f10 : (hLe T0 H0 H1 ∧ hFr s_250.2.2.2.2 H0 H1 ∧ ((0 : Int) = 0 → H1.length = H0.length) ∧ hWt T0 H1) ∧ postb_250 n4 n3 n2 H0 H1) (f11 : n4 ≠ 0) (f12 : n5 = 328) (f13 : hK H1 (n3).toNat = 12) (f14 : n5 = hV H1 (n3).toNat 66) (f15 : n6 ≤ 6) (f16 : 0 ≤ n6) (f17 : n6 = hV H1 (n5).toNat (n2).toNat) (f18 : n7 = 6) (f19 : n6 = n7) (f20 : n8 ≤ 1) (f21 : 0 ≤ n8) (f22 : (hLe T0 H1 H2 ∧ hFr s_284.2.2.2.2 H1 H2 ∧ ((0 : Int) = 0 → H2.length = H1.length) ∧ hWt T0 H2) ∧ postb_284 n8 n3 n1 n0 H1 H2) (f23 : n8 ≠ 0) (f24 : n9 ≤ 2147483647) (f25 : (-2147483648) ≤ n9) (f26 : (hLe T0 H2 H3 ∧ hFr s_278.2.2.2.2 H2 H3 ∧ ((0 : Int) = 0 → H3.length = H2.length) ∧ hWt T0 H3) ∧ postb_278 n9 n3 n1 H2 H3) (f27 : n10 = 1) (f28 : n11 ≤ 20) (f29 : 0 ≤ n11) (f30 : hK H3 (n3).toNat = 12) (f31 : n11 = hV H3 (n3).toNat 64) (f32 : n12 = o32 (fun x y => x <<< (y &&& 31)) n10 n11) (f33 : n9 < n12) (f34 : n13 = o32 (fun x y => x >>> (y &&& 31)) n9 n2) (f35 : n14 = 1) (f36 : n15 = o32 (fun x y => x &&& y) n13 n14) (f37 : n16 = 1) (f38 : n15 = n16) (f39 : n17 = (-2)) : nb_285 n17 n3 n2 n1 n0 H0 H3 := by
  unfold nb_285
  rw [show hV H3 337 = hV H0 337 from (fRow f26.1.2.1 337 (by decide +kernel)).trans ((fRow f22.1.2.1 337 (by decide +kernel)).trans (fRow f10.1.2.1 337 (by decide +kernel)))]
  exact fun _ _ => rfl
def g_285vw_s_4 : vG := ([(0, [17], [], -2), (40, [15, 16], [], 0), (0, [16], [], 1), (4, [15, 13, 14], [], 0), (0, [14], [], 1), (8, [13, 9, 1], [], 0), (42, [9, 12], [], 0), (7, [12, 10, 11], [], 0), (20, [11, 0], [3], 64), (23, [0], [3], 12), (90, [11], [], 0), (91, [11], [], 20), (0, [10], [], 1), (1278, [9, 0, 2], [2, 3], 0), (90, [9], [], -2147483648), (91, [9], [], 2147483647), (31, [8], [], 0), (1284, [8, 0, 2, 3], [1, 2], 0), (90, [8], [], 0), (91, [8], [], 1), (40, [6, 7], [], 0), (0, [7], [], 6), (22, [6, 5, 1], [1], 0), (90, [6], [], 0), (91, [6], [], 6), (20, [5, 0], [1], 66), (23, [0], [1], 12), (0, [5], [], 328), (31, [4], [], 0), (1250, [4, 0, 1], [0, 1], 0), (90, [4], [], 0), (91, [4], [], 1), (6000, [0, 1, 2, 3], [0], 0), (0, [0], [], 285), (90, [1], [], -2147483648), (91, [1], [], 2147483647), (90, [2], [], -2147483648), (91, [2], [], 2147483647), (90, [3], [], -2147483648), (91, [3], [], 2147483647)], (3000, [17], [3], 60))
theorem c_285vw_s_4 : vOkm T0 (eN e_285v L_285vw A_285v mu_285v n_285 B_285 none) 4 g_285vw_s_4 := vOk_inI fun ρ η f0 f1 f2 f3 f4 f5 f6 f7 f8 f9 f10 f11 f12 f13 f14 f15 f16 f17 f18 f19 f20 f21 f22 f23 f24 f25 f26 f27 f28 f29 f30 f31 f32 f33 f34 f35 f36 f37 f38 f39 => q_285vw_4 (n0 := ρ 3) (n1 := ρ 2) (n2 := ρ 1) (n3 := ρ 0) (n4 := ρ 4) (n5 := ρ 5) (n6 := ρ 6) (n7 := ρ 7) (n8 := ρ 8) (n9 := ρ 9) (n10 := ρ 10) (n11 := ρ 11) (n12 := ρ 12) (n13 := ρ 13) (n14 := ρ 14) (n15 := ρ 15) (n16 := ρ 16) (n17 := ρ 17) (H0 := η 0) (H1 := η 1) (H2 := η 2) (H3 := η 3) f39 f38 f37 f36 f35 f34 f33 f32 f31 f30 f29 f28 f27 f26 f25 f24 f23 f22 f21 f20 f19 f18 f17 f16 f15 f14 f13 f12 f11 f10 f9 f8 f7 f6 f5 f4 f3 f2 f1 f0
theorem q_285vw_5 {n0 n1 n2 n3 n4 n5 n6 n7 n8 n9 : Int} {H0 H1 H2 : gH} (f0 : n0 ≤ 2147483647) (f1 : (-2147483648) ≤ n0) (f2 : n1 ≤ 2147483647) (f3 : (-2147483648) ≤ n1) (f4 : n2 ≤ 2147483647) (f5 : (-2147483648) ≤ n2) (f6 : n3 = 285) (f7 : hWt T0 H0 ∧ preb_285v n3 n2 n1 n0 H0) (f8 : n4 ≤ 1) (f9 : 0 ≤ n4) (f10 : (hLe T0 H0 H1 ∧ hFr s_250.2.2.2.2 H0 H1 ∧ ((0 : Int) = 0 → H1.length = H0.length) ∧ hWt T0 H1) ∧ postb_250 n4 n3 n2 H0 H1) (f11 : n4 ≠ 0) (f12 : n5 = 328) (f13 : hK H1 (n3).toNat = 12) (f14 : n5 = hV H1 (n3).toNat 66) (f15 : n6 ≤ 6) (f16 : 0 ≤ n6) (f17 : n6 = hV H1 (n5).toNat (n2).toNat) (f18 : n7 = 6) (f19 : n6 = n7) (f20 : n8 ≤ 1) (f21 : 0 ≤ n8) (f22 : (hLe T0 H1 H2 ∧ hFr s_284.2.2.2.2 H1 H2 ∧ ((0 : Int) = 0 → H2.length = H1.length) ∧ hWt T0 H2) ∧ postb_284 n8 n3 n1 n0 H1 H2) (f23 : n8 = 0) (f24 : n9 = (-1)) : nb_285 n9 n3 n2 n1 n0 H0 H2 := by
  unfold nb_285
  rw [show hV H2 337 = hV H0 337 from (fRow f22.1.2.1 337 (by decide +kernel)).trans (fRow f10.1.2.1 337 (by decide +kernel))]
  exact fun _ _ => rfl
def g_285vw_s_5 : vG := ([(0, [9], [], -1), (30, [8], [], 0), (1284, [8, 0, 2, 3], [1, 2], 0), (90, [8], [], 0), (91, [8], [], 1), (40, [6, 7], [], 0), (0, [7], [], 6), (22, [6, 5, 1], [1], 0), (90, [6], [], 0), (91, [6], [], 6), (20, [5, 0], [1], 66), (23, [0], [1], 12), (0, [5], [], 328), (31, [4], [], 0), (1250, [4, 0, 1], [0, 1], 0), (90, [4], [], 0), (91, [4], [], 1), (6000, [0, 1, 2, 3], [0], 0), (0, [0], [], 285), (90, [1], [], -2147483648), (91, [1], [], 2147483647), (90, [2], [], -2147483648), (91, [2], [], 2147483647), (90, [3], [], -2147483648), (91, [3], [], 2147483647)], (3000, [9], [2], 29))
theorem c_285vw_s_5 : vOkm T0 (eN e_285v L_285vw A_285v mu_285v n_285 B_285 none) 4 g_285vw_s_5 := vOk_inI fun ρ η f0 f1 f2 f3 f4 f5 f6 f7 f8 f9 f10 f11 f12 f13 f14 f15 f16 f17 f18 f19 f20 f21 f22 f23 f24 => q_285vw_5 (n0 := ρ 3) (n1 := ρ 2) (n2 := ρ 1) (n3 := ρ 0) (n4 := ρ 4) (n5 := ρ 5) (n6 := ρ 6) (n7 := ρ 7) (n8 := ρ 8) (n9 := ρ 9) (H0 := η 0) (H1 := η 1) (H2 := η 2) f24 f23 f22 f21 f20 f19 f18 f17 f16 f15 f14 f13 f12 f11 f10 f9 f8 f7 f6 f5 f4 f3 f2 f1 f0
def p_285vw_s : List vG := [g_285vw_s_0,
  g_285vw_s_1,
  g_285vw_s_2,
  g_285vw_s_3,
  g_285vw_s_4,
  g_285vw_s_5]
theorem r_285vw_s : vCovBO (eR0 e_285v L_285v cs_285v 2000) p_285vw_s = true := by decide +kernel
theorem q_285vw_6 {q0 : Nat} {n0 n1 n2 n3 n4 n5 n6 n7 n8 n9 n10 n11 : Int} {H0 H1 H2 : gH} (f0 : n0 ≤ 20) (f1 : 0 ≤ n0) (f2 : n1 ≤ 2147483647) (f3 : (-2147483648) ≤ n1) (f4 : n2 ≤ 2147483647) (f5 : (-2147483648) ≤ n2) (f6 : n3 ≤ 2147483647) (f7 : (-2147483648) ≤ n3) (f8 : n4 ≤ 2147483647) (f9 : (-2147483648) ≤ n4) (f10 : n5 = 285) (f11 : n6 ≤ 2147483647) (f12 : (-2147483648) ≤ n6) (f13 : n7 ≤ 2147483647) (f14 : (-2147483648) ≤ n7) (f15 : n8 ≤ 2147483647) (f16 : (-2147483648) ≤ n8) (f17 : n9 = 285) (f18 : (hLe T0 H0 H1 ∧ hFr s_285v.2.2.2.2 H0 H1 ∧ hWt T0 H1) ∧ ((Ab_285v_64 n9 n8 n7 n6 n5 n4 n3 n2 n1 n0 H0 H1 ∧ Bb_285_64 n9 n8 n7 n6 n5 n4 n3 n2 n1 n0 H0 H1) ∧ preb_285v n9 n8 n7 n6 H0) ∧ some q0 = some (mub_285v_64 n9 n8 n7 n6 n5 n4 n3 n2 n1 n0 H0 H1)) (f19 : n10 ≤ 20) (f20 : 0 ≤ n10) (f21 : hK H1 (n5).toNat = 12) (f22 : n10 = hV H1 (n5).toNat 64) (f23 : n10 ≤ n0) (f24 : n11 ≤ 2147483647) (f25 : (-2147483648) ≤ n11) (f26 : (hLe T0 H1 H2 ∧ hFr s_283v.2.2.2.2 H1 H2 ∧ ((0 : Int) = 0 → H2.length = H1.length) ∧ hWt T0 H2) ∧ (postb_283v n11 n5 n4 n3 n2 H1 H2 ∧ nb_283 n11 n5 n4 n3 n2 H1 H2)) : nb_285 n11 n9 n8 n7 n6 H0 H2 := by
  have gb := f18.2.1.1.2
  unfold Bb_285_64 at gb
  have mq := f26.2.2
  unfold nb_283 at mq
  rw [show hV H1 328 = hV H0 328 from fRow f18.1.2.1 328 (by decide +kernel), show hV H1 285 64 = hV H0 285 64 from f18.1.2.1.1 285 64 (by decide +kernel)] at mq
  unfold nb_285
  rw [show hV H1 337 = hV H0 337 from (rfl).trans gb] at mq
  exact KSm_of (fun _ _ => rfl) mq.2.2.2 mq.2.1 mq.2.2.1 mq.1
def g_285vw_64_0 : vG := ([(1283, [11, 4, 5, 6, 7], [1, 2], 0), (90, [11], [], -2147483648), (91, [11], [], 2147483647), (43, [9, 10], [], 0), (20, [10, 4], [1], 64), (23, [4], [1], 12), (90, [10], [], 0), (91, [10], [], 20), (5000, [0, 1, 2, 3, 4, 5, 6, 7, 8, 9], [0, 1], 64), (0, [0], [], 285), (90, [1], [], -2147483648), (91, [1], [], 2147483647), (90, [2], [], -2147483648), (91, [2], [], 2147483647), (90, [3], [], -2147483648), (91, [3], [], 2147483647), (0, [4], [], 285), (90, [5], [], -2147483648), (91, [5], [], 2147483647), (90, [6], [], -2147483648), (91, [6], [], 2147483647), (90, [7], [], -2147483648), (91, [7], [], 2147483647), (90, [8], [], -2147483648), (91, [8], [], 2147483647), (90, [9], [], 0), (91, [9], [], 20)], (3000, [11], [2], 114))
theorem c_285vw_64_0 {q0 : Nat} : vOkm T0 (eN e_285v L_285vw A_285v mu_285v n_285 B_285 (some q0)) 4 g_285vw_64_0 := vOk_inI fun ρ η f0 f1 f2 f3 f4 f5 f6 f7 f8 f9 f10 f11 f12 f13 f14 f15 f16 f17 f18 f19 f20 f21 f22 f23 f24 f25 f26 => q_285vw_6 (q0 := q0) (n0 := ρ 9) (n1 := ρ 8) (n2 := ρ 7) (n3 := ρ 6) (n4 := ρ 5) (n5 := ρ 4) (n6 := ρ 3) (n7 := ρ 2) (n8 := ρ 1) (n9 := ρ 0) (n10 := ρ 10) (n11 := ρ 11) (H0 := η 0) (H1 := η 1) (H2 := η 2) f26 f25 f24 f23 f22 f21 f20 f19 f18 f17 f16 f15 f14 f13 f12 f11 f10 f9 f8 f7 f6 f5 f4 f3 f2 f1 f0
theorem q_285vw_7 {q0 : Nat} {n0 n1 n2 n3 n4 n5 n6 n7 n8 n9 n10 n11 n12 n13 n14 n15 : Int} {H0 H1 : gH} (f0 : n0 ≤ 20) (f1 : 0 ≤ n0) (f2 : n1 ≤ 2147483647) (f3 : (-2147483648) ≤ n1) (f4 : n2 ≤ 2147483647) (f5 : (-2147483648) ≤ n2) (f6 : n3 ≤ 2147483647) (f7 : (-2147483648) ≤ n3) (f8 : n4 ≤ 2147483647) (f9 : (-2147483648) ≤ n4) (f10 : n5 = 285) (f11 : n6 ≤ 2147483647) (f12 : (-2147483648) ≤ n6) (f13 : n7 ≤ 2147483647) (f14 : (-2147483648) ≤ n7) (f15 : n8 ≤ 2147483647) (f16 : (-2147483648) ≤ n8) (f17 : n9 = 285) (f18 : (hLe T0 H0 H1 ∧ hFr s_285v.2.2.2.2 H0 H1 ∧ hWt T0 H1) ∧ ((Ab_285v_64 n9 n8 n7 n6 n5 n4 n3 n2 n1 n0 H0 H1 ∧ Bb_285_64 n9 n8 n7 n6 n5 n4 n3 n2 n1 n0 H0 H1) ∧ preb_285v n9 n8 n7 n6 H0) ∧ some q0 = some (mub_285v_64 n9 n8 n7 n6 n5 n4 n3 n2 n1 n0 H0 H1)) (f19 : n10 ≤ 20) (f20 : 0 ≤ n10) (f21 : hK H1 (n5).toNat = 12) (f22 : n10 = hV H1 (n5).toNat 64) (f23 : n0 < n10) (f24 : n11 = o32 (fun x y => x >>> (y &&& 31)) n1 n0) (f25 : n12 = 1) (f26 : n13 = o32 (fun x y => x &&& y) n11 n12) (f27 : n14 = 1) (f28 : n13 ≠ n14) (f29 : n15 = w32 (n0 + 1)) : Bb_285_64 n9 n8 n7 n6 n5 n4 n3 n2 n1 n15 H0 H1 := by
  have gb := f18.2.1.1.2
  unfold Bb_285_64 at gb
  unfold Bb_285_64
  exact (rfl).trans gb
def g_285vw_64_1 : vG := ([(10, [15, 9], [], 1), (41, [13, 14], [], 0), (0, [14], [], 1), (4, [13, 11, 12], [], 0), (0, [12], [], 1), (8, [11, 8, 9], [], 0), (42, [9, 10], [], 0), (20, [10, 4], [1], 64), (23, [4], [1], 12), (90, [10], [], 0), (91, [10], [], 20), (5000, [0, 1, 2, 3, 4, 5, 6, 7, 8, 9], [0, 1], 64), (0, [0], [], 285), (90, [1], [], -2147483648), (91, [1], [], 2147483647), (90, [2], [], -2147483648), (91, [2], [], 2147483647), (90, [3], [], -2147483648), (91, [3], [], 2147483647), (0, [4], [], 285), (90, [5], [], -2147483648), (91, [5], [], 2147483647), (90, [6], [], -2147483648), (91, [6], [], 2147483647), (90, [7], [], -2147483648), (91, [7], [], 2147483647), (90, [8], [], -2147483648), (91, [8], [], 2147483647), (90, [9], [], 0), (91, [9], [], 20)], (4000, [4, 5, 6, 7, 8, 15], [1], 64))
theorem c_285vw_64_1 {q0 : Nat} : vOkm T0 (eN e_285v L_285vw A_285v mu_285v n_285 B_285 (some q0)) 4 g_285vw_64_1 := vOk_inI fun ρ η f0 f1 f2 f3 f4 f5 f6 f7 f8 f9 f10 f11 f12 f13 f14 f15 f16 f17 f18 f19 f20 f21 f22 f23 f24 f25 f26 f27 f28 f29 => q_285vw_7 (q0 := q0) (n0 := ρ 9) (n1 := ρ 8) (n2 := ρ 7) (n3 := ρ 6) (n4 := ρ 5) (n5 := ρ 4) (n6 := ρ 3) (n7 := ρ 2) (n8 := ρ 1) (n9 := ρ 0) (n10 := ρ 10) (n11 := ρ 11) (n12 := ρ 12) (n13 := ρ 13) (n14 := ρ 14) (n15 := ρ 15) (H0 := η 0) (H1 := η 1) f29 f28 f27 f26 f25 f24 f23 f22 f21 f20 f19 f18 f17 f16 f15 f14 f13 f12 f11 f10 f9 f8 f7 f6 f5 f4 f3 f2 f1 f0
theorem q_285vw_8 {q0 : Nat} {n0 n1 n2 n3 n4 n5 n6 n7 n8 n9 n10 n11 n12 n13 n14 n15 n16 n17 n18 n19 n20 : Int} {H0 H1 H2 : gH} (f0 : n0 ≤ 20) (f1 : 0 ≤ n0) (f2 : n1 ≤ 2147483647) (f3 : (-2147483648) ≤ n1) (f4 : n2 ≤ 2147483647) (f5 : (-2147483648) ≤ n2) (f6 : n3 ≤ 2147483647) (f7 : (-2147483648) ≤ n3) (f8 : n4 ≤ 2147483647) (f9 : (-2147483648) ≤ n4) (f10 : n5 = 285) (f11 : n6 ≤ 2147483647) (f12 : (-2147483648) ≤ n6) (f13 : n7 ≤ 2147483647) (f14 : (-2147483648) ≤ n7) (f15 : n8 ≤ 2147483647) (f16 : (-2147483648) ≤ n8) (f17 : n9 = 285) (f18 : (hLe T0 H0 H1 ∧ hFr s_285v.2.2.2.2 H0 H1 ∧ hWt T0 H1) ∧ ((Ab_285v_64 n9 n8 n7 n6 n5 n4 n3 n2 n1 n0 H0 H1 ∧ Bb_285_64 n9 n8 n7 n6 n5 n4 n3 n2 n1 n0 H0 H1) ∧ preb_285v n9 n8 n7 n6 H0) ∧ some q0 = some (mub_285v_64 n9 n8 n7 n6 n5 n4 n3 n2 n1 n0 H0 H1)) (f19 : n10 ≤ 20) (f20 : 0 ≤ n10) (f21 : hK H1 (n5).toNat = 12) (f22 : n10 = hV H1 (n5).toNat 64) (f23 : n0 < n10) (f24 : n11 = o32 (fun x y => x >>> (y &&& 31)) n1 n0) (f25 : n12 = 1) (f26 : n13 = o32 (fun x y => x &&& y) n11 n12) (f27 : n14 = 1) (f28 : n13 = n14) (f29 : n15 ≤ 2147483647) (f30 : (-2147483648) ≤ n15) (f31 : (hLe T0 H1 H2 ∧ hFr s_280.2.2.2.2 H1 H2 ∧ ((0 : Int) = 0 → H2.length = H1.length) ∧ hWt T0 H2) ∧ postb_280 n15 n5 n0 H1 H2) (f32 : n16 = o32 (fun x y => x >>> (y &&& 31)) n15 n4) (f33 : n17 = 1) (f34 : n18 = o32 (fun x y => x &&& y) n16 n17) (f35 : n19 = 1) (f36 : n18 ≠ n19) (f37 : n20 = w32 (n0 + 1)) : Bb_285_64 n9 n8 n7 n6 n5 n4 n3 n2 n1 n20 H0 H2 := by
  have gb := f18.2.1.1.2
  unfold Bb_285_64 at gb
  unfold Bb_285_64
  exact (fRow f31.1.2.1 337 (by decide +kernel)).trans gb
def g_285vw_64_2 : vG := ([(10, [20, 9], [], 1), (41, [18, 19], [], 0), (0, [19], [], 1), (4, [18, 16, 17], [], 0), (0, [17], [], 1), (8, [16, 15, 5], [], 0), (1280, [15, 4, 9], [1, 2], 0), (90, [15], [], -2147483648), (91, [15], [], 2147483647), (40, [13, 14], [], 0), (0, [14], [], 1), (4, [13, 11, 12], [], 0), (0, [12], [], 1), (8, [11, 8, 9], [], 0), (42, [9, 10], [], 0), (20, [10, 4], [1], 64), (23, [4], [1], 12), (90, [10], [], 0), (91, [10], [], 20), (5000, [0, 1, 2, 3, 4, 5, 6, 7, 8, 9], [0, 1], 64), (0, [0], [], 285), (90, [1], [], -2147483648), (91, [1], [], 2147483647), (90, [2], [], -2147483648), (91, [2], [], 2147483647), (90, [3], [], -2147483648), (91, [3], [], 2147483647), (0, [4], [], 285), (90, [5], [], -2147483648), (91, [5], [], 2147483647), (90, [6], [], -2147483648), (91, [6], [], 2147483647), (90, [7], [], -2147483648), (91, [7], [], 2147483647), (90, [8], [], -2147483648), (91, [8], [], 2147483647), (90, [9], [], 0), (91, [9], [], 20)], (4000, [4, 5, 6, 7, 8, 20], [2], 64))
theorem c_285vw_64_2 {q0 : Nat} : vOkm T0 (eN e_285v L_285vw A_285v mu_285v n_285 B_285 (some q0)) 4 g_285vw_64_2 := vOk_inI fun ρ η f0 f1 f2 f3 f4 f5 f6 f7 f8 f9 f10 f11 f12 f13 f14 f15 f16 f17 f18 f19 f20 f21 f22 f23 f24 f25 f26 f27 f28 f29 f30 f31 f32 f33 f34 f35 f36 f37 => q_285vw_8 (q0 := q0) (n0 := ρ 9) (n1 := ρ 8) (n2 := ρ 7) (n3 := ρ 6) (n4 := ρ 5) (n5 := ρ 4) (n6 := ρ 3) (n7 := ρ 2) (n8 := ρ 1) (n9 := ρ 0) (n10 := ρ 10) (n11 := ρ 11) (n12 := ρ 12) (n13 := ρ 13) (n14 := ρ 14) (n15 := ρ 15) (n16 := ρ 16) (n17 := ρ 17) (n18 := ρ 18) (n19 := ρ 19) (n20 := ρ 20) (H0 := η 0) (H1 := η 1) (H2 := η 2) f37 f36 f35 f34 f33 f32 f31 f30 f29 f28 f27 f26 f25 f24 f23 f22 f21 f20 f19 f18 f17 f16 f15 f14 f13 f12 f11 f10 f9 f8 f7 f6 f5 f4 f3 f2 f1 f0
theorem q_285vw_9 {q0 : Nat} {n0 n1 n2 n3 n4 n5 n6 n7 n8 n9 n10 n11 n12 n13 n14 n15 n16 n17 n18 n19 n20 : Int} {H0 H1 H2 : gH} (f0 : n0 ≤ 20) (f1 : 0 ≤ n0) (f2 : n1 ≤ 2147483647) (f3 : (-2147483648) ≤ n1) (f4 : n2 ≤ 2147483647) (f5 : (-2147483648) ≤ n2) (f6 : n3 ≤ 2147483647) (f7 : (-2147483648) ≤ n3) (f8 : n4 ≤ 2147483647) (f9 : (-2147483648) ≤ n4) (f10 : n5 = 285) (f11 : n6 ≤ 2147483647) (f12 : (-2147483648) ≤ n6) (f13 : n7 ≤ 2147483647) (f14 : (-2147483648) ≤ n7) (f15 : n8 ≤ 2147483647) (f16 : (-2147483648) ≤ n8) (f17 : n9 = 285) (f18 : (hLe T0 H0 H1 ∧ hFr s_285v.2.2.2.2 H0 H1 ∧ hWt T0 H1) ∧ ((Ab_285v_64 n9 n8 n7 n6 n5 n4 n3 n2 n1 n0 H0 H1 ∧ Bb_285_64 n9 n8 n7 n6 n5 n4 n3 n2 n1 n0 H0 H1) ∧ preb_285v n9 n8 n7 n6 H0) ∧ some q0 = some (mub_285v_64 n9 n8 n7 n6 n5 n4 n3 n2 n1 n0 H0 H1)) (f19 : n10 ≤ 20) (f20 : 0 ≤ n10) (f21 : hK H1 (n5).toNat = 12) (f22 : n10 = hV H1 (n5).toNat 64) (f23 : n0 < n10) (f24 : n11 = o32 (fun x y => x >>> (y &&& 31)) n1 n0) (f25 : n12 = 1) (f26 : n13 = o32 (fun x y => x &&& y) n11 n12) (f27 : n14 = 1) (f28 : n13 = n14) (f29 : n15 ≤ 2147483647) (f30 : (-2147483648) ≤ n15) (f31 : (hLe T0 H1 H2 ∧ hFr s_280.2.2.2.2 H1 H2 ∧ ((0 : Int) = 0 → H2.length = H1.length) ∧ hWt T0 H2) ∧ postb_280 n15 n5 n0 H1 H2) (f32 : n16 = o32 (fun x y => x >>> (y &&& 31)) n15 n4) (f33 : n17 = 1) (f34 : n18 = o32 (fun x y => x &&& y) n16 n17) (f35 : n19 = 1) (f36 : n18 = n19) (f37 : n20 = (-2)) : nb_285 n20 n9 n8 n7 n6 H0 H2 := by
  have gb := f18.2.1.1.2
  unfold Bb_285_64 at gb
  unfold nb_285
  rw [show hV H2 337 = hV H1 337 from fRow f31.1.2.1 337 (by decide +kernel), gb]
  exact fun _ _ => rfl
def g_285vw_64_3 : vG := ([(0, [20], [], -2), (40, [18, 19], [], 0), (0, [19], [], 1), (4, [18, 16, 17], [], 0), (0, [17], [], 1), (8, [16, 15, 5], [], 0), (1280, [15, 4, 9], [1, 2], 0), (90, [15], [], -2147483648), (91, [15], [], 2147483647), (40, [13, 14], [], 0), (0, [14], [], 1), (4, [13, 11, 12], [], 0), (0, [12], [], 1), (8, [11, 8, 9], [], 0), (42, [9, 10], [], 0), (20, [10, 4], [1], 64), (23, [4], [1], 12), (90, [10], [], 0), (91, [10], [], 20), (5000, [0, 1, 2, 3, 4, 5, 6, 7, 8, 9], [0, 1], 64), (0, [0], [], 285), (90, [1], [], -2147483648), (91, [1], [], 2147483647), (90, [2], [], -2147483648), (91, [2], [], 2147483647), (90, [3], [], -2147483648), (91, [3], [], 2147483647), (0, [4], [], 285), (90, [5], [], -2147483648), (91, [5], [], 2147483647), (90, [6], [], -2147483648), (91, [6], [], 2147483647), (90, [7], [], -2147483648), (91, [7], [], 2147483647), (90, [8], [], -2147483648), (91, [8], [], 2147483647), (90, [9], [], 0), (91, [9], [], 20)], (3000, [20], [2], 100))
theorem c_285vw_64_3 {q0 : Nat} : vOkm T0 (eN e_285v L_285vw A_285v mu_285v n_285 B_285 (some q0)) 4 g_285vw_64_3 := vOk_inI fun ρ η f0 f1 f2 f3 f4 f5 f6 f7 f8 f9 f10 f11 f12 f13 f14 f15 f16 f17 f18 f19 f20 f21 f22 f23 f24 f25 f26 f27 f28 f29 f30 f31 f32 f33 f34 f35 f36 f37 => q_285vw_9 (q0 := q0) (n0 := ρ 9) (n1 := ρ 8) (n2 := ρ 7) (n3 := ρ 6) (n4 := ρ 5) (n5 := ρ 4) (n6 := ρ 3) (n7 := ρ 2) (n8 := ρ 1) (n9 := ρ 0) (n10 := ρ 10) (n11 := ρ 11) (n12 := ρ 12) (n13 := ρ 13) (n14 := ρ 14) (n15 := ρ 15) (n16 := ρ 16) (n17 := ρ 17) (n18 := ρ 18) (n19 := ρ 19) (n20 := ρ 20) (H0 := η 0) (H1 := η 1) (H2 := η 2) f37 f36 f35 f34 f33 f32 f31 f30 f29 f28 f27 f26 f25 f24 f23 f22 f21 f20 f19 f18 f17 f16 f15 f14 f13 f12 f11 f10 f9 f8 f7 f6 f5 f4 f3 f2 f1 f0
def p_285vw_64 : List vG := [g_285vw_64_0,
  g_285vw_64_1,
  g_285vw_64_2,
  g_285vw_64_3]
theorem r_285vw_64 : vCovBO (eRc e_285v L_285v cs_285v 2000 (64, [(0, (3, 12, 285, 0)), (1, (0, -2147483648, 2147483647, 0)), (2, (0, -2147483648, 2147483647, 0)), (3, (0, -2147483648, 2147483647, 0)), (4, (0, -2147483648, 2147483647, 0)), (5, (0, 0, 20, 0))])) p_285vw_64 = true := by decide +kernel
theorem m_285vw (d : Nat) : eC e_285vw (d + 6) := eC_ref (e := e_285v) (L := L_285v) (L' := L_285vw) (cs := cs_285v) (n := 2000) (d := d + 5) (A := A_285v) (μ := mu_285v) (tp := false) (p0 := p_285v_s) (p1 := p_285vw_s) (N := n_285) (B := B_285) rfl ⟨m_250 (d + 4), ⟨m_278 (d + 2), ⟨m_280 d, ⟨m_283vw d, ⟨m_284 (d + 3), trivial⟩⟩⟩⟩⟩ rfl (.inl rfl) (by decide +kernel) (fun z => nomatch z) r_285v_s (allC c_285v_s_0 (allC c_285v_s_1 (allC c_285v_s_2 (allC c_285v_s_3 (allC c_285v_s_4 (allC c_285v_s_5 (allC c_285v_s_6 (allC c_285v_s_7 (allC c_285v_s_8 (allC c_285v_s_9 allN)))))))))) (allC (.inl ⟨p_285v_64, r_285v_64, fun q0 => (allC c_285v_64_0 (allC c_285v_64_1 (allC c_285v_64_2 (allC c_285v_64_3 (allC c_285v_64_4 (allC c_285v_64_5 (allC c_285v_64_6 (allC c_285v_64_7 (allC c_285v_64_8 (allC c_285v_64_9 (allC c_285v_64_10 (allC c_285v_64_11 (allC c_285v_64_12 (allC c_285v_64_13 (allC c_285v_64_14 (allC c_285v_64_15 (allC c_285v_64_16 allN)))))))))))))))))⟩) allN) (sub0 (sub0 (sub0 (sub1 (sub0 trivial))))) r_285vw_s (allC c_285vw_s_0 (allC c_285vw_s_1 (allC c_285vw_s_2 (allC c_285vw_s_3 (allC c_285vw_s_4 (allC c_285vw_s_5 allN)))))) (allC ⟨p_285vw_64, r_285vw_64, fun q0 => (allC c_285vw_64_0 (allC c_285vw_64_1 (allC c_285vw_64_2 (allC c_285vw_64_3 allN))))⟩ allN)
