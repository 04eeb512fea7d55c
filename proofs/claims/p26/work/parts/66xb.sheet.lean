/-! CONTRACTS of methods told more fully. -/
/- MixStageModel.make (III)I, more fully -/
def nb_285 (r a0 a1 a2 a3 : Int) (h0 h : gH) : Prop := ((CMR h0 a1 a2 a3 ∧ MYp (hV h0 285 64) (RNX h0) (RLY h0 (a2).toNat) (a1).toNat) ∧ hV h 335 = uF (hV h0 335) a1 a2) ∨ (¬ (CMR h0 a1 a2 a3 ∧ MYp (hV h0 285 64) (RNX h0) (RLY h0 (a2).toNat) (a1).toNat) ∧ hV h 335 = hV h0 335)
def n_285 : List Int → gH → gH → Prop := fun xs h0 h => match xs with
  | [r, a0, a1, a2, a3] => nb_285 r a0 a1 a2 a3 h0 h
  | _ => True
noncomputable def e_285w : vE := eV e_285 n_285
noncomputable def L_285w : List vE := [e_250, e_278, e_280, e_283, e_284w]
def Bb_285_64 (a0 a1 a2 a3 x0 x1 x2 x3 x4 x5 : Int) (h0 h : gH) : Prop := hV h 335 = hV h0 335 ∧ a3 < hV h0 285 60 ∧ hV h0 293 (a2).toNat ≤ a3 ∧ 0 ≤ x5
def B_285 : Int → List Int → gH → gH → Prop := fun c xs h0 h => match c.toNat with
  | 64 => (match xs with
    | [a0, a1, a2, a3, x0, x1, x2, x3, x4, x5] => Bb_285_64 a0 a1 a2 a3 x0 x1 x2 x3 x4 x5 h0 h
    | _ => False)
  | _ => True
theorem q_285w_0 {n0 n1 n2 n3 n4 n5 : Int} {H0 H1 : gH} (f0 : n0 ≤ 2147483647) (f1 : (-2147483648) ≤ n0) (f2 : n1 ≤ 2147483647) (f3 : (-2147483648) ≤ n1) (f4 : n2 ≤ 2147483647) (f5 : (-2147483648) ≤ n2) (f6 : n3 = 285) (f7 : hWt T0 H0 ∧ preb_285 n3 n2 n1 n0 H0) (f8 : n4 ≤ 1) (f9 : 0 ≤ n4) (f10 : (hLe T0 H0 H1 ∧ hFr s_250.2.2.2.2 H0 H1 ∧ ((0 : Int) = 0 → H1.length = H0.length) ∧ hWt T0 H1) ∧ postb_250 n4 n3 n2 H0 H1) (f11 : n4 = 0) (f12 : n5 = (-1)) : nb_285 n5 n3 n2 n1 n0 H0 H1 := by
  unfold nb_285
  have c6 := f6
  have c12 := f12
  have qs := f10.2
  unfold postb_250 at qs
  rw [show hV H1 285 64 = hV H0 285 64 from f10.1.2.1.1 285 64 (by decide +kernel)] at qs
  refine .inr ⟨fun w => ?_, fRow f10.1.2.1 335 (by decide +kernel)⟩
  have w1 := w.1.1
  omega
def g_285w_s_0 : vG := ([(0, [5], [], -1), (30, [4], [], 0), (1250, [4, 0, 1], [0, 1], 0), (90, [4], [], 0), (91, [4], [], 1), (6000, [0, 1, 2, 3], [0], 0), (0, [0], [], 285), (90, [1], [], -2147483648), (91, [1], [], 2147483647), (90, [2], [], -2147483648), (91, [2], [], 2147483647), (90, [3], [], -2147483648), (91, [3], [], 2147483647)], (3000, [5], [1], 29))
theorem c_285w_s_0 : vOkm T0 (eN e_285 L_285w A_285 mu_285 n_285 B_285 none) 4 g_285w_s_0 := vOk_inI fun ρ η f0 f1 f2 f3 f4 f5 f6 f7 f8 f9 f10 f11 f12 => q_285w_0 (n0 := ρ 3) (n1 := ρ 2) (n2 := ρ 1) (n3 := ρ 0) (n4 := ρ 4) (n5 := ρ 5) (H0 := η 0) (H1 := η 1) f12 f11 f10 f9 f8 f7 f6 f5 f4 f3 f2 f1 f0
theorem q_285w_1 {n0 n1 n2 n3 n4 n5 n6 n7 n8 : Int} {H0 H1 : gH} (f0 : n0 ≤ 2147483647) (f1 : (-2147483648) ≤ n0) (f2 : n1 ≤ 2147483647) (f3 : (-2147483648) ≤ n1) (f4 : n2 ≤ 2147483647) (f5 : (-2147483648) ≤ n2) (f6 : n3 = 285) (f7 : hWt T0 H0 ∧ preb_285 n3 n2 n1 n0 H0) (f8 : n4 ≤ 1) (f9 : 0 ≤ n4) (f10 : (hLe T0 H0 H1 ∧ hFr s_250.2.2.2.2 H0 H1 ∧ ((0 : Int) = 0 → H1.length = H0.length) ∧ hWt T0 H1) ∧ postb_250 n4 n3 n2 H0 H1) (f11 : n4 ≠ 0) (f12 : n5 = 328) (f13 : hK H1 (n3).toNat = 12) (f14 : n5 = hV H1 (n3).toNat 66) (f15 : n6 ≤ 6) (f16 : 0 ≤ n6) (f17 : n6 = hV H1 (n5).toNat (n2).toNat) (f18 : n7 = 6) (f19 : n6 ≠ n7) (f20 : n8 = (-1)) : nb_285 n8 n3 n2 n1 n0 H0 H1 := by
  unfold nb_285
  have c6 := f6
  have c12 := f12
  have c18 := f18
  have c20 := f20
  have qs := f10.2
  unfold postb_250 at qs
  rw [show hV H1 285 64 = hV H0 285 64 from f10.1.2.1.1 285 64 (by decide +kernel)] at qs
  have r17 := f17
  rw [f12] at r17
  replace r17 : n6 = hV H1 328 (n2).toNat := r17
  rw [show hV H1 328 = hV H0 328 from fRow f10.1.2.1 328 (by decide +kernel)] at r17
  refine .inr ⟨fun w => ?_, fRow f10.1.2.1 335 (by decide +kernel)⟩
  have w1 := w.1.1
  omega
def g_285w_s_1 : vG := ([(0, [8], [], -1), (41, [6, 7], [], 0), (0, [7], [], 6), (22, [6, 5, 1], [1], 0), (90, [6], [], 0), (91, [6], [], 6), (20, [5, 0], [1], 66), (23, [0], [1], 12), (0, [5], [], 328), (31, [4], [], 0), (1250, [4, 0, 1], [0, 1], 0), (90, [4], [], 0), (91, [4], [], 1), (6000, [0, 1, 2, 3], [0], 0), (0, [0], [], 285), (90, [1], [], -2147483648), (91, [1], [], 2147483647), (90, [2], [], -2147483648), (91, [2], [], 2147483647), (90, [3], [], -2147483648), (91, [3], [], 2147483647)], (3000, [8], [1], 29))
theorem c_285w_s_1 : vOkm T0 (eN e_285 L_285w A_285 mu_285 n_285 B_285 none) 4 g_285w_s_1 := vOk_inI fun ρ η f0 f1 f2 f3 f4 f5 f6 f7 f8 f9 f10 f11 f12 f13 f14 f15 f16 f17 f18 f19 f20 => q_285w_1 (n0 := ρ 3) (n1 := ρ 2) (n2 := ρ 1) (n3 := ρ 0) (n4 := ρ 4) (n5 := ρ 5) (n6 := ρ 6) (n7 := ρ 7) (n8 := ρ 8) (H0 := η 0) (H1 := η 1) f20 f19 f18 f17 f16 f15 f14 f13 f12 f11 f10 f9 f8 f7 f6 f5 f4 f3 f2 f1 f0
theorem q_285w_2 {n0 n1 n2 n3 n4 n5 n6 n7 n8 n9 n10 n11 n12 n13 : Int} {H0 H1 H2 H3 : gH} (f0 : n0 ≤ 2147483647) (f1 : (-2147483648) ≤ n0) (f2 : n1 ≤ 2147483647) (f3 : (-2147483648) ≤ n1) (f4 : n2 ≤ 2147483647) (f5 : (-2147483648) ≤ n2) (f6 : n3 = 285) (f7 : hWt T0 H0 ∧ preb_285 n3 n2 n1 n0 H0) (f8 : n4 ≤ 1) (f9 : 0 ≤ n4) (f10 : (hLe T0 H0 H1 ∧ hFr s_250.2.2.2.2 H0 H1 ∧ ((0 : Int) = 0 → H1.length = H0.length) ∧ hWt T0 H1) ∧ postb_250 n4 n3 n2 H0 H1) (f11 : n4 ≠ 0) (f12 : n5 = 328) (f13 : hK H1 (n3).toNat = 12) (f14 : n5 = hV H1 (n3).toNat 66) (f15 : n6 ≤ 6) (f16 : 0 ≤ n6) (f17 : n6 = hV H1 (n5).toNat (n2).toNat) (f18 : n7 = 6) (f19 : n6 = n7) (f20 : n8 ≤ 1) (f21 : 0 ≤ n8) (f22 : (hLe T0 H1 H2 ∧ hFr s_284.2.2.2.2 H1 H2 ∧ ((0 : Int) = 0 → H2.length = H1.length) ∧ hWt T0 H2) ∧ (postb_284 n8 n3 n1 n0 H1 H2 ∧ nb_284 n8 n3 n1 n0 H1 H2)) (f23 : n8 ≠ 0) (f24 : n9 ≤ 2147483647) (f25 : (-2147483648) ≤ n9) (f26 : (hLe T0 H2 H3 ∧ hFr s_278.2.2.2.2 H2 H3 ∧ ((0 : Int) = 0 → H3.length = H2.length) ∧ hWt T0 H3) ∧ postb_278 n9 n3 n1 H2 H3) (f27 : n10 = 1) (f28 : n11 ≤ 20) (f29 : 0 ≤ n11) (f30 : hK H3 (n3).toNat = 12) (f31 : n11 = hV H3 (n3).toNat 64) (f32 : n12 = o32 (fun x y => x <<< (y &&& 31)) n10 n11) (f33 : n12 ≤ n9) (f34 : n13 = (-2)) : nb_285 n13 n3 n2 n1 n0 H0 H3 := by
  unfold nb_285
  have c6 := f6
  have c12 := f12
  have c18 := f18
  have c27 := f27
  have c34 := f34
  have qs := f10.2
  unfold postb_250 at qs
  rw [show hV H1 285 64 = hV H0 285 64 from f10.1.2.1.1 285 64 (by decide +kernel)] at qs
  have r17 := f17
  rw [f12] at r17
  replace r17 : n6 = hV H1 328 (n2).toNat := r17
  rw [show hV H1 328 = hV H0 328 from fRow f10.1.2.1 328 (by decide +kernel)] at r17
  have ql := f22.2.2
  unfold nb_284 at ql
  rw [show hV H1 285 18 = hV H0 285 18 from f10.1.2.1.1 285 18 (by decide +kernel)] at ql
  rw [show hV H1 285 60 = hV H0 285 60 from f10.1.2.1.1 285 60 (by decide +kernel)] at ql
  rw [show hV H1 293 = hV H0 293 from fRow f10.1.2.1 293 (by decide +kernel)] at ql
  have il := (ql.resolve_right (fun w => by have := w.1; omega)).2
  have qy := f26.2
  unfold postb_278 at qy
  rw [show hV H3 296 = hV H0 296 from (fRow f26.1.2.1 296 (by decide +kernel)).trans ((fRow f22.1.2.1 296 (by decide +kernel)).trans (fRow f10.1.2.1 296 (by decide +kernel)))] at qy
  rw [show hV H3 298 = hV H0 298 from (fRow f26.1.2.1 298 (by decide +kernel)).trans ((fRow f22.1.2.1 298 (by decide +kernel)).trans (fRow f10.1.2.1 298 (by decide +kernel)))] at qy
  rw [show hV H3 300 = hV H0 300 from (fRow f26.1.2.1 300 (by decide +kernel)).trans ((fRow f22.1.2.1 300 (by decide +kernel)).trans (fRow f10.1.2.1 300 (by decide +kernel)))] at qy
  have r31 := f31
  rw [f6] at r31
  replace r31 : n11 = hV H3 285 64 := r31
  have e64 : n11 = hV H0 285 64 := r31.trans ((f26.1.2.1.1 285 64 (by decide +kernel)).trans ((f22.1.2.1.1 285 64 (by decide +kernel)).trans (f10.1.2.1.1 285 64 (by decide +kernel))))
  have shl := f32
  rw [e64] at shl
  have s20 : 0 ≤ hV H0 285 64 ∧ hV H0 285 64 ≤ 20 := by omega
  have bh := big_hi qy shl f27 s20.1 s20.2 (by omega) (by omega)
  refine .inr ⟨fun w => ?_, (fRow f26.1.2.1 335 (by decide +kernel)).trans ((fRow f22.1.2.1 335 (by decide +kernel)).trans (fRow f10.1.2.1 335 (by decide +kernel)))⟩
  obtain ⟨b, b1, b2, b3⟩ := bh
  have := w.2.1 b b1 b2
  omega
def g_285w_s_2 : vG := ([(0, [13], [], -2), (43, [9, 12], [], 0), (7, [12, 10, 11], [], 0), (20, [11, 0], [3], 64), (23, [0], [3], 12), (90, [11], [], 0), (91, [11], [], 20), (0, [10], [], 1), (1278, [9, 0, 2], [2, 3], 0), (90, [9], [], -2147483648), (91, [9], [], 2147483647), (31, [8], [], 0), (1284, [8, 0, 2, 3], [1, 2], 0), (90, [8], [], 0), (91, [8], [], 1), (40, [6, 7], [], 0), (0, [7], [], 6), (22, [6, 5, 1], [1], 0), (90, [6], [], 0), (91, [6], [], 6), (20, [5, 0], [1], 66), (23, [0], [1], 12), (0, [5], [], 328), (31, [4], [], 0), (1250, [4, 0, 1], [0, 1], 0), (90, [4], [], 0), (91, [4], [], 1), (6000, [0, 1, 2, 3], [0], 0), (0, [0], [], 285), (90, [1], [], -2147483648), (91, [1], [], 2147483647), (90, [2], [], -2147483648), (91, [2], [], 2147483647), (90, [3], [], -2147483648), (91, [3], [], 2147483647)], (3000, [13], [3], 60))
theorem c_285w_s_2 : vOkm T0 (eN e_285 L_285w A_285 mu_285 n_285 B_285 none) 4 g_285w_s_2 := vOk_inI fun ρ η f0 f1 f2 f3 f4 f5 f6 f7 f8 f9 f10 f11 f12 f13 f14 f15 f16 f17 f18 f19 f20 f21 f22 f23 f24 f25 f26 f27 f28 f29 f30 f31 f32 f33 f34 => q_285w_2 (n0 := ρ 3) (n1 := ρ 2) (n2 := ρ 1) (n3 := ρ 0) (n4 := ρ 4) (n5 := ρ 5) (n6 := ρ 6) (n7 := ρ 7) (n8 := ρ 8) (n9 := ρ 9) (n10 := ρ 10) (n11 := ρ 11) (n12 := ρ 12) (n13 := ρ 13) (H0 := η 0) (H1 := η 1) (H2 := η 2) (H3 := η 3) f34 f33 f32 f31 f30 f29 f28 f27 f26 f25 f24 f23 f22 f21 f20 f19 f18 f17 f16 f15 f14 f13 f12 f11 f10 f9 f8 f7 f6 f5 f4 f3 f2 f1 f0
theorem q_285w_3 {n0 n1 n2 n3 n4 n5 n6 n7 n8 n9 n10 n11 n12 n13 n14 n15 n16 n17 : Int} {H0 H1 H2 H3 : gH} (f0 : n0 ≤ 2147483647) (f1 : (-2147483648) ≤ n0) (f2 : n1 ≤ 2147483647) (f3 : (-2147483648) ≤ n1) (f4 : n2 ≤ 2147483647) (f5 : (-2147483648) ≤ n2) (f6 : n3 = 285) (f7 : hWt T0 H0 ∧ preb_285 n3 n2 n1 n0 H0) (f8 : n4 ≤ 1) (f9 : 0 ≤ n4) (f10 : (hLe T0 H0 H1 ∧ hFr s_250.2.2.2.2 H0 H1 ∧ ((0 : Int) = 0 → H1.length = H0.length) ∧ hWt T0 H1) ∧ postb_250 n4 n3 n2 H0 H1) (f11 : n4 ≠ 0) (f12 : n5 = 328) (f13 : hK H1 (n3).toNat = 12) (f14 : n5 = hV H1 (n3).toNat 66) (f15 : n6 ≤ 6) (f16 : 0 ≤ n6) (f17 : n6 = hV H1 (n5).toNat (n2).toNat) (f18 : n7 = 6) (f19 : n6 = n7) (f20 : n8 ≤ 1) (f21 : 0 ≤ n8) (f22 : (hLe T0 H1 H2 ∧ hFr s_284.2.2.2.2 H1 H2 ∧ ((0 : Int) = 0 → H2.length = H1.length) ∧ hWt T0 H2) ∧ (postb_284 n8 n3 n1 n0 H1 H2 ∧ nb_284 n8 n3 n1 n0 H1 H2)) (f23 : n8 ≠ 0) (f24 : n9 ≤ 2147483647) (f25 : (-2147483648) ≤ n9) (f26 : (hLe T0 H2 H3 ∧ hFr s_278.2.2.2.2 H2 H3 ∧ ((0 : Int) = 0 → H3.length = H2.length) ∧ hWt T0 H3) ∧ postb_278 n9 n3 n1 H2 H3) (f27 : n10 = 1) (f28 : n11 ≤ 20) (f29 : 0 ≤ n11) (f30 : hK H3 (n3).toNat = 12) (f31 : n11 = hV H3 (n3).toNat 64) (f32 : n12 = o32 (fun x y => x <<< (y &&& 31)) n10 n11) (f33 : n9 < n12) (f34 : n13 = o32 (fun x y => x >>> (y &&& 31)) n9 n2) (f35 : n14 = 1) (f36 : n15 = o32 (fun x y => x &&& y) n13 n14) (f37 : n16 = 1) (f38 : n15 ≠ n16) (f39 : n17 = 0) : Bb_285_64 n3 n2 n1 n0 n3 n2 n1 n0 n9 n17 H0 H3 := by
  unfold Bb_285_64
  have c6 := f6
  have c12 := f12
  have c18 := f18
  have c27 := f27
  have c35 := f35
  have c37 := f37
  have c39 := f39
  have qs := f10.2
  unfold postb_250 at qs
  rw [show hV H1 285 64 = hV H0 285 64 from f10.1.2.1.1 285 64 (by decide +kernel)] at qs
  have r17 := f17
  rw [f12] at r17
  replace r17 : n6 = hV H1 328 (n2).toNat := r17
  rw [show hV H1 328 = hV H0 328 from fRow f10.1.2.1 328 (by decide +kernel)] at r17
  have ql := f22.2.2
  unfold nb_284 at ql
  rw [show hV H1 285 18 = hV H0 285 18 from f10.1.2.1.1 285 18 (by decide +kernel)] at ql
  rw [show hV H1 285 60 = hV H0 285 60 from f10.1.2.1.1 285 60 (by decide +kernel)] at ql
  rw [show hV H1 293 = hV H0 293 from fRow f10.1.2.1 293 (by decide +kernel)] at ql
  have il := (ql.resolve_right (fun w => by have := w.1; omega)).2
  exact ⟨(fRow f26.1.2.1 335 (by decide +kernel)).trans ((fRow f22.1.2.1 335 (by decide +kernel)).trans (fRow f10.1.2.1 335 (by decide +kernel))), il.2.2.1, il.2.2.2, by omega⟩
def g_285w_s_3 : vG := ([(0, [17], [], 0), (41, [15, 16], [], 0), (0, [16], [], 1), (4, [15, 13, 14], [], 0), (0, [14], [], 1), (8, [13, 9, 1], [], 0), (42, [9, 12], [], 0), (7, [12, 10, 11], [], 0), (20, [11, 0], [3], 64), (23, [0], [3], 12), (90, [11], [], 0), (91, [11], [], 20), (0, [10], [], 1), (1278, [9, 0, 2], [2, 3], 0), (90, [9], [], -2147483648), (91, [9], [], 2147483647), (31, [8], [], 0), (1284, [8, 0, 2, 3], [1, 2], 0), (90, [8], [], 0), (91, [8], [], 1), (40, [6, 7], [], 0), (0, [7], [], 6), (22, [6, 5, 1], [1], 0), (90, [6], [], 0), (91, [6], [], 6), (20, [5, 0], [1], 66), (23, [0], [1], 12), (0, [5], [], 328), (31, [4], [], 0), (1250, [4, 0, 1], [0, 1], 0), (90, [4], [], 0), (91, [4], [], 1), (6000, [0, 1, 2, 3], [0], 0), (0, [0], [], 285), (90, [1], [], -2147483648), (91, [1], [], 2147483647), (90, [2], [], -2147483648), (91, [2], [], 2147483647), (90, [3], [], -2147483648), (91, [3], [], 2147483647)], (4000, [0, 1, 2, 3, 9, 17], [3], 64))
theorem c_285w_s_3 : vOkm T0 (eN e_285 L_285w A_285 mu_285 n_285 B_285 none) 4 g_285w_s_3 := vOk_inI fun ρ η f0 f1 f2 f3 f4 f5 f6 f7 f8 f9 f10 f11 f12 f13 f14 f15 f16 f17 f18 f19 f20 f21 f22 f23 f24 f25 f26 f27 f28 f29 f30 f31 f32 f33 f34 f35 f36 f37 f38 f39 => q_285w_3 (n0 := ρ 3) (n1 := ρ 2) (n2 := ρ 1) (n3 := ρ 0) (n4 := ρ 4) (n5 := ρ 5) (n6 := ρ 6) (n7 := ρ 7) (n8 := ρ 8) (n9 := ρ 9) (n10 := ρ 10) (n11 := ρ 11) (n12 := ρ 12) (n13 := ρ 13) (n14 := ρ 14) (n15 := ρ 15) (n16 := ρ 16) (n17 := ρ 17) (H0 := η 0) (H1 := η 1) (H2 := η 2) (H3 := η 3) f39 f38 f37 f36 f35 f34 f33 f32 f31 f30 f29 f28 f27 f26 f25 f24 f23 f22 f21 f20 f19 f18 f17 f16 f15 f14 f13 f12 f11 f10 f9 f8 f7 f6 f5 f4 f3 f2 f1 f0
theorem q_285w_4 {n0 n1 n2 n3 n4 n5 n6 n7 n8 n9 n10 n11 n12 n13 n14 n15 n16 n17 : Int} {H0 H1 H2 H3 : gH} (f0 : n0 ≤ 2147483647) (f1 : (-2147483648) ≤ n0) (f2 : n1 ≤ 2147483647) (f3 : (-2147483648) ≤ n1) (f4 : n2 ≤ 2147483647) (f5 : (-2147483648) ≤ n2) (f6 : n3 = 285) (f7 : hWt T0 H0 ∧ preb_285 n3 n2 n1 n0 H0) (f8 : n4 ≤ 1) (f9 : 0 ≤ n4) (f10 : (hLe T0 H0 H1 ∧ hFr s_250.2.2.2.2 H0 H1 ∧ ((0 : Int) = 0 → H1.length = H0.length) ∧ hWt T0 H1) ∧ postb_250 n4 n3 n2 H0 H1) (f11 : n4 ≠ 0) (f12 : n5 = 328) (f13 : hK H1 (n3).toNat = 12) (f14 : n5 = hV H1 (n3).toNat 66) (f15 : n6 ≤ 6) (f16 : 0 ≤ n6) (f17 : n6 = hV H1 (n5).toNat (n2).toNat) (f18 : n7 = 6) (f19 : n6 = n7) (f20 : n8 ≤ 1) (f21 : 0 ≤ n8) (f22 : (hLe T0 H1 H2 ∧ hFr s_284.2.2.2.2 H1 H2 ∧ ((0 : Int) = 0 → H2.length = H1.length) ∧ hWt T0 H2) ∧ (postb_284 n8 n3 n1 n0 H1 H2 ∧ nb_284 n8 n3 n1 n0 H1 H2)) (f23 : n8 ≠ 0) (f24 : n9 ≤ 2147483647) (f25 : (-2147483648) ≤ n9) (f26 : (hLe T0 H2 H3 ∧ hFr s_278.2.2.2.2 H2 H3 ∧ ((0 : Int) = 0 → H3.length = H2.length) ∧ hWt T0 H3) ∧ postb_278 n9 n3 n1 H2 H3) (f27 : n10 = 1) (f28 : n11 ≤ 20) (f29 : 0 ≤ n11) (f30 : hK H3 (n3).toNat = 12) (f31 : n11 = hV H3 (n3).toNat 64) (f32 : n12 = o32 (fun x y => x <<< (y &&& 31)) n10 n11) (f33 : n9 < n12) (f34 : n13 = o32 (fun x y => x >>> (y &&& 31)) n9 n2) (f35 : n14 = 1) (f36 : n15 = o32 (fun x y => x &&& y) n13 n14) (f37 : n16 = 1) (f38 : n15 = n16) (f39 : n17 = (-2)) : nb_285 n17 n3 n2 n1 n0 H0 H3 := by
  unfold nb_285
  have c6 := f6
  have c12 := f12
  have c18 := f18
  have c27 := f27
  have c35 := f35
  have c37 := f37
  have c39 := f39
  have qs := f10.2
  unfold postb_250 at qs
  rw [show hV H1 285 64 = hV H0 285 64 from f10.1.2.1.1 285 64 (by decide +kernel)] at qs
  have r17 := f17
  rw [f12] at r17
  replace r17 : n6 = hV H1 328 (n2).toNat := r17
  rw [show hV H1 328 = hV H0 328 from fRow f10.1.2.1 328 (by decide +kernel)] at r17
  have ql := f22.2.2
  unfold nb_284 at ql
  rw [show hV H1 285 18 = hV H0 285 18 from f10.1.2.1.1 285 18 (by decide +kernel)] at ql
  rw [show hV H1 285 60 = hV H0 285 60 from f10.1.2.1.1 285 60 (by decide +kernel)] at ql
  rw [show hV H1 293 = hV H0 293 from fRow f10.1.2.1 293 (by decide +kernel)] at ql
  have il := (ql.resolve_right (fun w => by have := w.1; omega)).2
  have qy := f26.2
  unfold postb_278 at qy
  rw [show hV H3 296 = hV H0 296 from (fRow f26.1.2.1 296 (by decide +kernel)).trans ((fRow f22.1.2.1 296 (by decide +kernel)).trans (fRow f10.1.2.1 296 (by decide +kernel)))] at qy
  rw [show hV H3 298 = hV H0 298 from (fRow f26.1.2.1 298 (by decide +kernel)).trans ((fRow f22.1.2.1 298 (by decide +kernel)).trans (fRow f10.1.2.1 298 (by decide +kernel)))] at qy
  rw [show hV H3 300 = hV H0 300 from (fRow f26.1.2.1 300 (by decide +kernel)).trans ((fRow f22.1.2.1 300 (by decide +kernel)).trans (fRow f10.1.2.1 300 (by decide +kernel)))] at qy
  have r31 := f31
  rw [f6] at r31
  replace r31 : n11 = hV H3 285 64 := r31
  have e64 : n11 = hV H0 285 64 := r31.trans ((f26.1.2.1.1 285 64 (by decide +kernel)).trans ((f22.1.2.1.1 285 64 (by decide +kernel)).trans (f10.1.2.1.1 285 64 (by decide +kernel))))
  have shl := f32
  rw [e64] at shl
  have s20 : 0 ≤ hV H0 285 64 ∧ hV H0 285 64 ≤ 20 := by omega
  have bt_ := bt_test f34 f36 f35 (by omega) (by omega)
  refine .inr ⟨fun w => ?_, (fRow f26.1.2.1 335 (by decide +kernel)).trans ((fRow f22.1.2.1 335 (by decide +kernel)).trans (fRow f10.1.2.1 335 (by decide +kernel)))⟩
  exact w.2.2.1 ((qy _ (by omega)).mp (bt_.1.mp (by omega)))
def g_285w_s_4 : vG := ([(0, [17], [], -2), (40, [15, 16], [], 0), (0, [16], [], 1), (4, [15, 13, 14], [], 0), (0, [14], [], 1), (8, [13, 9, 1], [], 0), (42, [9, 12], [], 0), (7, [12, 10, 11], [], 0), (20, [11, 0], [3], 64), (23, [0], [3], 12), (90, [11], [], 0), (91, [11], [], 20), (0, [10], [], 1), (1278, [9, 0, 2], [2, 3], 0), (90, [9], [], -2147483648), (91, [9], [], 2147483647), (31, [8], [], 0), (1284, [8, 0, 2, 3], [1, 2], 0), (90, [8], [], 0), (91, [8], [], 1), (40, [6, 7], [], 0), (0, [7], [], 6), (22, [6, 5, 1], [1], 0), (90, [6], [], 0), (91, [6], [], 6), (20, [5, 0], [1], 66), (23, [0], [1], 12), (0, [5], [], 328), (31, [4], [], 0), (1250, [4, 0, 1], [0, 1], 0), (90, [4], [], 0), (91, [4], [], 1), (6000, [0, 1, 2, 3], [0], 0), (0, [0], [], 285), (90, [1], [], -2147483648), (91, [1], [], 2147483647), (90, [2], [], -2147483648), (91, [2], [], 2147483647), (90, [3], [], -2147483648), (91, [3], [], 2147483647)], (3000, [17], [3], 60))
theorem c_285w_s_4 : vOkm T0 (eN e_285 L_285w A_285 mu_285 n_285 B_285 none) 4 g_285w_s_4 := vOk_inI fun ρ η f0 f1 f2 f3 f4 f5 f6 f7 f8 f9 f10 f11 f12 f13 f14 f15 f16 f17 f18 f19 f20 f21 f22 f23 f24 f25 f26 f27 f28 f29 f30 f31 f32 f33 f34 f35 f36 f37 f38 f39 => q_285w_4 (n0 := ρ 3) (n1 := ρ 2) (n2 := ρ 1) (n3 := ρ 0) (n4 := ρ 4) (n5 := ρ 5) (n6 := ρ 6) (n7 := ρ 7) (n8 := ρ 8) (n9 := ρ 9) (n10 := ρ 10) (n11 := ρ 11) (n12 := ρ 12) (n13 := ρ 13) (n14 := ρ 14) (n15 := ρ 15) (n16 := ρ 16) (n17 := ρ 17) (H0 := η 0) (H1 := η 1) (H2 := η 2) (H3 := η 3) f39 f38 f37 f36 f35 f34 f33 f32 f31 f30 f29 f28 f27 f26 f25 f24 f23 f22 f21 f20 f19 f18 f17 f16 f15 f14 f13 f12 f11 f10 f9 f8 f7 f6 f5 f4 f3 f2 f1 f0
theorem q_285w_5 {n0 n1 n2 n3 n4 n5 n6 n7 n8 n9 : Int} {H0 H1 H2 : gH} (f0 : n0 ≤ 2147483647) (f1 : (-2147483648) ≤ n0) (f2 : n1 ≤ 2147483647) (f3 : (-2147483648) ≤ n1) (f4 : n2 ≤ 2147483647) (f5 : (-2147483648) ≤ n2) (f6 : n3 = 285) (f7 : hWt T0 H0 ∧ preb_285 n3 n2 n1 n0 H0) (f8 : n4 ≤ 1) (f9 : 0 ≤ n4) (f10 : (hLe T0 H0 H1 ∧ hFr s_250.2.2.2.2 H0 H1 ∧ ((0 : Int) = 0 → H1.length = H0.length) ∧ hWt T0 H1) ∧ postb_250 n4 n3 n2 H0 H1) (f11 : n4 ≠ 0) (f12 : n5 = 328) (f13 : hK H1 (n3).toNat = 12) (f14 : n5 = hV H1 (n3).toNat 66) (f15 : n6 ≤ 6) (f16 : 0 ≤ n6) (f17 : n6 = hV H1 (n5).toNat (n2).toNat) (f18 : n7 = 6) (f19 : n6 = n7) (f20 : n8 ≤ 1) (f21 : 0 ≤ n8) (f22 : (hLe T0 H1 H2 ∧ hFr s_284.2.2.2.2 H1 H2 ∧ ((0 : Int) = 0 → H2.length = H1.length) ∧ hWt T0 H2) ∧ (postb_284 n8 n3 n1 n0 H1 H2 ∧ nb_284 n8 n3 n1 n0 H1 H2)) (f23 : n8 = 0) (f24 : n9 = (-1)) : nb_285 n9 n3 n2 n1 n0 H0 H2 := by
  unfold nb_285
  have c6 := f6
  have c12 := f12
  have c18 := f18
  have c24 := f24
  have qs := f10.2
  unfold postb_250 at qs
  rw [show hV H1 285 64 = hV H0 285 64 from f10.1.2.1.1 285 64 (by decide +kernel)] at qs
  have r17 := f17
  rw [f12] at r17
  replace r17 : n6 = hV H1 328 (n2).toNat := r17
  rw [show hV H1 328 = hV H0 328 from fRow f10.1.2.1 328 (by decide +kernel)] at r17
  have ql := f22.2.2
  unfold nb_284 at ql
  rw [show hV H1 285 18 = hV H0 285 18 from f10.1.2.1.1 285 18 (by decide +kernel)] at ql
  rw [show hV H1 285 60 = hV H0 285 60 from f10.1.2.1.1 285 60 (by decide +kernel)] at ql
  rw [show hV H1 293 = hV H0 293 from fRow f10.1.2.1 293 (by decide +kernel)] at ql
  refine .inr ⟨fun w => ?_, (fRow f22.1.2.1 335 (by decide +kernel)).trans (fRow f10.1.2.1 335 (by decide +kernel))⟩
  obtain ⟨⟨_, w2, w3, w4, w5⟩, _⟩ := w
  rcases ql with v | v
  · omega
  · exact v.2 ⟨w2, w3, w4, w5⟩
def g_285w_s_5 : vG := ([(0, [9], [], -1), (30, [8], [], 0), (1284, [8, 0, 2, 3], [1, 2], 0), (90, [8], [], 0), (91, [8], [], 1), (40, [6, 7], [], 0), (0, [7], [], 6), (22, [6, 5, 1], [1], 0), (90, [6], [], 0), (91, [6], [], 6), (20, [5, 0], [1], 66), (23, [0], [1], 12), (0, [5], [], 328), (31, [4], [], 0), (1250, [4, 0, 1], [0, 1], 0), (90, [4], [], 0), (91, [4], [], 1), (6000, [0, 1, 2, 3], [0], 0), (0, [0], [], 285), (90, [1], [], -2147483648), (91, [1], [], 2147483647), (90, [2], [], -2147483648), (91, [2], [], 2147483647), (90, [3], [], -2147483648), (91, [3], [], 2147483647)], (3000, [9], [2], 29))
theorem c_285w_s_5 : vOkm T0 (eN e_285 L_285w A_285 mu_285 n_285 B_285 none) 4 g_285w_s_5 := vOk_inI fun ρ η f0 f1 f2 f3 f4 f5 f6 f7 f8 f9 f10 f11 f12 f13 f14 f15 f16 f17 f18 f19 f20 f21 f22 f23 f24 => q_285w_5 (n0 := ρ 3) (n1 := ρ 2) (n2 := ρ 1) (n3 := ρ 0) (n4 := ρ 4) (n5 := ρ 5) (n6 := ρ 6) (n7 := ρ 7) (n8 := ρ 8) (n9 := ρ 9) (H0 := η 0) (H1 := η 1) (H2 := η 2) f24 f23 f22 f21 f20 f19 f18 f17 f16 f15 f14 f13 f12 f11 f10 f9 f8 f7 f6 f5 f4 f3 f2 f1 f0
def p_285w_s : List vG := [g_285w_s_0,
  g_285w_s_1,
  g_285w_s_2,
  g_285w_s_3,
  g_285w_s_4,
  g_285w_s_5]
theorem r_285w_s : vCovBO (eR0 e_285 L_285 cs_285 2000) p_285w_s = true := by decide +kernel
theorem q_285w_6 {q0 : Nat} {n0 n1 n2 n3 n4 n5 n6 n7 n8 n9 n10 n11 : Int} {H0 H1 H2 : gH} (f0 : n0 ≤ 20) (f1 : 0 ≤ n0) (f2 : n1 ≤ 2147483647) (f3 : (-2147483648) ≤ n1) (f4 : n2 ≤ 2147483647) (f5 : (-2147483648) ≤ n2) (f6 : n3 ≤ 2147483647) (f7 : (-2147483648) ≤ n3) (f8 : n4 ≤ 2147483647) (f9 : (-2147483648) ≤ n4) (f10 : n5 = 285) (f11 : n6 ≤ 2147483647) (f12 : (-2147483648) ≤ n6) (f13 : n7 ≤ 2147483647) (f14 : (-2147483648) ≤ n7) (f15 : n8 ≤ 2147483647) (f16 : (-2147483648) ≤ n8) (f17 : n9 = 285) (f18 : (hLe T0 H0 H1 ∧ hFr s_285.2.2.2.2 H0 H1 ∧ hWt T0 H1) ∧ ((Ab_285_64 n9 n8 n7 n6 n5 n4 n3 n2 n1 n0 H0 H1 ∧ Bb_285_64 n9 n8 n7 n6 n5 n4 n3 n2 n1 n0 H0 H1) ∧ preb_285 n9 n8 n7 n6 H0) ∧ some q0 = some (mub_285_64 n9 n8 n7 n6 n5 n4 n3 n2 n1 n0 H0 H1)) (f19 : n10 ≤ 20) (f20 : 0 ≤ n10) (f21 : hK H1 (n5).toNat = 12) (f22 : n10 = hV H1 (n5).toNat 64) (f23 : n10 ≤ n0) (f24 : n11 ≤ 2147483647) (f25 : (-2147483648) ≤ n11) (f26 : (hLe T0 H1 H2 ∧ hFr s_283.2.2.2.2 H1 H2 ∧ ((0 : Int) = 0 → H2.length = H1.length) ∧ hWt T0 H2) ∧ postb_283 n11 n5 n4 n3 n2 H1 H2) : nb_285 n11 n9 n8 n7 n6 H0 H2 := by
  have c10 := f10
  have c17 := f17
  have gb := f18.2.1.1.2
  unfold Bb_285_64 at gb
  obtain ⟨g335, g60, g93, g0⟩ := gb
  have aa := f18.2.1.1.1
  unfold Ab_285_64 at aa
  obtain ⟨x1, x2, x3, aL, aM, aS, aN, a0, aU, aK, b0, bU, d0, d5, _⟩ := aa
  have y328 : hV H1 328 = hV H0 328 := fRow f18.1.2.1 328 (by decide +kernel)
  have y332 : hV H1 332 = hV H0 332 := fRow f18.1.2.1 332 (by decide +kernel)
  have y296 : hV H1 296 = hV H0 296 := fRow f18.1.2.1 296 (by decide +kernel)
  have y298 : hV H1 298 = hV H0 298 := fRow f18.1.2.1 298 (by decide +kernel)
  have y300 : hV H1 300 = hV H0 300 := fRow f18.1.2.1 300 (by decide +kernel)
  have y64 : hV H1 285 64 = hV H0 285 64 := f18.1.2.1.1 285 64 (by decide +kernel)
  have y18 : hV H1 285 18 = hV H0 285 18 := f18.1.2.1.1 285 18 (by decide +kernel)
  rw [y296, y298, y300] at aL
  rw [y296, y298, y300, y328, y332, g335, y64] at aM
  rw [y296, y298, y300, y64] at aS
  rw [y296, y298, y300] at aN
  rw [y328] at aK
  rw [y64] at aU
  rw [y18] at bU
  have cm : CMR H0 n8 n7 n6 := ⟨⟨a0, aU, aK⟩, ⟨b0, bU⟩, d0, g60, g93⟩
  have r22 := f22
  rw [f10] at r22
  replace r22 : n10 = hV H1 285 64 := r22
  unfold nb_285
  have my : MYp (hV H0 285 64) (RNX H0) (RLY H0 (n7).toNat) (n8).toNat := ⟨fun q _ w => aS q w, aN, fun q hq w => aM q (by omega) w⟩
  have qm := f26.2
  unfold postb_283 at qm
  have e5 := qm.2.2.2.2
  rw [x1, x2, g335] at e5
  exact .inl ⟨⟨cm, my⟩, e5⟩
def g_285w_64_0 : vG := ([(1283, [11, 4, 5, 6, 7], [1, 2], 0), (90, [11], [], -2147483648), (91, [11], [], 2147483647), (43, [9, 10], [], 0), (20, [10, 4], [1], 64), (23, [4], [1], 12), (90, [10], [], 0), (91, [10], [], 20), (5000, [0, 1, 2, 3, 4, 5, 6, 7, 8, 9], [0, 1], 64), (0, [0], [], 285), (90, [1], [], -2147483648), (91, [1], [], 2147483647), (90, [2], [], -2147483648), (91, [2], [], 2147483647), (90, [3], [], -2147483648), (91, [3], [], 2147483647), (0, [4], [], 285), (90, [5], [], -2147483648), (91, [5], [], 2147483647), (90, [6], [], -2147483648), (91, [6], [], 2147483647), (90, [7], [], -2147483648), (91, [7], [], 2147483647), (90, [8], [], -2147483648), (91, [8], [], 2147483647), (90, [9], [], 0), (91, [9], [], 20)], (3000, [11], [2], 114))
theorem c_285w_64_0 {q0 : Nat} : vOkm T0 (eN e_285 L_285w A_285 mu_285 n_285 B_285 (some q0)) 4 g_285w_64_0 := vOk_inI fun ρ η f0 f1 f2 f3 f4 f5 f6 f7 f8 f9 f10 f11 f12 f13 f14 f15 f16 f17 f18 f19 f20 f21 f22 f23 f24 f25 f26 => q_285w_6 (q0 := q0) (n0 := ρ 9) (n1 := ρ 8) (n2 := ρ 7) (n3 := ρ 6) (n4 := ρ 5) (n5 := ρ 4) (n6 := ρ 3) (n7 := ρ 2) (n8 := ρ 1) (n9 := ρ 0) (n10 := ρ 10) (n11 := ρ 11) (H0 := η 0) (H1 := η 1) (H2 := η 2) f26 f25 f24 f23 f22 f21 f20 f19 f18 f17 f16 f15 f14 f13 f12 f11 f10 f9 f8 f7 f6 f5 f4 f3 f2 f1 f0
theorem q_285w_7 {q0 : Nat} {n0 n1 n2 n3 n4 n5 n6 n7 n8 n9 n10 n11 n12 n13 n14 n15 : Int} {H0 H1 : gH} (f0 : n0 ≤ 20) (f1 : 0 ≤ n0) (f2 : n1 ≤ 2147483647) (f3 : (-2147483648) ≤ n1) (f4 : n2 ≤ 2147483647) (f5 : (-2147483648) ≤ n2) (f6 : n3 ≤ 2147483647) (f7 : (-2147483648) ≤ n3) (f8 : n4 ≤ 2147483647) (f9 : (-2147483648) ≤ n4) (f10 : n5 = 285) (f11 : n6 ≤ 2147483647) (f12 : (-2147483648) ≤ n6) (f13 : n7 ≤ 2147483647) (f14 : (-2147483648) ≤ n7) (f15 : n8 ≤ 2147483647) (f16 : (-2147483648) ≤ n8) (f17 : n9 = 285) (f18 : (hLe T0 H0 H1 ∧ hFr s_285.2.2.2.2 H0 H1 ∧ hWt T0 H1) ∧ ((Ab_285_64 n9 n8 n7 n6 n5 n4 n3 n2 n1 n0 H0 H1 ∧ Bb_285_64 n9 n8 n7 n6 n5 n4 n3 n2 n1 n0 H0 H1) ∧ preb_285 n9 n8 n7 n6 H0) ∧ some q0 = some (mub_285_64 n9 n8 n7 n6 n5 n4 n3 n2 n1 n0 H0 H1)) (f19 : n10 ≤ 20) (f20 : 0 ≤ n10) (f21 : hK H1 (n5).toNat = 12) (f22 : n10 = hV H1 (n5).toNat 64) (f23 : n0 < n10) (f24 : n11 = o32 (fun x y => x >>> (y &&& 31)) n1 n0) (f25 : n12 = 1) (f26 : n13 = o32 (fun x y => x &&& y) n11 n12) (f27 : n14 = 1) (f28 : n13 ≠ n14) (f29 : n15 = w32 (n0 + 1)) : Bb_285_64 n9 n8 n7 n6 n5 n4 n3 n2 n1 n15 H0 H1 := by
  have c10 := f10
  have c17 := f17
  have c25 := f25
  have c27 := f27
  have w29 := f29
  unfold w32 at w29
  have gb := f18.2.1.1.2
  unfold Bb_285_64 at gb
  obtain ⟨g335, g60, g93, g0⟩ := gb
  have aa := f18.2.1.1.1
  unfold Ab_285_64 at aa
  obtain ⟨x1, x2, x3, aL, aM, aS, aN, a0, aU, aK, b0, bU, d0, d5, _⟩ := aa
  have y328 : hV H1 328 = hV H0 328 := fRow f18.1.2.1 328 (by decide +kernel)
  have y332 : hV H1 332 = hV H0 332 := fRow f18.1.2.1 332 (by decide +kernel)
  have y296 : hV H1 296 = hV H0 296 := fRow f18.1.2.1 296 (by decide +kernel)
  have y298 : hV H1 298 = hV H0 298 := fRow f18.1.2.1 298 (by decide +kernel)
  have y300 : hV H1 300 = hV H0 300 := fRow f18.1.2.1 300 (by decide +kernel)
  have y64 : hV H1 285 64 = hV H0 285 64 := f18.1.2.1.1 285 64 (by decide +kernel)
  have y18 : hV H1 285 18 = hV H0 285 18 := f18.1.2.1.1 285 18 (by decide +kernel)
  rw [y296, y298, y300] at aL
  rw [y296, y298, y300, y328, y332, g335, y64] at aM
  rw [y296, y298, y300, y64] at aS
  rw [y296, y298, y300] at aN
  rw [y328] at aK
  rw [y64] at aU
  rw [y18] at bU
  have cm : CMR H0 n8 n7 n6 := ⟨⟨a0, aU, aK⟩, ⟨b0, bU⟩, d0, g60, g93⟩
  have r22 := f22
  rw [f10] at r22
  replace r22 : n10 = hV H1 285 64 := r22
  unfold Bb_285_64
  exact ⟨(rfl).trans g335, g60, g93, by omega⟩
def g_285w_64_1 : vG := ([(10, [15, 9], [], 1), (41, [13, 14], [], 0), (0, [14], [], 1), (4, [13, 11, 12], [], 0), (0, [12], [], 1), (8, [11, 8, 9], [], 0), (42, [9, 10], [], 0), (20, [10, 4], [1], 64), (23, [4], [1], 12), (90, [10], [], 0), (91, [10], [], 20), (5000, [0, 1, 2, 3, 4, 5, 6, 7, 8, 9], [0, 1], 64), (0, [0], [], 285), (90, [1], [], -2147483648), (91, [1], [], 2147483647), (90, [2], [], -2147483648), (91, [2], [], 2147483647), (90, [3], [], -2147483648), (91, [3], [], 2147483647), (0, [4], [], 285), (90, [5], [], -2147483648), (91, [5], [], 2147483647), (90, [6], [], -2147483648), (91, [6], [], 2147483647), (90, [7], [], -2147483648), (91, [7], [], 2147483647), (90, [8], [], -2147483648), (91, [8], [], 2147483647), (90, [9], [], 0), (91, [9], [], 20)], (4000, [4, 5, 6, 7, 8, 15], [1], 64))
theorem c_285w_64_1 {q0 : Nat} : vOkm T0 (eN e_285 L_285w A_285 mu_285 n_285 B_285 (some q0)) 4 g_285w_64_1 := vOk_inI fun ρ η f0 f1 f2 f3 f4 f5 f6 f7 f8 f9 f10 f11 f12 f13 f14 f15 f16 f17 f18 f19 f20 f21 f22 f23 f24 f25 f26 f27 f28 f29 => q_285w_7 (q0 := q0) (n0 := ρ 9) (n1 := ρ 8) (n2 := ρ 7) (n3 := ρ 6) (n4 := ρ 5) (n5 := ρ 4) (n6 := ρ 3) (n7 := ρ 2) (n8 := ρ 1) (n9 := ρ 0) (n10 := ρ 10) (n11 := ρ 11) (n12 := ρ 12) (n13 := ρ 13) (n14 := ρ 14) (n15 := ρ 15) (H0 := η 0) (H1 := η 1) f29 f28 f27 f26 f25 f24 f23 f22 f21 f20 f19 f18 f17 f16 f15 f14 f13 f12 f11 f10 f9 f8 f7 f6 f5 f4 f3 f2 f1 f0
theorem q_285w_8 {q0 : Nat} {n0 n1 n2 n3 n4 n5 n6 n7 n8 n9 n10 n11 n12 n13 n14 n15 n16 n17 n18 n19 n20 : Int} {H0 H1 H2 : gH} (f0 : n0 ≤ 20) (f1 : 0 ≤ n0) (f2 : n1 ≤ 2147483647) (f3 : (-2147483648) ≤ n1) (f4 : n2 ≤ 2147483647) (f5 : (-2147483648) ≤ n2) (f6 : n3 ≤ 2147483647) (f7 : (-2147483648) ≤ n3) (f8 : n4 ≤ 2147483647) (f9 : (-2147483648) ≤ n4) (f10 : n5 = 285) (f11 : n6 ≤ 2147483647) (f12 : (-2147483648) ≤ n6) (f13 : n7 ≤ 2147483647) (f14 : (-2147483648) ≤ n7) (f15 : n8 ≤ 2147483647) (f16 : (-2147483648) ≤ n8) (f17 : n9 = 285) (f18 : (hLe T0 H0 H1 ∧ hFr s_285.2.2.2.2 H0 H1 ∧ hWt T0 H1) ∧ ((Ab_285_64 n9 n8 n7 n6 n5 n4 n3 n2 n1 n0 H0 H1 ∧ Bb_285_64 n9 n8 n7 n6 n5 n4 n3 n2 n1 n0 H0 H1) ∧ preb_285 n9 n8 n7 n6 H0) ∧ some q0 = some (mub_285_64 n9 n8 n7 n6 n5 n4 n3 n2 n1 n0 H0 H1)) (f19 : n10 ≤ 20) (f20 : 0 ≤ n10) (f21 : hK H1 (n5).toNat = 12) (f22 : n10 = hV H1 (n5).toNat 64) (f23 : n0 < n10) (f24 : n11 = o32 (fun x y => x >>> (y &&& 31)) n1 n0) (f25 : n12 = 1) (f26 : n13 = o32 (fun x y => x &&& y) n11 n12) (f27 : n14 = 1) (f28 : n13 = n14) (f29 : n15 ≤ 2147483647) (f30 : (-2147483648) ≤ n15) (f31 : (hLe T0 H1 H2 ∧ hFr s_280.2.2.2.2 H1 H2 ∧ ((0 : Int) = 0 → H2.length = H1.length) ∧ hWt T0 H2) ∧ postb_280 n15 n5 n0 H1 H2) (f32 : n16 = o32 (fun x y => x >>> (y &&& 31)) n15 n4) (f33 : n17 = 1) (f34 : n18 = o32 (fun x y => x &&& y) n16 n17) (f35 : n19 = 1) (f36 : n18 ≠ n19) (f37 : n20 = w32 (n0 + 1)) : Bb_285_64 n9 n8 n7 n6 n5 n4 n3 n2 n1 n20 H0 H2 := by
  have c10 := f10
  have c17 := f17
  have c25 := f25
  have c27 := f27
  have c33 := f33
  have c35 := f35
  have w37 := f37
  unfold w32 at w37
  have gb := f18.2.1.1.2
  unfold Bb_285_64 at gb
  obtain ⟨g335, g60, g93, g0⟩ := gb
  have aa := f18.2.1.1.1
  unfold Ab_285_64 at aa
  obtain ⟨x1, x2, x3, aL, aM, aS, aN, a0, aU, aK, b0, bU, d0, d5, _⟩ := aa
  have y328 : hV H1 328 = hV H0 328 := fRow f18.1.2.1 328 (by decide +kernel)
  have y332 : hV H1 332 = hV H0 332 := fRow f18.1.2.1 332 (by decide +kernel)
  have y296 : hV H1 296 = hV H0 296 := fRow f18.1.2.1 296 (by decide +kernel)
  have y298 : hV H1 298 = hV H0 298 := fRow f18.1.2.1 298 (by decide +kernel)
  have y300 : hV H1 300 = hV H0 300 := fRow f18.1.2.1 300 (by decide +kernel)
  have y64 : hV H1 285 64 = hV H0 285 64 := f18.1.2.1.1 285 64 (by decide +kernel)
  have y18 : hV H1 285 18 = hV H0 285 18 := f18.1.2.1.1 285 18 (by decide +kernel)
  rw [y296, y298, y300] at aL
  rw [y296, y298, y300, y328, y332, g335, y64] at aM
  rw [y296, y298, y300, y64] at aS
  rw [y296, y298, y300] at aN
  rw [y328] at aK
  rw [y64] at aU
  rw [y18] at bU
  have cm : CMR H0 n8 n7 n6 := ⟨⟨a0, aU, aK⟩, ⟨b0, bU⟩, d0, g60, g93⟩
  have r22 := f22
  rw [f10] at r22
  replace r22 : n10 = hV H1 285 64 := r22
  unfold Bb_285_64
  exact ⟨(fRow f31.1.2.1 335 (by decide +kernel)).trans g335, g60, g93, by omega⟩
def g_285w_64_2 : vG := ([(10, [20, 9], [], 1), (41, [18, 19], [], 0), (0, [19], [], 1), (4, [18, 16, 17], [], 0), (0, [17], [], 1), (8, [16, 15, 5], [], 0), (1280, [15, 4, 9], [1, 2], 0), (90, [15], [], -2147483648), (91, [15], [], 2147483647), (40, [13, 14], [], 0), (0, [14], [], 1), (4, [13, 11, 12], [], 0), (0, [12], [], 1), (8, [11, 8, 9], [], 0), (42, [9, 10], [], 0), (20, [10, 4], [1], 64), (23, [4], [1], 12), (90, [10], [], 0), (91, [10], [], 20), (5000, [0, 1, 2, 3, 4, 5, 6, 7, 8, 9], [0, 1], 64), (0, [0], [], 285), (90, [1], [], -2147483648), (91, [1], [], 2147483647), (90, [2], [], -2147483648), (91, [2], [], 2147483647), (90, [3], [], -2147483648), (91, [3], [], 2147483647), (0, [4], [], 285), (90, [5], [], -2147483648), (91, [5], [], 2147483647), (90, [6], [], -2147483648), (91, [6], [], 2147483647), (90, [7], [], -2147483648), (91, [7], [], 2147483647), (90, [8], [], -2147483648), (91, [8], [], 2147483647), (90, [9], [], 0), (91, [9], [], 20)], (4000, [4, 5, 6, 7, 8, 20], [2], 64))
theorem c_285w_64_2 {q0 : Nat} : vOkm T0 (eN e_285 L_285w A_285 mu_285 n_285 B_285 (some q0)) 4 g_285w_64_2 := vOk_inI fun ρ η f0 f1 f2 f3 f4 f5 f6 f7 f8 f9 f10 f11 f12 f13 f14 f15 f16 f17 f18 f19 f20 f21 f22 f23 f24 f25 f26 f27 f28 f29 f30 f31 f32 f33 f34 f35 f36 f37 => q_285w_8 (q0 := q0) (n0 := ρ 9) (n1 := ρ 8) (n2 := ρ 7) (n3 := ρ 6) (n4 := ρ 5) (n5 := ρ 4) (n6 := ρ 3) (n7 := ρ 2) (n8 := ρ 1) (n9 := ρ 0) (n10 := ρ 10) (n11 := ρ 11) (n12 := ρ 12) (n13 := ρ 13) (n14 := ρ 14) (n15 := ρ 15) (n16 := ρ 16) (n17 := ρ 17) (n18 := ρ 18) (n19 := ρ 19) (n20 := ρ 20) (H0 := η 0) (H1 := η 1) (H2 := η 2) f37 f36 f35 f34 f33 f32 f31 f30 f29 f28 f27 f26 f25 f24 f23 f22 f21 f20 f19 f18 f17 f16 f15 f14 f13 f12 f11 f10 f9 f8 f7 f6 f5 f4 f3 f2 f1 f0
theorem q_285w_9 {q0 : Nat} {n0 n1 n2 n3 n4 n5 n6 n7 n8 n9 n10 n11 n12 n13 n14 n15 n16 n17 n18 n19 n20 : Int} {H0 H1 H2 : gH} (f0 : n0 ≤ 20) (f1 : 0 ≤ n0) (f2 : n1 ≤ 2147483647) (f3 : (-2147483648) ≤ n1) (f4 : n2 ≤ 2147483647) (f5 : (-2147483648) ≤ n2) (f6 : n3 ≤ 2147483647) (f7 : (-2147483648) ≤ n3) (f8 : n4 ≤ 2147483647) (f9 : (-2147483648) ≤ n4) (f10 : n5 = 285) (f11 : n6 ≤ 2147483647) (f12 : (-2147483648) ≤ n6) (f13 : n7 ≤ 2147483647) (f14 : (-2147483648) ≤ n7) (f15 : n8 ≤ 2147483647) (f16 : (-2147483648) ≤ n8) (f17 : n9 = 285) (f18 : (hLe T0 H0 H1 ∧ hFr s_285.2.2.2.2 H0 H1 ∧ hWt T0 H1) ∧ ((Ab_285_64 n9 n8 n7 n6 n5 n4 n3 n2 n1 n0 H0 H1 ∧ Bb_285_64 n9 n8 n7 n6 n5 n4 n3 n2 n1 n0 H0 H1) ∧ preb_285 n9 n8 n7 n6 H0) ∧ some q0 = some (mub_285_64 n9 n8 n7 n6 n5 n4 n3 n2 n1 n0 H0 H1)) (f19 : n10 ≤ 20) (f20 : 0 ≤ n10) (f21 : hK H1 (n5).toNat = 12) (f22 : n10 = hV H1 (n5).toNat 64) (f23 : n0 < n10) (f24 : n11 = o32 (fun x y => x >>> (y &&& 31)) n1 n0) (f25 : n12 = 1) (f26 : n13 = o32 (fun x y => x &&& y) n11 n12) (f27 : n14 = 1) (f28 : n13 = n14) (f29 : n15 ≤ 2147483647) (f30 : (-2147483648) ≤ n15) (f31 : (hLe T0 H1 H2 ∧ hFr s_280.2.2.2.2 H1 H2 ∧ ((0 : Int) = 0 → H2.length = H1.length) ∧ hWt T0 H2) ∧ postb_280 n15 n5 n0 H1 H2) (f32 : n16 = o32 (fun x y => x >>> (y &&& 31)) n15 n4) (f33 : n17 = 1) (f34 : n18 = o32 (fun x y => x &&& y) n16 n17) (f35 : n19 = 1) (f36 : n18 = n19) (f37 : n20 = (-2)) : nb_285 n20 n9 n8 n7 n6 H0 H2 := by
  have c10 := f10
  have c17 := f17
  have c25 := f25
  have c27 := f27
  have c33 := f33
  have c35 := f35
  have c37 := f37
  have gb := f18.2.1.1.2
  unfold Bb_285_64 at gb
  obtain ⟨g335, g60, g93, g0⟩ := gb
  have aa := f18.2.1.1.1
  unfold Ab_285_64 at aa
  obtain ⟨x1, x2, x3, aL, aM, aS, aN, a0, aU, aK, b0, bU, d0, d5, _⟩ := aa
  have y328 : hV H1 328 = hV H0 328 := fRow f18.1.2.1 328 (by decide +kernel)
  have y332 : hV H1 332 = hV H0 332 := fRow f18.1.2.1 332 (by decide +kernel)
  have y296 : hV H1 296 = hV H0 296 := fRow f18.1.2.1 296 (by decide +kernel)
  have y298 : hV H1 298 = hV H0 298 := fRow f18.1.2.1 298 (by decide +kernel)
  have y300 : hV H1 300 = hV H0 300 := fRow f18.1.2.1 300 (by decide +kernel)
  have y64 : hV H1 285 64 = hV H0 285 64 := f18.1.2.1.1 285 64 (by decide +kernel)
  have y18 : hV H1 285 18 = hV H0 285 18 := f18.1.2.1.1 285 18 (by decide +kernel)
  rw [y296, y298, y300] at aL
  rw [y296, y298, y300, y328, y332, g335, y64] at aM
  rw [y296, y298, y300, y64] at aS
  rw [y296, y298, y300] at aN
  rw [y328] at aK
  rw [y64] at aU
  rw [y18] at bU
  have cm : CMR H0 n8 n7 n6 := ⟨⟨a0, aU, aK⟩, ⟨b0, bU⟩, d0, g60, g93⟩
  have r22 := f22
  rw [f10] at r22
  replace r22 : n10 = hV H1 285 64 := r22
  unfold nb_285
  have ql := f31.2
  unfold postb_280 at ql
  rw [show hV H2 328 = hV H0 328 from (fRow f31.1.2.1 328 (by decide +kernel)).trans y328] at ql
  rw [show hV H2 332 = hV H0 332 from (fRow f31.1.2.1 332 (by decide +kernel)).trans y332] at ql
  rw [show hV H2 296 = hV H0 296 from (fRow f31.1.2.1 296 (by decide +kernel)).trans y296] at ql
  rw [show hV H2 298 = hV H0 298 from (fRow f31.1.2.1 298 (by decide +kernel)).trans y298] at ql
  rw [show hV H2 300 = hV H0 300 from (fRow f31.1.2.1 300 (by decide +kernel)).trans y300] at ql
  rw [show hV H2 335 = hV H0 335 from (fRow f31.1.2.1 335 (by decide +kernel)).trans g335, show hV H2 285 64 = hV H0 285 64 from (f31.1.2.1.1 285 64 (by decide +kernel)).trans y64] at ql
  have t1 := bt_test f24 f26 f25 (by omega) (by omega)
  have t2 := bt_test f32 f34 f33 (by omega) (by omega)
  rw [x1] at t2
  refine .inr ⟨fun w => ?_, (fRow f31.1.2.1 335 (by decide +kernel)).trans g335⟩
  exact w.2.2.2 (n0).toNat (by omega) ((aL _ (by omega)).mp (t1.1.mp (by omega))) ((ql _ (by omega)).mp (t2.1.mp (by omega)))
def g_285w_64_3 : vG := ([(0, [20], [], -2), (40, [18, 19], [], 0), (0, [19], [], 1), (4, [18, 16, 17], [], 0), (0, [17], [], 1), (8, [16, 15, 5], [], 0), (1280, [15, 4, 9], [1, 2], 0), (90, [15], [], -2147483648), (91, [15], [], 2147483647), (40, [13, 14], [], 0), (0, [14], [], 1), (4, [13, 11, 12], [], 0), (0, [12], [], 1), (8, [11, 8, 9], [], 0), (42, [9, 10], [], 0), (20, [10, 4], [1], 64), (23, [4], [1], 12), (90, [10], [], 0), (91, [10], [], 20), (5000, [0, 1, 2, 3, 4, 5, 6, 7, 8, 9], [0, 1], 64), (0, [0], [], 285), (90, [1], [], -2147483648), (91, [1], [], 2147483647), (90, [2], [], -2147483648), (91, [2], [], 2147483647), (90, [3], [], -2147483648), (91, [3], [], 2147483647), (0, [4], [], 285), (90, [5], [], -2147483648), (91, [5], [], 2147483647), (90, [6], [], -2147483648), (91, [6], [], 2147483647), (90, [7], [], -2147483648), (91, [7], [], 2147483647), (90, [8], [], -2147483648), (91, [8], [], 2147483647), (90, [9], [], 0), (91, [9], [], 20)], (3000, [20], [2], 100))
theorem c_285w_64_3 {q0 : Nat} : vOkm T0 (eN e_285 L_285w A_285 mu_285 n_285 B_285 (some q0)) 4 g_285w_64_3 := vOk_inI fun ρ η f0 f1 f2 f3 f4 f5 f6 f7 f8 f9 f10 f11 f12 f13 f14 f15 f16 f17 f18 f19 f20 f21 f22 f23 f24 f25 f26 f27 f28 f29 f30 f31 f32 f33 f34 f35 f36 f37 => q_285w_9 (q0 := q0) (n0 := ρ 9) (n1 := ρ 8) (n2 := ρ 7) (n3 := ρ 6) (n4 := ρ 5) (n5 := ρ 4) (n6 := ρ 3) (n7 := ρ 2) (n8 := ρ 1) (n9 := ρ 0) (n10 := ρ 10) (n11 := ρ 11) (n12 := ρ 12) (n13 := ρ 13) (n14 := ρ 14) (n15 := ρ 15) (n16 := ρ 16) (n17 := ρ 17) (n18 := ρ 18) (n19 := ρ 19) (n20 := ρ 20) (H0 := η 0) (H1 := η 1) (H2 := η 2) f37 f36 f35 f34 f33 f32 f31 f30 f29 f28 f27 f26 f25 f24 f23 f22 f21 f20 f19 f18 f17 f16 f15 f14 f13 f12 f11 f10 f9 f8 f7 f6 f5 f4 f3 f2 f1 f0
def p_285w_64 : List vG := [g_285w_64_0,
  g_285w_64_1,
  g_285w_64_2,
  g_285w_64_3]
theorem r_285w_64 : vCovBO (eRc e_285 L_285 cs_285 2000 (64, [(0, (3, 12, 285, 0)), (1, (0, -2147483648, 2147483647, 0)), (2, (0, -2147483648, 2147483647, 0)), (3, (0, -2147483648, 2147483647, 0)), (4, (0, -2147483648, 2147483647, 0)), (5, (0, 0, 20, 0))])) p_285w_64 = true := by decide +kernel
theorem m_285w (d : Nat) : eC e_285w (d + 6) := eC_ref (e := e_285) (L := L_285) (L' := L_285w) (cs := cs_285) (n := 2000) (d := d + 5) (A := A_285) (μ := mu_285) (tp := false) (p0 := p_285_s) (p1 := p_285w_s) (N := n_285) (B := B_285) rfl ⟨m_250 (d + 4), ⟨m_278 (d + 2), ⟨m_280 d, ⟨m_283 d, ⟨m_284w (d + 3), trivial⟩⟩⟩⟩⟩ rfl (.inl rfl) (by decide +kernel) (fun z => nomatch z) r_285_s (allC c_285_s_0 (allC c_285_s_1 (allC c_285_s_2 (allC c_285_s_3 (allC c_285_s_4 (allC c_285_s_5 (allC c_285_s_6 (allC c_285_s_7 (allC c_285_s_8 (allC c_285_s_9 allN)))))))))) (allC (.inl ⟨p_285_64, r_285_64, fun q0 => (allC c_285_64_0 (allC c_285_64_1 (allC c_285_64_2 (allC c_285_64_3 (allC c_285_64_4 (allC c_285_64_5 (allC c_285_64_6 (allC c_285_64_7 (allC c_285_64_8 (allC c_285_64_9 (allC c_285_64_10 (allC c_285_64_11 (allC c_285_64_12 (allC c_285_64_13 (allC c_285_64_14 (allC c_285_64_15 (allC c_285_64_16 allN)))))))))))))))))⟩) allN) (sub0 (sub0 (sub0 (sub0 (sub1 trivial))))) r_285w_s (allC c_285w_s_0 (allC c_285w_s_1 (allC c_285w_s_2 (allC c_285w_s_3 (allC c_285w_s_4 (allC c_285w_s_5 allN)))))) (allC ⟨p_285w_64, r_285w_64, fun q0 => (allC c_285w_64_0 (allC c_285w_64_1 (allC c_285w_64_2 (allC c_285w_64_3 allN))))⟩ allN)
/- MixStageModel.leans (I)I, more fully -/
def nb_281 (r a0 a1 : Int) (h0 h : gH) : Prop := (0 ≤ a1 ∧ a1 < hV h0 285 64 → BTS r (LSp (hV h0 285 64) (RNX h0) (a1).toNat)) ∧ (¬ (0 ≤ a1 ∧ a1 < hV h0 285 64) → r = -1)
def n_281 : List Int → gH → gH → Prop := fun xs h0 h => match xs with
  | [r, a0, a1] => nb_281 r a0 a1 h0 h
  | _ => True
noncomputable def e_281w : vE := eV e_281 n_281
noncomputable def L_281w : List vE := [e_250, e_280]
def B_281 : Int → List Int → gH → gH → Prop := fun c xs h0 h => True
theorem q_281w_0 {n0 n1 n2 n3 : Int} {H0 H1 : gH} (f0 : n0 ≤ 2147483647) (f1 : (-2147483648) ≤ n0) (f2 : n1 = 285) (f3 : hWt T0 H0 ∧ preb_281 n1 n0 H0) (f4 : n2 ≤ 1) (f5 : 0 ≤ n2) (f6 : (hLe T0 H0 H1 ∧ hFr s_250.2.2.2.2 H0 H1 ∧ ((0 : Int) = 0 → H1.length = H0.length) ∧ hWt T0 H1) ∧ postb_250 n2 n1 n0 H0 H1) (f7 : n2 = 0) (f8 : n3 = (-1)) : nb_281 n3 n1 n0 H0 H1 := by
  unfold nb_281 RNX
  have c2 := f2
  have c8 := f8
  have qs := f6.2
  unfold postb_250 at qs
  rw [show hV H1 285 64 = hV H0 285 64 from f6.1.2.1.1 285 64 (by decide +kernel)] at qs
  exact ⟨fun w => by exfalso; omega, fun _ => by omega⟩
def g_281w_s_0 : vG := ([(0, [3], [], -1), (30, [2], [], 0), (1250, [2, 0, 1], [0, 1], 0), (90, [2], [], 0), (91, [2], [], 1), (6000, [0, 1], [0], 0), (0, [0], [], 285), (90, [1], [], -2147483648), (91, [1], [], 2147483647)], (3000, [3], [1], 17))
theorem c_281w_s_0 : vOkm T0 (eN e_281 L_281w A_281 mu_281 n_281 B_281 none) 2 g_281w_s_0 := vOk_inI fun ρ η f0 f1 f2 f3 f4 f5 f6 f7 f8 => q_281w_0 (n0 := ρ 1) (n1 := ρ 0) (n2 := ρ 2) (n3 := ρ 3) (H0 := η 0) (H1 := η 1) f8 f7 f6 f5 f4 f3 f2 f1 f0
theorem q_281w_1 {n0 n1 n2 n3 : Int} {H0 H1 H2 : gH} (f0 : n0 ≤ 2147483647) (f1 : (-2147483648) ≤ n0) (f2 : n1 = 285) (f3 : hWt T0 H0 ∧ preb_281 n1 n0 H0) (f4 : n2 ≤ 1) (f5 : 0 ≤ n2) (f6 : (hLe T0 H0 H1 ∧ hFr s_250.2.2.2.2 H0 H1 ∧ ((0 : Int) = 0 → H1.length = H0.length) ∧ hWt T0 H1) ∧ postb_250 n2 n1 n0 H0 H1) (f7 : n2 ≠ 0) (f8 : n3 ≤ 2147483647) (f9 : (-2147483648) ≤ n3) (f10 : (hLe T0 H1 H2 ∧ hFr s_280.2.2.2.2 H1 H2 ∧ ((0 : Int) = 0 → H2.length = H1.length) ∧ hWt T0 H2) ∧ postb_280 n3 n1 n0 H1 H2) : nb_281 n3 n1 n0 H0 H2 := by
  unfold nb_281 RNX
  have c2 := f2
  have qs := f6.2
  unfold postb_250 at qs
  rw [show hV H1 285 64 = hV H0 285 64 from f6.1.2.1.1 285 64 (by decide +kernel)] at qs
  have ql := f10.2
  unfold postb_280 at ql
  rw [show hV H2 328 = hV H0 328 from (fRow f10.1.2.1 328 (by decide +kernel)).trans (fRow f6.1.2.1 328 (by decide +kernel))] at ql
  rw [show hV H2 332 = hV H0 332 from (fRow f10.1.2.1 332 (by decide +kernel)).trans (fRow f6.1.2.1 332 (by decide +kernel))] at ql
  rw [show hV H2 296 = hV H0 296 from (fRow f10.1.2.1 296 (by decide +kernel)).trans (fRow f6.1.2.1 296 (by decide +kernel))] at ql
  rw [show hV H2 298 = hV H0 298 from (fRow f10.1.2.1 298 (by decide +kernel)).trans (fRow f6.1.2.1 298 (by decide +kernel))] at ql
  rw [show hV H2 300 = hV H0 300 from (fRow f10.1.2.1 300 (by decide +kernel)).trans (fRow f6.1.2.1 300 (by decide +kernel))] at ql
  rw [show hV H2 335 = hV H0 335 from (fRow f10.1.2.1 335 (by decide +kernel)).trans (fRow f6.1.2.1 335 (by decide +kernel))] at ql
  rw [show hV H2 285 64 = hV H0 285 64 from (f10.1.2.1.1 285 64 (by decide +kernel)).trans (f6.1.2.1.1 285 64 (by decide +kernel))] at ql
  exact ⟨fun _ => ql, fun w => by exfalso; omega⟩
def g_281w_s_1 : vG := ([(1280, [3, 0, 1], [1, 2], 0), (90, [3], [], -2147483648), (91, [3], [], 2147483647), (31, [2], [], 0), (1250, [2, 0, 1], [0, 1], 0), (90, [2], [], 0), (91, [2], [], 1), (6000, [0, 1], [0], 0), (0, [0], [], 285), (90, [1], [], -2147483648), (91, [1], [], 2147483647)], (3000, [3], [2], 17))
theorem c_281w_s_1 : vOkm T0 (eN e_281 L_281w A_281 mu_281 n_281 B_281 none) 2 g_281w_s_1 := vOk_inI fun ρ η f0 f1 f2 f3 f4 f5 f6 f7 f8 f9 f10 => q_281w_1 (n0 := ρ 1) (n1 := ρ 0) (n2 := ρ 2) (n3 := ρ 3) (H0 := η 0) (H1 := η 1) (H2 := η 2) f10 f9 f8 f7 f6 f5 f4 f3 f2 f1 f0
def p_281w_s : List vG := [g_281w_s_0,
  g_281w_s_1]
theorem r_281w_s : vCovBO (eR0 e_281 L_281 cs_281 2000) p_281w_s = true := by decide +kernel
theorem m_281w (d : Nat) : eC e_281w (d + 6) := eC_ref (e := e_281) (L := L_281) (L' := L_281w) (cs := cs_281) (n := 2000) (d := d + 5) (A := A_281) (μ := mu_281) (tp := true) (p0 := p_281_s) (p1 := p_281w_s) (N := n_281) (B := B_281) rfl ⟨m_250 (d + 4), ⟨m_280 d, trivial⟩⟩ rfl (.inl rfl) (by decide +kernel) (fun _ => post0_ok) r_281_s (allC c_281_s_0 (allC c_281_s_1 (allC c_281_s_2 allN))) allN (sub0 (sub0 trivial)) r_281w_s (allC c_281w_s_0 (allC c_281w_s_1 allN)) allN
/- MixStageModel.again ()I, more fully -/
def nb_290 (r a0 : Int) (h0 h : gH) : Prop := hV h 335 = hV h0 335
def n_290 : List Int → gH → gH → Prop := fun xs h0 h => match xs with
  | [r, a0] => nb_290 r a0 h0 h
  | _ => True
noncomputable def e_290w : vE := eV e_290 n_290
noncomputable def L_290w : List vE := [e_283, e_288, e_289]
def Bb_290_4 (a0 x0 x1 x2 : Int) (h0 h : gH) : Prop := hV h 335 = hV h0 335
def Bb_290_16 (a0 x0 x1 x2 x3 : Int) (h0 h : gH) : Prop := hV h 335 = hV h0 335
def B_290 : Int → List Int → gH → gH → Prop := fun c xs h0 h => match c.toNat with
  | 4 => (match xs with
    | [a0, x0, x1, x2] => Bb_290_4 a0 x0 x1 x2 h0 h
    | _ => False)
  | 16 => (match xs with
    | [a0, x0, x1, x2, x3] => Bb_290_16 a0 x0 x1 x2 x3 h0 h
    | _ => False)
  | _ => True
theorem q_290w_0 {n0 n1 n2 : Int} {H0 : gH} (f0 : n0 = 285) (f1 : hWt T0 H0 ∧ preb_290 n0 H0) (f2 : n1 = 0) (f3 : n2 = 1) : Bb_290_4 n0 n0 n1 n2 H0 H0 := by
  unfold Bb_290_4
  have c0 := f0
  have c2 := f2
  have c3 := f3
  exact rfl
def g_290w_s_0 : vG := ([(0, [2], [], 1), (0, [1], [], 0), (6000, [0], [0], 0), (0, [0], [], 285)], (4000, [0, 1, 2], [0], 4))
theorem c_290w_s_0 : vOkm T0 (eN e_290 L_290w A_290 mu_290 n_290 B_290 none) 1 g_290w_s_0 := vOk_inI fun ρ η f0 f1 f2 f3 => q_290w_0 (n0 := ρ 0) (n1 := ρ 1) (n2 := ρ 2) (H0 := η 0) f3 f2 f1 f0
def p_290w_s : List vG := [g_290w_s_0]
theorem r_290w_s : vCovBO (eR0 e_290 L_290 cs_290 2000) p_290w_s = true := by decide +kernel
theorem q_290w_1 {q0 : Nat} {n0 n1 n2 n3 : Int} {H0 H1 : gH} (f0 : n0 ≤ 1) (f1 : 0 ≤ n0) (f2 : n1 ≤ 2147483647) (f3 : (-2147483648) ≤ n1) (f4 : n2 = 285) (f5 : n3 = 285) (f6 : (hLe T0 H0 H1 ∧ hFr s_290.2.2.2.2 H0 H1 ∧ hWt T0 H1) ∧ ((Ab_290_4 n3 n2 n1 n0 H0 H1 ∧ Bb_290_4 n3 n2 n1 n0 H0 H1) ∧ preb_290 n3 H0) ∧ some q0 = some (mub_290_4 n3 n2 n1 n0 H0 H1)) (f7 : n0 = 0) : nb_290 n1 n3 H0 H1 := by
  unfold nb_290
  have c4 := f4
  have c5 := f5
  exact show hV H1 335 = hV H0 335 from f6.2.1.1.2
def g_290w_4_0 : vG := ([(30, [3], [], 0), (5000, [0, 1, 2, 3], [0, 1], 4), (0, [0], [], 285), (0, [1], [], 285), (90, [2], [], -2147483648), (91, [2], [], 2147483647), (90, [3], [], 0), (91, [3], [], 1)], (3000, [2], [1], 92))
theorem c_290w_4_0 {q0 : Nat} : vOkm T0 (eN e_290 L_290w A_290 mu_290 n_290 B_290 (some q0)) 1 g_290w_4_0 := vOk_inI fun ρ η f0 f1 f2 f3 f4 f5 f6 f7 => q_290w_1 (q0 := q0) (n0 := ρ 3) (n1 := ρ 2) (n2 := ρ 1) (n3 := ρ 0) (H0 := η 0) (H1 := η 1) f7 f6 f5 f4 f3 f2 f1 f0
theorem q_290w_2 {q0 : Nat} {n0 n1 n2 n3 n4 n5 : Int} {H0 H1 H2 : gH} (f0 : n0 ≤ 1) (f1 : 0 ≤ n0) (f2 : n1 ≤ 2147483647) (f3 : (-2147483648) ≤ n1) (f4 : n2 = 285) (f5 : n3 = 285) (f6 : (hLe T0 H0 H1 ∧ hFr s_290.2.2.2.2 H0 H1 ∧ hWt T0 H1) ∧ ((Ab_290_4 n3 n2 n1 n0 H0 H1 ∧ Bb_290_4 n3 n2 n1 n0 H0 H1) ∧ preb_290 n3 H0) ∧ some q0 = some (mub_290_4 n3 n2 n1 n0 H0 H1)) (f7 : n0 ≠ 0) (f8 : (hLe T0 H1 H2 ∧ hFr s_288.2.2.2.2 H1 H2 ∧ ((0 : Int) = 0 → H2.length = H1.length) ∧ hWt T0 H2) ∧ postb_288 n2 H1 H2) (f9 : n4 = 0) (f10 : n5 = 0) : Bb_290_16 n3 n2 n1 n4 n5 H0 H2 := by
  unfold Bb_290_16
  have c4 := f4
  have c5 := f5
  have c9 := f9
  have c10 := f10
  exact (fRow f8.1.2.1 335 (by decide +kernel)).trans (show hV H1 335 = hV H0 335 from f6.2.1.1.2)
def g_290w_4_1 : vG := ([(0, [5], [], 0), (0, [4], [], 0), (1288, [1], [1, 2], 0), (31, [3], [], 0), (5000, [0, 1, 2, 3], [0, 1], 4), (0, [0], [], 285), (0, [1], [], 285), (90, [2], [], -2147483648), (91, [2], [], 2147483647), (90, [3], [], 0), (91, [3], [], 1)], (4000, [1, 2, 4, 5], [2], 16))
theorem c_290w_4_1 {q0 : Nat} : vOkm T0 (eN e_290 L_290w A_290 mu_290 n_290 B_290 (some q0)) 1 g_290w_4_1 := vOk_inI fun ρ η f0 f1 f2 f3 f4 f5 f6 f7 f8 f9 f10 => q_290w_2 (q0 := q0) (n0 := ρ 3) (n1 := ρ 2) (n2 := ρ 1) (n3 := ρ 0) (n4 := ρ 4) (n5 := ρ 5) (H0 := η 0) (H1 := η 1) (H2 := η 2) f10 f9 f8 f7 f6 f5 f4 f3 f2 f1 f0
def p_290w_4 : List vG := [g_290w_4_0,
  g_290w_4_1]
theorem r_290w_4 : vCovBO (eRc e_290 L_290 cs_290 2000 (4, [(0, (3, 12, 285, 0)), (1, (0, -2147483648, 2147483647, 0)), (2, (0, 0, 1, 0))])) p_290w_4 = true := by decide +kernel
theorem q_290w_3 {q0 : Nat} {n0 n1 n2 n3 n4 n5 : Int} {H0 H1 : gH} (f0 : n0 ≤ 20) (f1 : 0 ≤ n0) (f2 : n1 ≤ 1) (f3 : 0 ≤ n1) (f4 : n2 ≤ 2147483647) (f5 : (-2147483648) ≤ n2) (f6 : n3 = 285) (f7 : n4 = 285) (f8 : (hLe T0 H0 H1 ∧ hFr s_290.2.2.2.2 H0 H1 ∧ hWt T0 H1) ∧ ((Ab_290_16 n4 n3 n2 n1 n0 H0 H1 ∧ Bb_290_16 n4 n3 n2 n1 n0 H0 H1) ∧ preb_290 n4 H0) ∧ some q0 = some (mub_290_16 n4 n3 n2 n1 n0 H0 H1)) (f9 : n5 ≤ 20) (f10 : 0 ≤ n5) (f11 : hK H1 (n3).toNat = 12) (f12 : n5 = hV H1 (n3).toNat 64) (f13 : n5 ≤ n0) : Bb_290_4 n4 n3 n2 n1 H0 H1 := by
  unfold Bb_290_4
  have c6 := f6
  have c7 := f7
  exact show hV H1 335 = hV H0 335 from f8.2.1.1.2
def g_290w_16_0 : vG := ([(43, [4, 5], [], 0), (20, [5, 1], [1], 64), (23, [1], [1], 12), (90, [5], [], 0), (91, [5], [], 20), (5000, [0, 1, 2, 3, 4], [0, 1], 16), (0, [0], [], 285), (0, [1], [], 285), (90, [2], [], -2147483648), (91, [2], [], 2147483647), (90, [3], [], 0), (91, [3], [], 1), (90, [4], [], 0), (91, [4], [], 20)], (4000, [1, 2, 3], [1], 4))
theorem c_290w_16_0 {q0 : Nat} : vOkm T0 (eN e_290 L_290w A_290 mu_290 n_290 B_290 (some q0)) 1 g_290w_16_0 := vOk_inI fun ρ η f0 f1 f2 f3 f4 f5 f6 f7 f8 f9 f10 f11 f12 f13 => q_290w_3 (q0 := q0) (n0 := ρ 4) (n1 := ρ 3) (n2 := ρ 2) (n3 := ρ 1) (n4 := ρ 0) (n5 := ρ 5) (H0 := η 0) (H1 := η 1) f13 f12 f11 f10 f9 f8 f7 f6 f5 f4 f3 f2 f1 f0
theorem q_290w_4 {q0 : Nat} {n0 n1 n2 n3 n4 n5 : Int} {H0 H1 : gH} (f0 : n0 ≤ 20) (f1 : 0 ≤ n0) (f2 : n1 ≤ 1) (f3 : 0 ≤ n1) (f4 : n2 ≤ 2147483647) (f5 : (-2147483648) ≤ n2) (f6 : n3 = 285) (f7 : n4 = 285) (f8 : (hLe T0 H0 H1 ∧ hFr s_290.2.2.2.2 H0 H1 ∧ hWt T0 H1) ∧ ((Ab_290_16 n4 n3 n2 n1 n0 H0 H1 ∧ Bb_290_16 n4 n3 n2 n1 n0 H0 H1) ∧ preb_290 n4 H0) ∧ some q0 = some (mub_290_16 n4 n3 n2 n1 n0 H0 H1)) (f9 : n5 ≤ 20) (f10 : 0 ≤ n5) (f11 : hK H1 (n3).toNat = 12) (f12 : n5 = hV H1 (n3).toNat 64) (f13 : n0 < n5) (f14 : n1 ≠ 0) : Bb_290_4 n4 n3 n2 n1 H0 H1 := by
  unfold Bb_290_4
  have c6 := f6
  have c7 := f7
  exact show hV H1 335 = hV H0 335 from f8.2.1.1.2
def g_290w_16_1 : vG := ([(31, [3], [], 0), (42, [4, 5], [], 0), (20, [5, 1], [1], 64), (23, [1], [1], 12), (90, [5], [], 0), (91, [5], [], 20), (5000, [0, 1, 2, 3, 4], [0, 1], 16), (0, [0], [], 285), (0, [1], [], 285), (90, [2], [], -2147483648), (91, [2], [], 2147483647), (90, [3], [], 0), (91, [3], [], 1), (90, [4], [], 0), (91, [4], [], 20)], (4000, [1, 2, 3], [1], 4))
theorem c_290w_16_1 {q0 : Nat} : vOkm T0 (eN e_290 L_290w A_290 mu_290 n_290 B_290 (some q0)) 1 g_290w_16_1 := vOk_inI fun ρ η f0 f1 f2 f3 f4 f5 f6 f7 f8 f9 f10 f11 f12 f13 f14 => q_290w_4 (q0 := q0) (n0 := ρ 4) (n1 := ρ 3) (n2 := ρ 2) (n3 := ρ 1) (n4 := ρ 0) (n5 := ρ 5) (H0 := η 0) (H1 := η 1) f14 f13 f12 f11 f10 f9 f8 f7 f6 f5 f4 f3 f2 f1 f0
theorem q_290w_5 {q0 : Nat} {n0 n1 n2 n3 n4 n5 n6 n7 n8 : Int} {H0 H1 : gH} (f0 : n0 ≤ 20) (f1 : 0 ≤ n0) (f2 : n1 ≤ 1) (f3 : 0 ≤ n1) (f4 : n2 ≤ 2147483647) (f5 : (-2147483648) ≤ n2) (f6 : n3 = 285) (f7 : n4 = 285) (f8 : (hLe T0 H0 H1 ∧ hFr s_290.2.2.2.2 H0 H1 ∧ hWt T0 H1) ∧ ((Ab_290_16 n4 n3 n2 n1 n0 H0 H1 ∧ Bb_290_16 n4 n3 n2 n1 n0 H0 H1) ∧ preb_290 n4 H0) ∧ some q0 = some (mub_290_16 n4 n3 n2 n1 n0 H0 H1)) (f9 : n5 ≤ 20) (f10 : 0 ≤ n5) (f11 : hK H1 (n3).toNat = 12) (f12 : n5 = hV H1 (n3).toNat 64) (f13 : n0 < n5) (f14 : n1 = 0) (f15 : n6 = 354) (f16 : hK H1 (n3).toNat = 12) (f17 : n6 = hV H1 (n3).toNat 96) (f18 : n7 ≤ 1) (f19 : 0 ≤ n7) (f20 : n7 = hV H1 (n6).toNat (n0).toNat) (f21 : n7 = 0) (f22 : n8 = w32 (n0 + 1)) : Bb_290_16 n4 n3 n2 n1 n8 H0 H1 := by
  unfold Bb_290_16
  have c6 := f6
  have c7 := f7
  have c15 := f15
  exact show hV H1 335 = hV H0 335 from f8.2.1.1.2
def g_290w_16_2 : vG := ([(10, [8, 4], [], 1), (30, [7], [], 0), (22, [7, 6, 4], [1], 0), (90, [7], [], 0), (91, [7], [], 1), (20, [6, 1], [1], 96), (23, [1], [1], 12), (0, [6], [], 354), (30, [3], [], 0), (42, [4, 5], [], 0), (20, [5, 1], [1], 64), (23, [1], [1], 12), (90, [5], [], 0), (91, [5], [], 20), (5000, [0, 1, 2, 3, 4], [0, 1], 16), (0, [0], [], 285), (0, [1], [], 285), (90, [2], [], -2147483648), (91, [2], [], 2147483647), (90, [3], [], 0), (91, [3], [], 1), (90, [4], [], 0), (91, [4], [], 20)], (4000, [1, 2, 3, 8], [1], 16))
theorem c_290w_16_2 {q0 : Nat} : vOkm T0 (eN e_290 L_290w A_290 mu_290 n_290 B_290 (some q0)) 1 g_290w_16_2 := vOk_inI fun ρ η f0 f1 f2 f3 f4 f5 f6 f7 f8 f9 f10 f11 f12 f13 f14 f15 f16 f17 f18 f19 f20 f21 f22 => q_290w_5 (q0 := q0) (n0 := ρ 4) (n1 := ρ 3) (n2 := ρ 2) (n3 := ρ 1) (n4 := ρ 0) (n5 := ρ 5) (n6 := ρ 6) (n7 := ρ 7) (n8 := ρ 8) (H0 := η 0) (H1 := η 1) f22 f21 f20 f19 f18 f17 f16 f15 f14 f13 f12 f11 f10 f9 f8 f7 f6 f5 f4 f3 f2 f1 f0
theorem q_290w_6 {q0 : Nat} {n0 n1 n2 n3 n4 n5 n6 n7 n8 n9 n10 n11 n12 n13 n14 n15 n16 n17 : Int} {H0 H1 H2 H3 : gH} (f0 : n0 ≤ 20) (f1 : 0 ≤ n0) (f2 : n1 ≤ 1) (f3 : 0 ≤ n1) (f4 : n2 ≤ 2147483647) (f5 : (-2147483648) ≤ n2) (f6 : n3 = 285) (f7 : n4 = 285) (f8 : (hLe T0 H0 H1 ∧ hFr s_290.2.2.2.2 H0 H1 ∧ hWt T0 H1) ∧ ((Ab_290_16 n4 n3 n2 n1 n0 H0 H1 ∧ Bb_290_16 n4 n3 n2 n1 n0 H0 H1) ∧ preb_290 n4 H0) ∧ some q0 = some (mub_290_16 n4 n3 n2 n1 n0 H0 H1)) (f9 : n5 ≤ 20) (f10 : 0 ≤ n5) (f11 : hK H1 (n3).toNat = 12) (f12 : n5 = hV H1 (n3).toNat 64) (f13 : n0 < n5) (f14 : n1 = 0) (f15 : n6 = 354) (f16 : hK H1 (n3).toNat = 12) (f17 : n6 = hV H1 (n3).toNat 96) (f18 : n7 ≤ 1) (f19 : 0 ≤ n7) (f20 : n7 = hV H1 (n6).toNat (n0).toNat) (f21 : n7 ≠ 0) (f22 : n8 ≤ 1) (f23 : 0 ≤ n8) (f24 : (hLe T0 H1 H2 ∧ hFr s_289.2.2.2.2 H1 H2 ∧ ((0 : Int) = 0 → H2.length = H1.length) ∧ hWt T0 H2) ∧ postb_289 n8 n3 n0 H1 H2) (f25 : n8 = 0) (f26 : n9 = 335) (f27 : hK H2 (n3).toNat = 12) (f28 : n9 = hV H2 (n3).toNat 73) (f29 : n10 ≤ 7) (f30 : (-1) ≤ n10) (f31 : n10 = hV H2 (n9).toNat (n0).toNat) (f32 : n11 = 336) (f33 : hK H2 (n3).toNat = 12) (f34 : n11 = hV H2 (n3).toNat 74) (f35 : n12 ≤ 5) (f36 : (-1) ≤ n12) (f37 : n12 = hV H2 (n11).toNat (n0).toNat) (f38 : n13 ≤ 2147483647) (f39 : (-2147483648) ≤ n13) (f40 : (hLe T0 H2 H3 ∧ hFr s_283.2.2.2.2 H2 H3 ∧ ((0 : Int) = 0 → H3.length = H2.length) ∧ hWt T0 H3) ∧ postb_283 n13 n3 n0 n10 n12 H2 H3) (f41 : n13 ≤ 0) (f42 : n14 = 0) (f43 : n15 = w32 (n2 + n14)) (f44 : n16 = 1) (f45 : n17 = w32 (n0 + 1)) : Bb_290_16 n4 n3 n15 n16 n17 H0 H3 := by
  unfold Bb_290_16
  have c6 := f6
  have c7 := f7
  have c15 := f15
  have c26 := f26
  have c32 := f32
  have c42 := f42
  have c44 := f44
  have r31 := f31
  rw [f26] at r31
  replace r31 : n10 = hV H2 335 (n0).toNat := r31
  have qm := f40.2
  unfold postb_283 at qm
  have e5 := qm.2.2.2.2
  rw [uF_id (by omega) r31] at e5
  exact (e5).trans ((fRow f24.1.2.1 335 (by decide +kernel)).trans (show hV H1 335 = hV H0 335 from f8.2.1.1.2))
def g_290w_16_3 : vG := ([(10, [17, 4], [], 1), (0, [16], [], 1), (1, [15, 2, 14], [], 0), (0, [14], [], 0), (35, [13], [], 0), (1283, [13, 1, 4, 10, 12], [2, 3], 0), (90, [13], [], -2147483648), (91, [13], [], 2147483647), (22, [12, 11, 4], [2], 0), (90, [12], [], -1), (91, [12], [], 5), (20, [11, 1], [2], 74), (23, [1], [2], 12), (0, [11], [], 336), (22, [10, 9, 4], [2], 0), (90, [10], [], -1), (91, [10], [], 7), (20, [9, 1], [2], 73), (23, [1], [2], 12), (0, [9], [], 335), (30, [8], [], 0), (1289, [8, 1, 4], [1, 2], 0), (90, [8], [], 0), (91, [8], [], 1), (31, [7], [], 0), (22, [7, 6, 4], [1], 0), (90, [7], [], 0), (91, [7], [], 1), (20, [6, 1], [1], 96), (23, [1], [1], 12), (0, [6], [], 354), (30, [3], [], 0), (42, [4, 5], [], 0), (20, [5, 1], [1], 64), (23, [1], [1], 12), (90, [5], [], 0), (91, [5], [], 20), (5000, [0, 1, 2, 3, 4], [0, 1], 16), (0, [0], [], 285), (0, [1], [], 285), (90, [2], [], -2147483648), (91, [2], [], 2147483647), (90, [3], [], 0), (91, [3], [], 1), (90, [4], [], 0), (91, [4], [], 20)], (4000, [1, 15, 16, 17], [3], 16))
theorem c_290w_16_3 {q0 : Nat} : vOkm T0 (eN e_290 L_290w A_290 mu_290 n_290 B_290 (some q0)) 1 g_290w_16_3 := vOk_inI fun ρ η f0 f1 f2 f3 f4 f5 f6 f7 f8 f9 f10 f11 f12 f13 f14 f15 f16 f17 f18 f19 f20 f21 f22 f23 f24 f25 f26 f27 f28 f29 f30 f31 f32 f33 f34 f35 f36 f37 f38 f39 f40 f41 f42 f43 f44 f45 => q_290w_6 (q0 := q0) (n0 := ρ 4) (n1 := ρ 3) (n2 := ρ 2) (n3 := ρ 1) (n4 := ρ 0) (n5 := ρ 5) (n6 := ρ 6) (n7 := ρ 7) (n8 := ρ 8) (n9 := ρ 9) (n10 := ρ 10) (n11 := ρ 11) (n12 := ρ 12) (n13 := ρ 13) (n14 := ρ 14) (n15 := ρ 15) (n16 := ρ 16) (n17 := ρ 17) (H0 := η 0) (H1 := η 1) (H2 := η 2) (H3 := η 3) f45 f44 f43 f42 f41 f40 f39 f38 f37 f36 f35 f34 f33 f32 f31 f30 f29 f28 f27 f26 f25 f24 f23 f22 f21 f20 f19 f18 f17 f16 f15 f14 f13 f12 f11 f10 f9 f8 f7 f6 f5 f4 f3 f2 f1 f0
theorem q_290w_7 {q0 : Nat} {n0 n1 n2 n3 n4 n5 n6 n7 n8 n9 n10 n11 n12 n13 n14 n15 n16 n17 : Int} {H0 H1 H2 H3 : gH} (f0 : n0 ≤ 20) (f1 : 0 ≤ n0) (f2 : n1 ≤ 1) (f3 : 0 ≤ n1) (f4 : n2 ≤ 2147483647) (f5 : (-2147483648) ≤ n2) (f6 : n3 = 285) (f7 : n4 = 285) (f8 : (hLe T0 H0 H1 ∧ hFr s_290.2.2.2.2 H0 H1 ∧ hWt T0 H1) ∧ ((Ab_290_16 n4 n3 n2 n1 n0 H0 H1 ∧ Bb_290_16 n4 n3 n2 n1 n0 H0 H1) ∧ preb_290 n4 H0) ∧ some q0 = some (mub_290_16 n4 n3 n2 n1 n0 H0 H1)) (f9 : n5 ≤ 20) (f10 : 0 ≤ n5) (f11 : hK H1 (n3).toNat = 12) (f12 : n5 = hV H1 (n3).toNat 64) (f13 : n0 < n5) (f14 : n1 = 0) (f15 : n6 = 354) (f16 : hK H1 (n3).toNat = 12) (f17 : n6 = hV H1 (n3).toNat 96) (f18 : n7 ≤ 1) (f19 : 0 ≤ n7) (f20 : n7 = hV H1 (n6).toNat (n0).toNat) (f21 : n7 ≠ 0) (f22 : n8 ≤ 1) (f23 : 0 ≤ n8) (f24 : (hLe T0 H1 H2 ∧ hFr s_289.2.2.2.2 H1 H2 ∧ ((0 : Int) = 0 → H2.length = H1.length) ∧ hWt T0 H2) ∧ postb_289 n8 n3 n0 H1 H2) (f25 : n8 = 0) (f26 : n9 = 335) (f27 : hK H2 (n3).toNat = 12) (f28 : n9 = hV H2 (n3).toNat 73) (f29 : n10 ≤ 7) (f30 : (-1) ≤ n10) (f31 : n10 = hV H2 (n9).toNat (n0).toNat) (f32 : n11 = 336) (f33 : hK H2 (n3).toNat = 12) (f34 : n11 = hV H2 (n3).toNat 74) (f35 : n12 ≤ 5) (f36 : (-1) ≤ n12) (f37 : n12 = hV H2 (n11).toNat (n0).toNat) (f38 : n13 ≤ 2147483647) (f39 : (-2147483648) ≤ n13) (f40 : (hLe T0 H2 H3 ∧ hFr s_283.2.2.2.2 H2 H3 ∧ ((0 : Int) = 0 → H3.length = H2.length) ∧ hWt T0 H3) ∧ postb_283 n13 n3 n0 n10 n12 H2 H3) (f41 : 0 < n13) (f42 : n14 = 1) (f43 : n15 = w32 (n2 + n14)) (f44 : n16 = 1) (f45 : n17 = w32 (n0 + 1)) : Bb_290_16 n4 n3 n15 n16 n17 H0 H3 := by
  unfold Bb_290_16
  have c6 := f6
  have c7 := f7
  have c15 := f15
  have c26 := f26
  have c32 := f32
  have c42 := f42
  have c44 := f44
  have r31 := f31
  rw [f26] at r31
  replace r31 : n10 = hV H2 335 (n0).toNat := r31
  have qm := f40.2
  unfold postb_283 at qm
  have e5 := qm.2.2.2.2
  rw [uF_id (by omega) r31] at e5
  exact (e5).trans ((fRow f24.1.2.1 335 (by decide +kernel)).trans (show hV H1 335 = hV H0 335 from f8.2.1.1.2))
def g_290w_16_4 : vG := ([(10, [17, 4], [], 1), (0, [16], [], 1), (1, [15, 2, 14], [], 0), (0, [14], [], 1), (34, [13], [], 0), (1283, [13, 1, 4, 10, 12], [2, 3], 0), (90, [13], [], -2147483648), (91, [13], [], 2147483647), (22, [12, 11, 4], [2], 0), (90, [12], [], -1), (91, [12], [], 5), (20, [11, 1], [2], 74), (23, [1], [2], 12), (0, [11], [], 336), (22, [10, 9, 4], [2], 0), (90, [10], [], -1), (91, [10], [], 7), (20, [9, 1], [2], 73), (23, [1], [2], 12), (0, [9], [], 335), (30, [8], [], 0), (1289, [8, 1, 4], [1, 2], 0), (90, [8], [], 0), (91, [8], [], 1), (31, [7], [], 0), (22, [7, 6, 4], [1], 0), (90, [7], [], 0), (91, [7], [], 1), (20, [6, 1], [1], 96), (23, [1], [1], 12), (0, [6], [], 354), (30, [3], [], 0), (42, [4, 5], [], 0), (20, [5, 1], [1], 64), (23, [1], [1], 12), (90, [5], [], 0), (91, [5], [], 20), (5000, [0, 1, 2, 3, 4], [0, 1], 16), (0, [0], [], 285), (0, [1], [], 285), (90, [2], [], -2147483648), (91, [2], [], 2147483647), (90, [3], [], 0), (91, [3], [], 1), (90, [4], [], 0), (91, [4], [], 20)], (4000, [1, 15, 16, 17], [3], 16))
theorem c_290w_16_4 {q0 : Nat} : vOkm T0 (eN e_290 L_290w A_290 mu_290 n_290 B_290 (some q0)) 1 g_290w_16_4 := vOk_inI fun ρ η f0 f1 f2 f3 f4 f5 f6 f7 f8 f9 f10 f11 f12 f13 f14 f15 f16 f17 f18 f19 f20 f21 f22 f23 f24 f25 f26 f27 f28 f29 f30 f31 f32 f33 f34 f35 f36 f37 f38 f39 f40 f41 f42 f43 f44 f45 => q_290w_7 (q0 := q0) (n0 := ρ 4) (n1 := ρ 3) (n2 := ρ 2) (n3 := ρ 1) (n4 := ρ 0) (n5 := ρ 5) (n6 := ρ 6) (n7 := ρ 7) (n8 := ρ 8) (n9 := ρ 9) (n10 := ρ 10) (n11 := ρ 11) (n12 := ρ 12) (n13 := ρ 13) (n14 := ρ 14) (n15 := ρ 15) (n16 := ρ 16) (n17 := ρ 17) (H0 := η 0) (H1 := η 1) (H2 := η 2) (H3 := η 3) f45 f44 f43 f42 f41 f40 f39 f38 f37 f36 f35 f34 f33 f32 f31 f30 f29 f28 f27 f26 f25 f24 f23 f22 f21 f20 f19 f18 f17 f16 f15 f14 f13 f12 f11 f10 f9 f8 f7 f6 f5 f4 f3 f2 f1 f0
theorem q_290w_8 {q0 : Nat} {n0 n1 n2 n3 n4 n5 n6 n7 n8 n9 : Int} {H0 H1 H2 : gH} (f0 : n0 ≤ 20) (f1 : 0 ≤ n0) (f2 : n1 ≤ 1) (f3 : 0 ≤ n1) (f4 : n2 ≤ 2147483647) (f5 : (-2147483648) ≤ n2) (f6 : n3 = 285) (f7 : n4 = 285) (f8 : (hLe T0 H0 H1 ∧ hFr s_290.2.2.2.2 H0 H1 ∧ hWt T0 H1) ∧ ((Ab_290_16 n4 n3 n2 n1 n0 H0 H1 ∧ Bb_290_16 n4 n3 n2 n1 n0 H0 H1) ∧ preb_290 n4 H0) ∧ some q0 = some (mub_290_16 n4 n3 n2 n1 n0 H0 H1)) (f9 : n5 ≤ 20) (f10 : 0 ≤ n5) (f11 : hK H1 (n3).toNat = 12) (f12 : n5 = hV H1 (n3).toNat 64) (f13 : n0 < n5) (f14 : n1 = 0) (f15 : n6 = 354) (f16 : hK H1 (n3).toNat = 12) (f17 : n6 = hV H1 (n3).toNat 96) (f18 : n7 ≤ 1) (f19 : 0 ≤ n7) (f20 : n7 = hV H1 (n6).toNat (n0).toNat) (f21 : n7 ≠ 0) (f22 : n8 ≤ 1) (f23 : 0 ≤ n8) (f24 : (hLe T0 H1 H2 ∧ hFr s_289.2.2.2.2 H1 H2 ∧ ((0 : Int) = 0 → H2.length = H1.length) ∧ hWt T0 H2) ∧ postb_289 n8 n3 n0 H1 H2) (f25 : n8 ≠ 0) (f26 : n9 = w32 (n0 + 1)) : Bb_290_16 n4 n3 n2 n1 n9 H0 H2 := by
  unfold Bb_290_16
  have c6 := f6
  have c7 := f7
  have c15 := f15
  exact (fRow f24.1.2.1 335 (by decide +kernel)).trans (show hV H1 335 = hV H0 335 from f8.2.1.1.2)
def g_290w_16_5 : vG := ([(10, [9, 4], [], 1), (31, [8], [], 0), (1289, [8, 1, 4], [1, 2], 0), (90, [8], [], 0), (91, [8], [], 1), (31, [7], [], 0), (22, [7, 6, 4], [1], 0), (90, [7], [], 0), (91, [7], [], 1), (20, [6, 1], [1], 96), (23, [1], [1], 12), (0, [6], [], 354), (30, [3], [], 0), (42, [4, 5], [], 0), (20, [5, 1], [1], 64), (23, [1], [1], 12), (90, [5], [], 0), (91, [5], [], 20), (5000, [0, 1, 2, 3, 4], [0, 1], 16), (0, [0], [], 285), (0, [1], [], 285), (90, [2], [], -2147483648), (91, [2], [], 2147483647), (90, [3], [], 0), (91, [3], [], 1), (90, [4], [], 0), (91, [4], [], 20)], (4000, [1, 2, 3, 9], [2], 16))
theorem c_290w_16_5 {q0 : Nat} : vOkm T0 (eN e_290 L_290w A_290 mu_290 n_290 B_290 (some q0)) 1 g_290w_16_5 := vOk_inI fun ρ η f0 f1 f2 f3 f4 f5 f6 f7 f8 f9 f10 f11 f12 f13 f14 f15 f16 f17 f18 f19 f20 f21 f22 f23 f24 f25 f26 => q_290w_8 (q0 := q0) (n0 := ρ 4) (n1 := ρ 3) (n2 := ρ 2) (n3 := ρ 1) (n4 := ρ 0) (n5 := ρ 5) (n6 := ρ 6) (n7 := ρ 7) (n8 := ρ 8) (n9 := ρ 9) (H0 := η 0) (H1 := η 1) (H2 := η 2) f26 f25 f24 f23 f22 f21 f20 f19 f18 f17 f16 f15 f14 f13 f12 f11 f10 f9 f8 f7 f6 f5 f4 f3 f2 f1 f0
def p_290w_16 : List vG := [g_290w_16_0,
  g_290w_16_1,
  g_290w_16_2,
  g_290w_16_3,
  g_290w_16_4,
  g_290w_16_5]
theorem r_290w_16 : vCovBO (eRc e_290 L_290 cs_290 2000 (16, [(0, (3, 12, 285, 0)), (1, (0, -2147483648, 2147483647, 0)), (2, (0, 0, 1, 0)), (3, (0, 0, 20, 0))])) p_290w_16 = true := by decide +kernel
theorem m_290w (d : Nat) : eC e_290w (d + 8) := eC_ref (e := e_290) (L := L_290) (L' := L_290w) (cs := cs_290) (n := 2000) (d := d + 7) (A := A_290) (μ := mu_290) (tp := false) (p0 := p_290_s) (p1 := p_290w_s) (N := n_290) (B := B_290) rfl ⟨m_283 (d + 2), ⟨m_288 d, ⟨m_289 (d + 1), trivial⟩⟩⟩ rfl (.inl rfl) (by decide +kernel) (fun z => nomatch z) r_290_s (allC c_290_s_0 allN) (allC (.inl ⟨p_290_4, r_290_4, fun q0 => (allC c_290_4_0 (allC c_290_4_1 (allC c_290_4_2 allN)))⟩) (allC (.inl ⟨p_290_16, r_290_16, fun q0 => (allC c_290_16_0 (allC c_290_16_1 (allC c_290_16_2 (allC c_290_16_3 (allC c_290_16_4 (allC c_290_16_5 (allC c_290_16_6 (allC c_290_16_7 (allC c_290_16_8 (allC c_290_16_9 (allC c_290_16_10 (allC c_290_16_11 (allC c_290_16_12 (allC c_290_16_13 (allC c_290_16_14 (allC c_290_16_15 (allC c_290_16_16 (allC c_290_16_17 (allC c_290_16_18 (allC c_290_16_19 (allC c_290_16_20 (allC c_290_16_21 (allC c_290_16_22 allN)))))))))))))))))))))))⟩) allN)) (sub0 (sub0 (sub0 trivial))) r_290w_s (allC c_290w_s_0 allN) (allC ⟨p_290w_4, r_290w_4, fun q0 => (allC c_290w_4_0 (allC c_290w_4_1 allN))⟩ (allC ⟨p_290w_16, r_290w_16, fun q0 => (allC c_290w_16_0 (allC c_290w_16_1 (allC c_290w_16_2 (allC c_290w_16_3 (allC c_290w_16_4 (allC c_290w_16_5 allN))))))⟩ allN))
