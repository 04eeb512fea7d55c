/-! CONTRACTS of methods told more fully. -/
/- Tracer.doQuarrel (LMixStage$Cue;LMixStage$Cue;)Z -/
noncomputable def s_146y : vM := ([(3, 9, 281, 0), (2, 1, -1, 0), (2, 1, -1, 0)], (0, 0, 1, 0), 0, 0, [])
def postb_146y (r a0 a1 a2 : Int) (h0 h : gH) : Prop := K25 h0 → hK h0 (a1).toNat = 1 → hK h0 (a2).toNat = 1 → 0 ≤ a1 → 0 ≤ a2 → (r = 1 ∧ qrB (fdC (hV h0 25) (recC h0 (a1).toNat)) (fdC (hV h0 25) (recC h0 (a2).toNat)) = true) ∨ (r = 0 ∧ qrB (fdC (hV h0 25) (recC h0 (a1).toNat)) (fdC (hV h0 25) (recC h0 (a2).toNat)) = false)
def post_146y : List Int → gH → gH → Prop := fun xs h0 h => match xs with
  | [r, a0, a1, a2] => postb_146y r a0 a1 a2 h0 h
  | _ => True
noncomputable def e_146y : vE := (146, s_146y, pre0, post_146y)
noncomputable def L_146y : List vE := [e_8y]
def cs_146y : List vC := []
def A_146y : Int → List Int → gH → gH → Prop := fun c xs h0 h => True
def mu_146y : Int → List Int → gH → gH → Nat := fun c xs h0 h => 0
theorem q_146y_0 {n0 n1 n2 n3 : Int} {H0 : gH} (f0 : n0 = 281) (f1 : hWt T0 H0 ∧ True) (f2 : n1 = -1) (f3 : n3 = 0) : postb_146y n3 n0 n1 n2 H0 H0 := by
  unfold postb_146y
  intro k25 h1 h2 p1 p2
  have rc := f3
  exfalso
  omega
theorem c_146y_s_0 : vOkm T0 (eP e_146y L_146y A_146y mu_146y none) 3 ([(0, [3], [], 0), (50, [1], [], 0), (6000, [0, 1, 2], [0], 0), (0, [0], [], 281)], (3000, [3], [0], 36)) := vOk_in fun ρ η h => by
  obtain ⟨f0, f1, f2, f3, _⟩ := h
  exact q_146y_0 (n0 := ρ 0) (n1 := ρ 1) (n2 := ρ 2) (n3 := ρ 3) (H0 := η 0) f3 f2 f1 f0
theorem q_146y_1 {n0 n1 n2 n3 : Int} {H0 : gH} (f0 : n0 = 281) (f1 : hWt T0 H0 ∧ True) (f2 : 0 ≤ n1) (f3 : n2 = -1) (f4 : n3 = 0) : postb_146y n3 n0 n1 n2 H0 H0 := by
  unfold postb_146y
  intro k25 h1 h2 p1 p2
  have rc := f4
  exfalso
  omega
theorem c_146y_s_1 : vOkm T0 (eP e_146y L_146y A_146y mu_146y none) 3 ([(0, [3], [], 0), (50, [2], [], 0), (51, [1], [], 0), (6000, [0, 1, 2], [0], 0), (0, [0], [], 281)], (3000, [3], [0], 36)) := vOk_in fun ρ η h => by
  obtain ⟨f0, f1, f2, f3, f4, _⟩ := h
  exact q_146y_1 (n0 := ρ 0) (n1 := ρ 1) (n2 := ρ 2) (n3 := ρ 3) (H0 := η 0) f4 f3 f2 f1 f0
theorem q_146y_2 {n0 n1 n2 n3 n4 n5 : Int} {H0 : gH} (f0 : n0 = 281) (f1 : hWt T0 H0 ∧ True) (f2 : 0 ≤ n1) (f3 : 0 ≤ n2) (f4 : n3 ≤ 2147483647) (f5 : (-2147483648) ≤ n3) (f6 : hK H0 (n1).toNat = 1) (f7 : n3 = hV H0 (n1).toNat 0) (f8 : n4 = 1) (f9 : n3 ≠ n4) (f10 : n5 = 0) : postb_146y n5 n0 n1 n2 H0 H0 := by
  unfold postb_146y
  intro k25 h1 h2 p1 p2
  have rc := f10
  have x7 : n3 = hV H0 (n1).toNat 0 := f7
  have c0 := f0
  have c8 := f8
  have c10 := f10
  exact .inr ⟨by omega, qrB_k1 (show ¬ (recC H0 (n1).toNat).1 = 1 from (by show ¬ hV H0 (n1).toNat 0 = 1; omega))⟩
theorem c_146y_s_2 : vOkm T0 (eP e_146y L_146y A_146y mu_146y none) 3 ([(0, [5], [], 0), (41, [3, 4], [], 0), (0, [4], [], 1), (20, [3, 1], [0], 0), (23, [1], [0], 1), (90, [3], [], -2147483648), (91, [3], [], 2147483647), (51, [2], [], 0), (51, [1], [], 0), (6000, [0, 1, 2], [0], 0), (0, [0], [], 281)], (3000, [5], [0], 36)) := vOk_in fun ρ η h => by
  obtain ⟨f0, f1, f2, f3, f4, f5, f6, f7, f8, f9, f10, _⟩ := h
  exact q_146y_2 (n0 := ρ 0) (n1 := ρ 1) (n2 := ρ 2) (n3 := ρ 3) (n4 := ρ 4) (n5 := ρ 5) (H0 := η 0) f10 f9 f8 f7 f6 f5 f4 f3 f2 f1 f0
theorem q_146y_3 {n0 n1 n2 n3 n4 n5 n6 n7 : Int} {H0 : gH} (f0 : n0 = 281) (f1 : hWt T0 H0 ∧ True) (f2 : 0 ≤ n1) (f3 : 0 ≤ n2) (f4 : n3 ≤ 2147483647) (f5 : (-2147483648) ≤ n3) (f6 : hK H0 (n1).toNat = 1) (f7 : n3 = hV H0 (n1).toNat 0) (f8 : n4 = 1) (f9 : n3 = n4) (f10 : n5 ≤ 2147483647) (f11 : (-2147483648) ≤ n5) (f12 : hK H0 (n2).toNat = 1) (f13 : n5 = hV H0 (n2).toNat 0) (f14 : n6 = 1) (f15 : n5 ≠ n6) (f16 : n7 = 0) : postb_146y n7 n0 n1 n2 H0 H0 := by
  unfold postb_146y
  intro k25 h1 h2 p1 p2
  have rc := f16
  have x7 : n3 = hV H0 (n1).toNat 0 := f7
  have x13 : n5 = hV H0 (n2).toNat 0 := f13
  have c0 := f0
  have c8 := f8
  have c14 := f14
  have c16 := f16
  exact .inr ⟨by omega, qrB_k2 (show ¬ (recC H0 (n2).toNat).1 = 1 from (by show ¬ hV H0 (n2).toNat 0 = 1; omega))⟩
theorem c_146y_s_3 : vOkm T0 (eP e_146y L_146y A_146y mu_146y none) 3 ([(0, [7], [], 0), (41, [5, 6], [], 0), (0, [6], [], 1), (20, [5, 2], [0], 0), (23, [2], [0], 1), (90, [5], [], -2147483648), (91, [5], [], 2147483647), (40, [3, 4], [], 0), (0, [4], [], 1), (20, [3, 1], [0], 0), (23, [1], [0], 1), (90, [3], [], -2147483648), (91, [3], [], 2147483647), (51, [2], [], 0), (51, [1], [], 0), (6000, [0, 1, 2], [0], 0), (0, [0], [], 281)], (3000, [7], [0], 36)) := vOk_in fun ρ η h => by
  obtain ⟨f0, f1, f2, f3, f4, f5, f6, f7, f8, f9, f10, f11, f12, f13, f14, f15, f16, _⟩ := h
  exact q_146y_3 (n0 := ρ 0) (n1 := ρ 1) (n2 := ρ 2) (n3 := ρ 3) (n4 := ρ 4) (n5 := ρ 5) (n6 := ρ 6) (n7 := ρ 7) (H0 := η 0) f16 f15 f14 f13 f12 f11 f10 f9 f8 f7 f6 f5 f4 f3 f2 f1 f0
theorem q_146y_4 {n0 n1 n2 n3 n4 n5 n6 n7 n8 n9 n10 n11 n12 n13 n14 n15 n16 n17 n18 n19 n20 n21 : Int} {H0 H1 H2 H3 : gH} (f0 : n0 = 281) (f1 : hWt T0 H0 ∧ True) (f2 : 0 ≤ n1) (f3 : 0 ≤ n2) (f4 : n3 ≤ 2147483647) (f5 : (-2147483648) ≤ n3) (f6 : hK H0 (n1).toNat = 1) (f7 : n3 = hV H0 (n1).toNat 0) (f8 : n4 = 1) (f9 : n3 = n4) (f10 : n5 ≤ 2147483647) (f11 : (-2147483648) ≤ n5) (f12 : hK H0 (n2).toNat = 1) (f13 : n5 = hV H0 (n2).toNat 0) (f14 : n6 = 1) (f15 : n5 = n6) (f16 : n7 ≤ 2147483647) (f17 : (-2147483648) ≤ n7) (f18 : hK H0 (n1).toNat = 1) (f19 : n7 = hV H0 (n1).toNat 3) (f20 : n8 ≤ 2147483647) (f21 : (-2147483648) ≤ n8) (f22 : hK H0 (n2).toNat = 1) (f23 : n8 = hV H0 (n2).toNat 3) (f24 : n7 = n8) (f25 : n9 = 23) (f26 : n9 = hV H0 (n0).toNat 0) (f27 : n10 ≤ 2147483647) (f28 : (-2147483648) ≤ n10) (f29 : hK H0 (n1).toNat = 1) (f30 : n10 = hV H0 (n1).toNat 4) (f31 : n11 ≤ 2147483647) (f32 : (-2147483648) ≤ n11) (f33 : hK H0 (n1).toNat = 1) (f34 : n11 = hV H0 (n1).toNat 5) (f35 : n12 ≤ 2147483647) (f36 : (-2147483648) ≤ n12) (f37 : (hLe T0 H0 H1 ∧ hFr s_8y.2.2.2.2 H0 H1 ∧ ((0 : Int) = 0 → H1.length = H0.length) ∧ hWt T0 H1) ∧ postb_8y n12 n9 n10 n11 H0 H1) (f38 : n13 = 23) (f39 : n13 = hV H1 (n0).toNat 0) (f40 : n14 ≤ 2147483647) (f41 : (-2147483648) ≤ n14) (f42 : hK H1 (n2).toNat = 1) (f43 : n14 = hV H1 (n2).toNat 4) (f44 : n15 ≤ 2147483647) (f45 : (-2147483648) ≤ n15) (f46 : hK H1 (n2).toNat = 1) (f47 : n15 = hV H1 (n2).toNat 5) (f48 : n16 ≤ 2147483647) (f49 : (-2147483648) ≤ n16) (f50 : (hLe T0 H1 H2 ∧ hFr s_8y.2.2.2.2 H1 H2 ∧ ((0 : Int) = 0 → H2.length = H1.length) ∧ hWt T0 H2) ∧ postb_8y n16 n13 n14 n15 H1 H2) (f51 : n12 ≤ n16) (f52 : n17 = 23) (f53 : n17 = hV H2 (n0).toNat 0) (f54 : n18 ≤ 2147483647) (f55 : (-2147483648) ≤ n18) (f56 : hK H2 (n1).toNat = 1) (f57 : n18 = hV H2 (n1).toNat 6) (f58 : n19 ≤ 2147483647) (f59 : (-2147483648) ≤ n19) (f60 : hK H2 (n1).toNat = 1) (f61 : n19 = hV H2 (n1).toNat 7) (f62 : n20 ≤ 2147483647) (f63 : (-2147483648) ≤ n20) (f64 : (hLe T0 H2 H3 ∧ hFr s_8y.2.2.2.2 H2 H3 ∧ ((0 : Int) = 0 → H3.length = H2.length) ∧ hWt T0 H3) ∧ postb_8y n20 n17 n18 n19 H2 H3) (f65 : n20 ≤ n16) (f66 : n21 = 0) : postb_146y n21 n0 n1 n2 H0 H3 := by
  unfold postb_146y
  intro k25 h1 h2 p1 p2
  have rc := f66
  have x7 : n3 = hV H0 (n1).toNat 0 := f7
  have x13 : n5 = hV H0 (n2).toNat 0 := f13
  have x19 : n7 = hV H0 (n1).toNat 3 := f19
  have x23 : n8 = hV H0 (n2).toNat 3 := f23
  have x30 : n10 = hV H0 (n1).toNat 4 := f30
  have x34 : n11 = hV H0 (n1).toNat 5 := f34
  have x43 : n14 = hV H0 (n2).toNat 4 := f43.trans (fr1 f37.1.2.1 (by decide +kernel) h2 4)
  have x47 : n15 = hV H0 (n2).toNat 5 := f47.trans (fr1 f37.1.2.1 (by decide +kernel) h2 5)
  have x57 : n18 = hV H0 (n1).toNat 6 := f57.trans ((fr1 f50.1.2.1 (by decide +kernel) (kLe f37.1.1 h1 rfl) 6).trans (fr1 f37.1.2.1 (by decide +kernel) h1 6))
  have x61 : n19 = hV H0 (n1).toNat 7 := f61.trans ((fr1 f50.1.2.1 (by decide +kernel) (kLe f37.1.1 h1 rfl) 7).trans (fr1 f37.1.2.1 (by decide +kernel) h1 7))
  have c0 := f0
  have c8 := f8
  have c14 := f14
  have c25 := f25
  have c38 := f38
  have c52 := f52
  have c66 := f66
  have s1 : (recC H0 (n1).toNat).2.2.1 = n7 := by
    show (if hV H0 (n1).toNat 0 = 0 ∨ hV H0 (n1).toNat 0 = 4 ∨ hV H0 (n1).toNat 0 = 5 then hV H0 (n1).toNat 2 else hV H0 (n1).toNat 3) = _
    rw [if_neg (by omega)]
    omega
  have s2 : (recC H0 (n2).toNat).2.2.1 = n8 := by
    show (if hV H0 (n2).toNat 0 = 0 ∨ hV H0 (n2).toNat 0 = 4 ∨ hV H0 (n2).toNat 0 = 5 then hV H0 (n2).toNat 2 else hV H0 (n2).toNat 3) = _
    rw [if_neg (by omega)]
    omega
  have qm := qrB_m (mk := hV H0 25) (show (recC H0 (n1).toNat).1 = 1 from (by show hV H0 (n1).toNat 0 = 1; omega)) (show (recC H0 (n2).toNat).1 = 1 from (by show hV H0 (n2).toNat 0 = 1; omega))
  rw [s1, s2] at qm
  rw [decide_eq_true (by omega), Bool.true_and] at qm
  have t0 : nwW (hV H0 25) (recC H0 (n1).toNat).2.2.2.1 (recC H0 (n1).toNat).2.2.2.2.1 = n12 := by
    have q := f37.2
    unfold postb_8y at q
    have q := q k25
    rw [x30, x34] at q
    exact q.symm
  have t1 : nwW (hV H0 25) (recC H0 (n2).toNat).2.2.2.1 (recC H0 (n2).toNat).2.2.2.2.1 = n16 := by
    have q := f50.2
    unfold postb_8y at q
    have q := q (K25_le f37.1.1 k25)
    rw [show hV H1 25 = hV H0 25 from fRow f37.1.2.1 25 (by decide +kernel)] at q
    rw [x43, x47] at q
    exact q.symm
  have t2 : nwW (hV H0 25) (recC H0 (n1).toNat).2.2.2.2.2.1 (recC H0 (n1).toNat).2.2.2.2.2.2.1 = n20 := by
    have q := f64.2
    unfold postb_8y at q
    have q := q (K25_le f50.1.1 (K25_le f37.1.1 k25))
    rw [show hV H2 25 = hV H0 25 from (fRow f50.1.2.1 25 (by decide +kernel)).trans (fRow f37.1.2.1 25 (by decide +kernel))] at q
    rw [x57, x61] at q
    exact q.symm
  rw [t1, t0, t2] at qm
  rw [decide_eq_false (show ¬ n16 < n12 by omega), cond_false] at qm
  rw [decide_eq_false (show ¬ n16 < n20 by omega)] at qm
  exact .inr ⟨by omega, qm⟩
theorem c_146y_s_4 : vOkm T0 (eP e_146y L_146y A_146y mu_146y none) 3 ([(0, [21], [], 0), (43, [16, 20], [], 0), (1008, [20, 17, 18, 19], [2, 3], 0), (90, [20], [], -2147483648), (91, [20], [], 2147483647), (20, [19, 1], [2], 7), (23, [1], [2], 1), (90, [19], [], -2147483648), (91, [19], [], 2147483647), (20, [18, 1], [2], 6), (23, [1], [2], 1), (90, [18], [], -2147483648), (91, [18], [], 2147483647), (20, [17, 0], [2], 0), (0, [17], [], 23), (45, [12, 16], [], 0), (1008, [16, 13, 14, 15], [1, 2], 0), (90, [16], [], -2147483648), (91, [16], [], 2147483647), (20, [15, 2], [1], 5), (23, [2], [1], 1), (90, [15], [], -2147483648), (91, [15], [], 2147483647), (20, [14, 2], [1], 4), (23, [2], [1], 1), (90, [14], [], -2147483648), (91, [14], [], 2147483647), (20, [13, 0], [1], 0), (0, [13], [], 23), (1008, [12, 9, 10, 11], [0, 1], 0), (90, [12], [], -2147483648), (91, [12], [], 2147483647), (20, [11, 1], [0], 5), (23, [1], [0], 1), (90, [11], [], -2147483648), (91, [11], [], 2147483647), (20, [10, 1], [0], 4), (23, [1], [0], 1), (90, [10], [], -2147483648), (91, [10], [], 2147483647), (20, [9, 0], [0], 0), (0, [9], [], 23), (40, [7, 8], [], 0), (20, [8, 2], [0], 3), (23, [2], [0], 1), (90, [8], [], -2147483648), (91, [8], [], 2147483647), (20, [7, 1], [0], 3), (23, [1], [0], 1), (90, [7], [], -2147483648), (91, [7], [], 2147483647), (40, [5, 6], [], 0), (0, [6], [], 1), (20, [5, 2], [0], 0), (23, [2], [0], 1), (90, [5], [], -2147483648), (91, [5], [], 2147483647), (40, [3, 4], [], 0), (0, [4], [], 1), (20, [3, 1], [0], 0), (23, [1], [0], 1), (90, [3], [], -2147483648), (91, [3], [], 2147483647), (51, [2], [], 0), (51, [1], [], 0), (6000, [0, 1, 2], [0], 0), (0, [0], [], 281)], (3000, [21], [3], 126)) := vOk_in fun ρ η h => by
  obtain ⟨f0, f1, f2, f3, f4, f5, f6, f7, f8, f9, f10, f11, f12, f13, f14, f15, f16, f17, f18, f19, f20, f21, f22, f23, f24, f25, f26, f27, f28, f29, f30, f31, f32, f33, f34, f35, f36, f37, f38, f39, f40, f41, f42, f43, f44, f45, f46, f47, f48, f49, f50, f51, f52, f53, f54, f55, f56, f57, f58, f59, f60, f61, f62, f63, f64, f65, f66, _⟩ := h
  exact q_146y_4 (n0 := ρ 0) (n1 := ρ 1) (n2 := ρ 2) (n3 := ρ 3) (n4 := ρ 4) (n5 := ρ 5) (n6 := ρ 6) (n7 := ρ 7) (n8 := ρ 8) (n9 := ρ 9) (n10 := ρ 10) (n11 := ρ 11) (n12 := ρ 12) (n13 := ρ 13) (n14 := ρ 14) (n15 := ρ 15) (n16 := ρ 16) (n17 := ρ 17) (n18 := ρ 18) (n19 := ρ 19) (n20 := ρ 20) (n21 := ρ 21) (H0 := η 0) (H1 := η 1) (H2 := η 2) (H3 := η 3) f66 f65 f64 f63 f62 f61 f60 f59 f58 f57 f56 f55 f54 f53 f52 f51 f50 f49 f48 f47 f46 f45 f44 f43 f42 f41 f40 f39 f38 f37 f36 f35 f34 f33 f32 f31 f30 f29 f28 f27 f26 f25 f24 f23 f22 f21 f20 f19 f18 f17 f16 f15 f14 f13 f12 f11 f10 f9 f8 f7 f6 f5 f4 f3 f2 f1 f0
theorem q_146y_5 {n0 n1 n2 n3 n4 n5 n6 n7 n8 n9 n10 n11 n12 n13 n14 n15 n16 n17 n18 n19 n20 n21 : Int} {H0 H1 H2 H3 : gH} (f0 : n0 = 281) (f1 : hWt T0 H0 ∧ True) (f2 : 0 ≤ n1) (f3 : 0 ≤ n2) (f4 : n3 ≤ 2147483647) (f5 : (-2147483648) ≤ n3) (f6 : hK H0 (n1).toNat = 1) (f7 : n3 = hV H0 (n1).toNat 0) (f8 : n4 = 1) (f9 : n3 = n4) (f10 : n5 ≤ 2147483647) (f11 : (-2147483648) ≤ n5) (f12 : hK H0 (n2).toNat = 1) (f13 : n5 = hV H0 (n2).toNat 0) (f14 : n6 = 1) (f15 : n5 = n6) (f16 : n7 ≤ 2147483647) (f17 : (-2147483648) ≤ n7) (f18 : hK H0 (n1).toNat = 1) (f19 : n7 = hV H0 (n1).toNat 3) (f20 : n8 ≤ 2147483647) (f21 : (-2147483648) ≤ n8) (f22 : hK H0 (n2).toNat = 1) (f23 : n8 = hV H0 (n2).toNat 3) (f24 : n7 = n8) (f25 : n9 = 23) (f26 : n9 = hV H0 (n0).toNat 0) (f27 : n10 ≤ 2147483647) (f28 : (-2147483648) ≤ n10) (f29 : hK H0 (n1).toNat = 1) (f30 : n10 = hV H0 (n1).toNat 4) (f31 : n11 ≤ 2147483647) (f32 : (-2147483648) ≤ n11) (f33 : hK H0 (n1).toNat = 1) (f34 : n11 = hV H0 (n1).toNat 5) (f35 : n12 ≤ 2147483647) (f36 : (-2147483648) ≤ n12) (f37 : (hLe T0 H0 H1 ∧ hFr s_8y.2.2.2.2 H0 H1 ∧ ((0 : Int) = 0 → H1.length = H0.length) ∧ hWt T0 H1) ∧ postb_8y n12 n9 n10 n11 H0 H1) (f38 : n13 = 23) (f39 : n13 = hV H1 (n0).toNat 0) (f40 : n14 ≤ 2147483647) (f41 : (-2147483648) ≤ n14) (f42 : hK H1 (n2).toNat = 1) (f43 : n14 = hV H1 (n2).toNat 4) (f44 : n15 ≤ 2147483647) (f45 : (-2147483648) ≤ n15) (f46 : hK H1 (n2).toNat = 1) (f47 : n15 = hV H1 (n2).toNat 5) (f48 : n16 ≤ 2147483647) (f49 : (-2147483648) ≤ n16) (f50 : (hLe T0 H1 H2 ∧ hFr s_8y.2.2.2.2 H1 H2 ∧ ((0 : Int) = 0 → H2.length = H1.length) ∧ hWt T0 H2) ∧ postb_8y n16 n13 n14 n15 H1 H2) (f51 : n12 ≤ n16) (f52 : n17 = 23) (f53 : n17 = hV H2 (n0).toNat 0) (f54 : n18 ≤ 2147483647) (f55 : (-2147483648) ≤ n18) (f56 : hK H2 (n1).toNat = 1) (f57 : n18 = hV H2 (n1).toNat 6) (f58 : n19 ≤ 2147483647) (f59 : (-2147483648) ≤ n19) (f60 : hK H2 (n1).toNat = 1) (f61 : n19 = hV H2 (n1).toNat 7) (f62 : n20 ≤ 2147483647) (f63 : (-2147483648) ≤ n20) (f64 : (hLe T0 H2 H3 ∧ hFr s_8y.2.2.2.2 H2 H3 ∧ ((0 : Int) = 0 → H3.length = H2.length) ∧ hWt T0 H3) ∧ postb_8y n20 n17 n18 n19 H2 H3) (f65 : n16 < n20) (f66 : n21 = 1) : postb_146y n21 n0 n1 n2 H0 H3 := by
  unfold postb_146y
  intro k25 h1 h2 p1 p2
  have rc := f66
  have x7 : n3 = hV H0 (n1).toNat 0 := f7
  have x13 : n5 = hV H0 (n2).toNat 0 := f13
  have x19 : n7 = hV H0 (n1).toNat 3 := f19
  have x23 : n8 = hV H0 (n2).toNat 3 := f23
  have x30 : n10 = hV H0 (n1).toNat 4 := f30
  have x34 : n11 = hV H0 (n1).toNat 5 := f34
  have x43 : n14 = hV H0 (n2).toNat 4 := f43.trans (fr1 f37.1.2.1 (by decide +kernel) h2 4)
  have x47 : n15 = hV H0 (n2).toNat 5 := f47.trans (fr1 f37.1.2.1 (by decide +kernel) h2 5)
  have x57 : n18 = hV H0 (n1).toNat 6 := f57.trans ((fr1 f50.1.2.1 (by decide +kernel) (kLe f37.1.1 h1 rfl) 6).trans (fr1 f37.1.2.1 (by decide +kernel) h1 6))
  have x61 : n19 = hV H0 (n1).toNat 7 := f61.trans ((fr1 f50.1.2.1 (by decide +kernel) (kLe f37.1.1 h1 rfl) 7).trans (fr1 f37.1.2.1 (by decide +kernel) h1 7))
  have c0 := f0
  have c8 := f8
  have c14 := f14
  have c25 := f25
  have c38 := f38
  have c52 := f52
  have c66 := f66
  have s1 : (recC H0 (n1).toNat).2.2.1 = n7 := by
    show (if hV H0 (n1).toNat 0 = 0 ∨ hV H0 (n1).toNat 0 = 4 ∨ hV H0 (n1).toNat 0 = 5 then hV H0 (n1).toNat 2 else hV H0 (n1).toNat 3) = _
    rw [if_neg (by omega)]
    omega
  have s2 : (recC H0 (n2).toNat).2.2.1 = n8 := by
    show (if hV H0 (n2).toNat 0 = 0 ∨ hV H0 (n2).toNat 0 = 4 ∨ hV H0 (n2).toNat 0 = 5 then hV H0 (n2).toNat 2 else hV H0 (n2).toNat 3) = _
    rw [if_neg (by omega)]
    omega
  have qm := qrB_m (mk := hV H0 25) (show (recC H0 (n1).toNat).1 = 1 from (by show hV H0 (n1).toNat 0 = 1; omega)) (show (recC H0 (n2).toNat).1 = 1 from (by show hV H0 (n2).toNat 0 = 1; omega))
  rw [s1, s2] at qm
  rw [decide_eq_true (by omega), Bool.true_and] at qm
  have t0 : nwW (hV H0 25) (recC H0 (n1).toNat).2.2.2.1 (recC H0 (n1).toNat).2.2.2.2.1 = n12 := by
    have q := f37.2
    unfold postb_8y at q
    have q := q k25
    rw [x30, x34] at q
    exact q.symm
  have t1 : nwW (hV H0 25) (recC H0 (n2).toNat).2.2.2.1 (recC H0 (n2).toNat).2.2.2.2.1 = n16 := by
    have q := f50.2
    unfold postb_8y at q
    have q := q (K25_le f37.1.1 k25)
    rw [show hV H1 25 = hV H0 25 from fRow f37.1.2.1 25 (by decide +kernel)] at q
    rw [x43, x47] at q
    exact q.symm
  have t2 : nwW (hV H0 25) (recC H0 (n1).toNat).2.2.2.2.2.1 (recC H0 (n1).toNat).2.2.2.2.2.2.1 = n20 := by
    have q := f64.2
    unfold postb_8y at q
    have q := q (K25_le f50.1.1 (K25_le f37.1.1 k25))
    rw [show hV H2 25 = hV H0 25 from (fRow f50.1.2.1 25 (by decide +kernel)).trans (fRow f37.1.2.1 25 (by decide +kernel))] at q
    rw [x57, x61] at q
    exact q.symm
  rw [t1, t0, t2] at qm
  rw [decide_eq_false (show ¬ n16 < n12 by omega), cond_false] at qm
  rw [decide_eq_true (show n16 < n20 by omega)] at qm
  exact .inl ⟨by omega, qm⟩
theorem c_146y_s_5 : vOkm T0 (eP e_146y L_146y A_146y mu_146y none) 3 ([(0, [21], [], 1), (42, [16, 20], [], 0), (1008, [20, 17, 18, 19], [2, 3], 0), (90, [20], [], -2147483648), (91, [20], [], 2147483647), (20, [19, 1], [2], 7), (23, [1], [2], 1), (90, [19], [], -2147483648), (91, [19], [], 2147483647), (20, [18, 1], [2], 6), (23, [1], [2], 1), (90, [18], [], -2147483648), (91, [18], [], 2147483647), (20, [17, 0], [2], 0), (0, [17], [], 23), (45, [12, 16], [], 0), (1008, [16, 13, 14, 15], [1, 2], 0), (90, [16], [], -2147483648), (91, [16], [], 2147483647), (20, [15, 2], [1], 5), (23, [2], [1], 1), (90, [15], [], -2147483648), (91, [15], [], 2147483647), (20, [14, 2], [1], 4), (23, [2], [1], 1), (90, [14], [], -2147483648), (91, [14], [], 2147483647), (20, [13, 0], [1], 0), (0, [13], [], 23), (1008, [12, 9, 10, 11], [0, 1], 0), (90, [12], [], -2147483648), (91, [12], [], 2147483647), (20, [11, 1], [0], 5), (23, [1], [0], 1), (90, [11], [], -2147483648), (91, [11], [], 2147483647), (20, [10, 1], [0], 4), (23, [1], [0], 1), (90, [10], [], -2147483648), (91, [10], [], 2147483647), (20, [9, 0], [0], 0), (0, [9], [], 23), (40, [7, 8], [], 0), (20, [8, 2], [0], 3), (23, [2], [0], 1), (90, [8], [], -2147483648), (91, [8], [], 2147483647), (20, [7, 1], [0], 3), (23, [1], [0], 1), (90, [7], [], -2147483648), (91, [7], [], 2147483647), (40, [5, 6], [], 0), (0, [6], [], 1), (20, [5, 2], [0], 0), (23, [2], [0], 1), (90, [5], [], -2147483648), (91, [5], [], 2147483647), (40, [3, 4], [], 0), (0, [4], [], 1), (20, [3, 1], [0], 0), (23, [1], [0], 1), (90, [3], [], -2147483648), (91, [3], [], 2147483647), (51, [2], [], 0), (51, [1], [], 0), (6000, [0, 1, 2], [0], 0), (0, [0], [], 281)], (3000, [21], [3], 126)) := vOk_in fun ρ η h => by
  obtain ⟨f0, f1, f2, f3, f4, f5, f6, f7, f8, f9, f10, f11, f12, f13, f14, f15, f16, f17, f18, f19, f20, f21, f22, f23, f24, f25, f26, f27, f28, f29, f30, f31, f32, f33, f34, f35, f36, f37, f38, f39, f40, f41, f42, f43, f44, f45, f46, f47, f48, f49, f50, f51, f52, f53, f54, f55, f56, f57, f58, f59, f60, f61, f62, f63, f64, f65, f66, _⟩ := h
  exact q_146y_5 (n0 := ρ 0) (n1 := ρ 1) (n2 := ρ 2) (n3 := ρ 3) (n4 := ρ 4) (n5 := ρ 5) (n6 := ρ 6) (n7 := ρ 7) (n8 := ρ 8) (n9 := ρ 9) (n10 := ρ 10) (n11 := ρ 11) (n12 := ρ 12) (n13 := ρ 13) (n14 := ρ 14) (n15 := ρ 15) (n16 := ρ 16) (n17 := ρ 17) (n18 := ρ 18) (n19 := ρ 19) (n20 := ρ 20) (n21 := ρ 21) (H0 := η 0) (H1 := η 1) (H2 := η 2) (H3 := η 3) f66 f65 f64 f63 f62 f61 f60 f59 f58 f57 f56 f55 f54 f53 f52 f51 f50 f49 f48 f47 f46 f45 f44 f43 f42 f41 f40 f39 f38 f37 f36 f35 f34 f33 f32 f31 f30 f29 f28 f27 f26 f25 f24 f23 f22 f21 f20 f19 f18 f17 f16 f15 f14 f13 f12 f11 f10 f9 f8 f7 f6 f5 f4 f3 f2 f1 f0
theorem q_146y_6 {n0 n1 n2 n3 n4 n5 n6 n7 n8 n9 n10 n11 n12 n13 n14 n15 n16 n17 n18 n19 n20 n21 : Int} {H0 H1 H2 H3 : gH} (f0 : n0 = 281) (f1 : hWt T0 H0 ∧ True) (f2 : 0 ≤ n1) (f3 : 0 ≤ n2) (f4 : n3 ≤ 2147483647) (f5 : (-2147483648) ≤ n3) (f6 : hK H0 (n1).toNat = 1) (f7 : n3 = hV H0 (n1).toNat 0) (f8 : n4 = 1) (f9 : n3 = n4) (f10 : n5 ≤ 2147483647) (f11 : (-2147483648) ≤ n5) (f12 : hK H0 (n2).toNat = 1) (f13 : n5 = hV H0 (n2).toNat 0) (f14 : n6 = 1) (f15 : n5 = n6) (f16 : n7 ≤ 2147483647) (f17 : (-2147483648) ≤ n7) (f18 : hK H0 (n1).toNat = 1) (f19 : n7 = hV H0 (n1).toNat 3) (f20 : n8 ≤ 2147483647) (f21 : (-2147483648) ≤ n8) (f22 : hK H0 (n2).toNat = 1) (f23 : n8 = hV H0 (n2).toNat 3) (f24 : n7 = n8) (f25 : n9 = 23) (f26 : n9 = hV H0 (n0).toNat 0) (f27 : n10 ≤ 2147483647) (f28 : (-2147483648) ≤ n10) (f29 : hK H0 (n1).toNat = 1) (f30 : n10 = hV H0 (n1).toNat 4) (f31 : n11 ≤ 2147483647) (f32 : (-2147483648) ≤ n11) (f33 : hK H0 (n1).toNat = 1) (f34 : n11 = hV H0 (n1).toNat 5) (f35 : n12 ≤ 2147483647) (f36 : (-2147483648) ≤ n12) (f37 : (hLe T0 H0 H1 ∧ hFr s_8y.2.2.2.2 H0 H1 ∧ ((0 : Int) = 0 → H1.length = H0.length) ∧ hWt T0 H1) ∧ postb_8y n12 n9 n10 n11 H0 H1) (f38 : n13 = 23) (f39 : n13 = hV H1 (n0).toNat 0) (f40 : n14 ≤ 2147483647) (f41 : (-2147483648) ≤ n14) (f42 : hK H1 (n2).toNat = 1) (f43 : n14 = hV H1 (n2).toNat 4) (f44 : n15 ≤ 2147483647) (f45 : (-2147483648) ≤ n15) (f46 : hK H1 (n2).toNat = 1) (f47 : n15 = hV H1 (n2).toNat 5) (f48 : n16 ≤ 2147483647) (f49 : (-2147483648) ≤ n16) (f50 : (hLe T0 H1 H2 ∧ hFr s_8y.2.2.2.2 H1 H2 ∧ ((0 : Int) = 0 → H2.length = H1.length) ∧ hWt T0 H2) ∧ postb_8y n16 n13 n14 n15 H1 H2) (f51 : n16 < n12) (f52 : n17 = 23) (f53 : n17 = hV H2 (n0).toNat 0) (f54 : n18 ≤ 2147483647) (f55 : (-2147483648) ≤ n18) (f56 : hK H2 (n2).toNat = 1) (f57 : n18 = hV H2 (n2).toNat 6) (f58 : n19 ≤ 2147483647) (f59 : (-2147483648) ≤ n19) (f60 : hK H2 (n2).toNat = 1) (f61 : n19 = hV H2 (n2).toNat 7) (f62 : n20 ≤ 2147483647) (f63 : (-2147483648) ≤ n20) (f64 : (hLe T0 H2 H3 ∧ hFr s_8y.2.2.2.2 H2 H3 ∧ ((0 : Int) = 0 → H3.length = H2.length) ∧ hWt T0 H3) ∧ postb_8y n20 n17 n18 n19 H2 H3) (f65 : n20 ≤ n12) (f66 : n21 = 0) : postb_146y n21 n0 n1 n2 H0 H3 := by
  unfold postb_146y
  intro k25 h1 h2 p1 p2
  have rc := f66
  have x7 : n3 = hV H0 (n1).toNat 0 := f7
  have x13 : n5 = hV H0 (n2).toNat 0 := f13
  have x19 : n7 = hV H0 (n1).toNat 3 := f19
  have x23 : n8 = hV H0 (n2).toNat 3 := f23
  have x30 : n10 = hV H0 (n1).toNat 4 := f30
  have x34 : n11 = hV H0 (n1).toNat 5 := f34
  have x43 : n14 = hV H0 (n2).toNat 4 := f43.trans (fr1 f37.1.2.1 (by decide +kernel) h2 4)
  have x47 : n15 = hV H0 (n2).toNat 5 := f47.trans (fr1 f37.1.2.1 (by decide +kernel) h2 5)
  have x57 : n18 = hV H0 (n2).toNat 6 := f57.trans ((fr1 f50.1.2.1 (by decide +kernel) (kLe f37.1.1 h2 rfl) 6).trans (fr1 f37.1.2.1 (by decide +kernel) h2 6))
  have x61 : n19 = hV H0 (n2).toNat 7 := f61.trans ((fr1 f50.1.2.1 (by decide +kernel) (kLe f37.1.1 h2 rfl) 7).trans (fr1 f37.1.2.1 (by decide +kernel) h2 7))
  have c0 := f0
  have c8 := f8
  have c14 := f14
  have c25 := f25
  have c38 := f38
  have c52 := f52
  have c66 := f66
  have s1 : (recC H0 (n1).toNat).2.2.1 = n7 := by
    show (if hV H0 (n1).toNat 0 = 0 ∨ hV H0 (n1).toNat 0 = 4 ∨ hV H0 (n1).toNat 0 = 5 then hV H0 (n1).toNat 2 else hV H0 (n1).toNat 3) = _
    rw [if_neg (by omega)]
    omega
  have s2 : (recC H0 (n2).toNat).2.2.1 = n8 := by
    show (if hV H0 (n2).toNat 0 = 0 ∨ hV H0 (n2).toNat 0 = 4 ∨ hV H0 (n2).toNat 0 = 5 then hV H0 (n2).toNat 2 else hV H0 (n2).toNat 3) = _
    rw [if_neg (by omega)]
    omega
  have qm := qrB_m (mk := hV H0 25) (show (recC H0 (n1).toNat).1 = 1 from (by show hV H0 (n1).toNat 0 = 1; omega)) (show (recC H0 (n2).toNat).1 = 1 from (by show hV H0 (n2).toNat 0 = 1; omega))
  rw [s1, s2] at qm
  rw [decide_eq_true (by omega), Bool.true_and] at qm
  have t0 : nwW (hV H0 25) (recC H0 (n1).toNat).2.2.2.1 (recC H0 (n1).toNat).2.2.2.2.1 = n12 := by
    have q := f37.2
    unfold postb_8y at q
    have q := q k25
    rw [x30, x34] at q
    exact q.symm
  have t1 : nwW (hV H0 25) (recC H0 (n2).toNat).2.2.2.1 (recC H0 (n2).toNat).2.2.2.2.1 = n16 := by
    have q := f50.2
    unfold postb_8y at q
    have q := q (K25_le f37.1.1 k25)
    rw [show hV H1 25 = hV H0 25 from fRow f37.1.2.1 25 (by decide +kernel)] at q
    rw [x43, x47] at q
    exact q.symm
  have t2 : nwW (hV H0 25) (recC H0 (n2).toNat).2.2.2.2.2.1 (recC H0 (n2).toNat).2.2.2.2.2.2.1 = n20 := by
    have q := f64.2
    unfold postb_8y at q
    have q := q (K25_le f50.1.1 (K25_le f37.1.1 k25))
    rw [show hV H2 25 = hV H0 25 from (fRow f50.1.2.1 25 (by decide +kernel)).trans (fRow f37.1.2.1 25 (by decide +kernel))] at q
    rw [x57, x61] at q
    exact q.symm
  rw [t1, t0, t2] at qm
  rw [decide_eq_true (show n16 < n12 by omega), cond_true] at qm
  rw [decide_eq_false (show ¬ n12 < n20 by omega)] at qm
  exact .inr ⟨by omega, qm⟩
theorem c_146y_s_6 : vOkm T0 (eP e_146y L_146y A_146y mu_146y none) 3 ([(0, [21], [], 0), (43, [12, 20], [], 0), (1008, [20, 17, 18, 19], [2, 3], 0), (90, [20], [], -2147483648), (91, [20], [], 2147483647), (20, [19, 2], [2], 7), (23, [2], [2], 1), (90, [19], [], -2147483648), (91, [19], [], 2147483647), (20, [18, 2], [2], 6), (23, [2], [2], 1), (90, [18], [], -2147483648), (91, [18], [], 2147483647), (20, [17, 0], [2], 0), (0, [17], [], 23), (44, [12, 16], [], 0), (1008, [16, 13, 14, 15], [1, 2], 0), (90, [16], [], -2147483648), (91, [16], [], 2147483647), (20, [15, 2], [1], 5), (23, [2], [1], 1), (90, [15], [], -2147483648), (91, [15], [], 2147483647), (20, [14, 2], [1], 4), (23, [2], [1], 1), (90, [14], [], -2147483648), (91, [14], [], 2147483647), (20, [13, 0], [1], 0), (0, [13], [], 23), (1008, [12, 9, 10, 11], [0, 1], 0), (90, [12], [], -2147483648), (91, [12], [], 2147483647), (20, [11, 1], [0], 5), (23, [1], [0], 1), (90, [11], [], -2147483648), (91, [11], [], 2147483647), (20, [10, 1], [0], 4), (23, [1], [0], 1), (90, [10], [], -2147483648), (91, [10], [], 2147483647), (20, [9, 0], [0], 0), (0, [9], [], 23), (40, [7, 8], [], 0), (20, [8, 2], [0], 3), (23, [2], [0], 1), (90, [8], [], -2147483648), (91, [8], [], 2147483647), (20, [7, 1], [0], 3), (23, [1], [0], 1), (90, [7], [], -2147483648), (91, [7], [], 2147483647), (40, [5, 6], [], 0), (0, [6], [], 1), (20, [5, 2], [0], 0), (23, [2], [0], 1), (90, [5], [], -2147483648), (91, [5], [], 2147483647), (40, [3, 4], [], 0), (0, [4], [], 1), (20, [3, 1], [0], 0), (23, [1], [0], 1), (90, [3], [], -2147483648), (91, [3], [], 2147483647), (51, [2], [], 0), (51, [1], [], 0), (6000, [0, 1, 2], [0], 0), (0, [0], [], 281)], (3000, [21], [3], 100)) := vOk_in fun ρ η h => by
  obtain ⟨f0, f1, f2, f3, f4, f5, f6, f7, f8, f9, f10, f11, f12, f13, f14, f15, f16, f17, f18, f19, f20, f21, f22, f23, f24, f25, f26, f27, f28, f29, f30, f31, f32, f33, f34, f35, f36, f37, f38, f39, f40, f41, f42, f43, f44, f45, f46, f47, f48, f49, f50, f51, f52, f53, f54, f55, f56, f57, f58, f59, f60, f61, f62, f63, f64, f65, f66, _⟩ := h
  exact q_146y_6 (n0 := ρ 0) (n1 := ρ 1) (n2 := ρ 2) (n3 := ρ 3) (n4 := ρ 4) (n5 := ρ 5) (n6 := ρ 6) (n7 := ρ 7) (n8 := ρ 8) (n9 := ρ 9) (n10 := ρ 10) (n11 := ρ 11) (n12 := ρ 12) (n13 := ρ 13) (n14 := ρ 14) (n15 := ρ 15) (n16 := ρ 16) (n17 := ρ 17) (n18 := ρ 18) (n19 := ρ 19) (n20 := ρ 20) (n21 := ρ 21) (H0 := η 0) (H1 := η 1) (H2 := η 2) (H3 := η 3) f66 f65 f64 f63 f62 f61 f60 f59 f58 f57 f56 f55 f54 f53 f52 f51 f50 f49 f48 f47 f46 f45 f44 f43 f42 f41 f40 f39 f38 f37 f36 f35 f34 f33 f32 f31 f30 f29 f28 f27 f26 f25 f24 f23 f22 f21 f20 f19 f18 f17 f16 f15 f14 f13 f12 f11 f10 f9 f8 f7 f6 f5 f4 f3 f2 f1 f0
theorem q_146y_7 {n0 n1 n2 n3 n4 n5 n6 n7 n8 n9 n10 n11 n12 n13 n14 n15 n16 n17 n18 n19 n20 n21 : Int} {H0 H1 H2 H3 : gH} (f0 : n0 = 281) (f1 : hWt T0 H0 ∧ True) (f2 : 0 ≤ n1) (f3 : 0 ≤ n2) (f4 : n3 ≤ 2147483647) (f5 : (-2147483648) ≤ n3) (f6 : hK H0 (n1).toNat = 1) (f7 : n3 = hV H0 (n1).toNat 0) (f8 : n4 = 1) (f9 : n3 = n4) (f10 : n5 ≤ 2147483647) (f11 : (-2147483648) ≤ n5) (f12 : hK H0 (n2).toNat = 1) (f13 : n5 = hV H0 (n2).toNat 0) (f14 : n6 = 1) (f15 : n5 = n6) (f16 : n7 ≤ 2147483647) (f17 : (-2147483648) ≤ n7) (f18 : hK H0 (n1).toNat = 1) (f19 : n7 = hV H0 (n1).toNat 3) (f20 : n8 ≤ 2147483647) (f21 : (-2147483648) ≤ n8) (f22 : hK H0 (n2).toNat = 1) (f23 : n8 = hV H0 (n2).toNat 3) (f24 : n7 = n8) (f25 : n9 = 23) (f26 : n9 = hV H0 (n0).toNat 0) (f27 : n10 ≤ 2147483647) (f28 : (-2147483648) ≤ n10) (f29 : hK H0 (n1).toNat = 1) (f30 : n10 = hV H0 (n1).toNat 4) (f31 : n11 ≤ 2147483647) (f32 : (-2147483648) ≤ n11) (f33 : hK H0 (n1).toNat = 1) (f34 : n11 = hV H0 (n1).toNat 5) (f35 : n12 ≤ 2147483647) (f36 : (-2147483648) ≤ n12) (f37 : (hLe T0 H0 H1 ∧ hFr s_8y.2.2.2.2 H0 H1 ∧ ((0 : Int) = 0 → H1.length = H0.length) ∧ hWt T0 H1) ∧ postb_8y n12 n9 n10 n11 H0 H1) (f38 : n13 = 23) (f39 : n13 = hV H1 (n0).toNat 0) (f40 : n14 ≤ 2147483647) (f41 : (-2147483648) ≤ n14) (f42 : hK H1 (n2).toNat = 1) (f43 : n14 = hV H1 (n2).toNat 4) (f44 : n15 ≤ 2147483647) (f45 : (-2147483648) ≤ n15) (f46 : hK H1 (n2).toNat = 1) (f47 : n15 = hV H1 (n2).toNat 5) (f48 : n16 ≤ 2147483647) (f49 : (-2147483648) ≤ n16) (f50 : (hLe T0 H1 H2 ∧ hFr s_8y.2.2.2.2 H1 H2 ∧ ((0 : Int) = 0 → H2.length = H1.length) ∧ hWt T0 H2) ∧ postb_8y n16 n13 n14 n15 H1 H2) (f51 : n16 < n12) (f52 : n17 = 23) (f53 : n17 = hV H2 (n0).toNat 0) (f54 : n18 ≤ 2147483647) (f55 : (-2147483648) ≤ n18) (f56 : hK H2 (n2).toNat = 1) (f57 : n18 = hV H2 (n2).toNat 6) (f58 : n19 ≤ 2147483647) (f59 : (-2147483648) ≤ n19) (f60 : hK H2 (n2).toNat = 1) (f61 : n19 = hV H2 (n2).toNat 7) (f62 : n20 ≤ 2147483647) (f63 : (-2147483648) ≤ n20) (f64 : (hLe T0 H2 H3 ∧ hFr s_8y.2.2.2.2 H2 H3 ∧ ((0 : Int) = 0 → H3.length = H2.length) ∧ hWt T0 H3) ∧ postb_8y n20 n17 n18 n19 H2 H3) (f65 : n12 < n20) (f66 : n21 = 1) : postb_146y n21 n0 n1 n2 H0 H3 := by
  unfold postb_146y
  intro k25 h1 h2 p1 p2
  have rc := f66
  have x7 : n3 = hV H0 (n1).toNat 0 := f7
  have x13 : n5 = hV H0 (n2).toNat 0 := f13
  have x19 : n7 = hV H0 (n1).toNat 3 := f19
  have x23 : n8 = hV H0 (n2).toNat 3 := f23
  have x30 : n10 = hV H0 (n1).toNat 4 := f30
  have x34 : n11 = hV H0 (n1).toNat 5 := f34
  have x43 : n14 = hV H0 (n2).toNat 4 := f43.trans (fr1 f37.1.2.1 (by decide +kernel) h2 4)
  have x47 : n15 = hV H0 (n2).toNat 5 := f47.trans (fr1 f37.1.2.1 (by decide +kernel) h2 5)
  have x57 : n18 = hV H0 (n2).toNat 6 := f57.trans ((fr1 f50.1.2.1 (by decide +kernel) (kLe f37.1.1 h2 rfl) 6).trans (fr1 f37.1.2.1 (by decide +kernel) h2 6))
  have x61 : n19 = hV H0 (n2).toNat 7 := f61.trans ((fr1 f50.1.2.1 (by decide +kernel) (kLe f37.1.1 h2 rfl) 7).trans (fr1 f37.1.2.1 (by decide +kernel) h2 7))
  have c0 := f0
  have c8 := f8
  have c14 := f14
  have c25 := f25
  have c38 := f38
  have c52 := f52
  have c66 := f66
  have s1 : (recC H0 (n1).toNat).2.2.1 = n7 := by
    show (if hV H0 (n1).toNat 0 = 0 ∨ hV H0 (n1).toNat 0 = 4 ∨ hV H0 (n1).toNat 0 = 5 then hV H0 (n1).toNat 2 else hV H0 (n1).toNat 3) = _
    rw [if_neg (by omega)]
    omega
  have s2 : (recC H0 (n2).toNat).2.2.1 = n8 := by
    show (if hV H0 (n2).toNat 0 = 0 ∨ hV H0 (n2).toNat 0 = 4 ∨ hV H0 (n2).toNat 0 = 5 then hV H0 (n2).toNat 2 else hV H0 (n2).toNat 3) = _
    rw [if_neg (by omega)]
    omega
  have qm := qrB_m (mk := hV H0 25) (show (recC H0 (n1).toNat).1 = 1 from (by show hV H0 (n1).toNat 0 = 1; omega)) (show (recC H0 (n2).toNat).1 = 1 from (by show hV H0 (n2).toNat 0 = 1; omega))
  rw [s1, s2] at qm
  rw [decide_eq_true (by omega), Bool.true_and] at qm
  have t0 : nwW (hV H0 25) (recC H0 (n1).toNat).2.2.2.1 (recC H0 (n1).toNat).2.2.2.2.1 = n12 := by
    have q := f37.2
    unfold postb_8y at q
    have q := q k25
    rw [x30, x34] at q
    exact q.symm
  have t1 : nwW (hV H0 25) (recC H0 (n2).toNat).2.2.2.1 (recC H0 (n2).toNat).2.2.2.2.1 = n16 := by
    have q := f50.2
    unfold postb_8y at q
    have q := q (K25_le f37.1.1 k25)
    rw [show hV H1 25 = hV H0 25 from fRow f37.1.2.1 25 (by decide +kernel)] at q
    rw [x43, x47] at q
    exact q.symm
  have t2 : nwW (hV H0 25) (recC H0 (n2).toNat).2.2.2.2.2.1 (recC H0 (n2).toNat).2.2.2.2.2.2.1 = n20 := by
    have q := f64.2
    unfold postb_8y at q
    have q := q (K25_le f50.1.1 (K25_le f37.1.1 k25))
    rw [show hV H2 25 = hV H0 25 from (fRow f50.1.2.1 25 (by decide +kernel)).trans (fRow f37.1.2.1 25 (by decide +kernel))] at q
    rw [x57, x61] at q
    exact q.symm
  rw [t1, t0, t2] at qm
  rw [decide_eq_true (show n16 < n12 by omega), cond_true] at qm
  rw [decide_eq_true (show n12 < n20 by omega)] at qm
  exact .inl ⟨by omega, qm⟩
theorem c_146y_s_7 : vOkm T0 (eP e_146y L_146y A_146y mu_146y none) 3 ([(0, [21], [], 1), (42, [12, 20], [], 0), (1008, [20, 17, 18, 19], [2, 3], 0), (90, [20], [], -2147483648), (91, [20], [], 2147483647), (20, [19, 2], [2], 7), (23, [2], [2], 1), (90, [19], [], -2147483648), (91, [19], [], 2147483647), (20, [18, 2], [2], 6), (23, [2], [2], 1), (90, [18], [], -2147483648), (91, [18], [], 2147483647), (20, [17, 0], [2], 0), (0, [17], [], 23), (44, [12, 16], [], 0), (1008, [16, 13, 14, 15], [1, 2], 0), (90, [16], [], -2147483648), (91, [16], [], 2147483647), (20, [15, 2], [1], 5), (23, [2], [1], 1), (90, [15], [], -2147483648), (91, [15], [], 2147483647), (20, [14, 2], [1], 4), (23, [2], [1], 1), (90, [14], [], -2147483648), (91, [14], [], 2147483647), (20, [13, 0], [1], 0), (0, [13], [], 23), (1008, [12, 9, 10, 11], [0, 1], 0), (90, [12], [], -2147483648), (91, [12], [], 2147483647), (20, [11, 1], [0], 5), (23, [1], [0], 1), (90, [11], [], -2147483648), (91, [11], [], 2147483647), (20, [10, 1], [0], 4), (23, [1], [0], 1), (90, [10], [], -2147483648), (91, [10], [], 2147483647), (20, [9, 0], [0], 0), (0, [9], [], 23), (40, [7, 8], [], 0), (20, [8, 2], [0], 3), (23, [2], [0], 1), (90, [8], [], -2147483648), (91, [8], [], 2147483647), (20, [7, 1], [0], 3), (23, [1], [0], 1), (90, [7], [], -2147483648), (91, [7], [], 2147483647), (40, [5, 6], [], 0), (0, [6], [], 1), (20, [5, 2], [0], 0), (23, [2], [0], 1), (90, [5], [], -2147483648), (91, [5], [], 2147483647), (40, [3, 4], [], 0), (0, [4], [], 1), (20, [3, 1], [0], 0), (23, [1], [0], 1), (90, [3], [], -2147483648), (91, [3], [], 2147483647), (51, [2], [], 0), (51, [1], [], 0), (6000, [0, 1, 2], [0], 0), (0, [0], [], 281)], (3000, [21], [3], 100)) := vOk_in fun ρ η h => by
  obtain ⟨f0, f1, f2, f3, f4, f5, f6, f7, f8, f9, f10, f11, f12, f13, f14, f15, f16, f17, f18, f19, f20, f21, f22, f23, f24, f25, f26, f27, f28, f29, f30, f31, f32, f33, f34, f35, f36, f37, f38, f39, f40, f41, f42, f43, f44, f45, f46, f47, f48, f49, f50, f51, f52, f53, f54, f55, f56, f57, f58, f59, f60, f61, f62, f63, f64, f65, f66, _⟩ := h
  exact q_146y_7 (n0 := ρ 0) (n1 := ρ 1) (n2 := ρ 2) (n3 := ρ 3) (n4 := ρ 4) (n5 := ρ 5) (n6 := ρ 6) (n7 := ρ 7) (n8 := ρ 8) (n9 := ρ 9) (n10 := ρ 10) (n11 := ρ 11) (n12 := ρ 12) (n13 := ρ 13) (n14 := ρ 14) (n15 := ρ 15) (n16 := ρ 16) (n17 := ρ 17) (n18 := ρ 18) (n19 := ρ 19) (n20 := ρ 20) (n21 := ρ 21) (H0 := η 0) (H1 := η 1) (H2 := η 2) (H3 := η 3) f66 f65 f64 f63 f62 f61 f60 f59 f58 f57 f56 f55 f54 f53 f52 f51 f50 f49 f48 f47 f46 f45 f44 f43 f42 f41 f40 f39 f38 f37 f36 f35 f34 f33 f32 f31 f30 f29 f28 f27 f26 f25 f24 f23 f22 f21 f20 f19 f18 f17 f16 f15 f14 f13 f12 f11 f10 f9 f8 f7 f6 f5 f4 f3 f2 f1 f0
theorem q_146y_8 {n0 n1 n2 n3 n4 n5 n6 n7 n8 n9 : Int} {H0 : gH} (f0 : n0 = 281) (f1 : hWt T0 H0 ∧ True) (f2 : 0 ≤ n1) (f3 : 0 ≤ n2) (f4 : n3 ≤ 2147483647) (f5 : (-2147483648) ≤ n3) (f6 : hK H0 (n1).toNat = 1) (f7 : n3 = hV H0 (n1).toNat 0) (f8 : n4 = 1) (f9 : n3 = n4) (f10 : n5 ≤ 2147483647) (f11 : (-2147483648) ≤ n5) (f12 : hK H0 (n2).toNat = 1) (f13 : n5 = hV H0 (n2).toNat 0) (f14 : n6 = 1) (f15 : n5 = n6) (f16 : n7 ≤ 2147483647) (f17 : (-2147483648) ≤ n7) (f18 : hK H0 (n1).toNat = 1) (f19 : n7 = hV H0 (n1).toNat 3) (f20 : n8 ≤ 2147483647) (f21 : (-2147483648) ≤ n8) (f22 : hK H0 (n2).toNat = 1) (f23 : n8 = hV H0 (n2).toNat 3) (f24 : n7 ≠ n8) (f25 : n9 = 0) : postb_146y n9 n0 n1 n2 H0 H0 := by
  unfold postb_146y
  intro k25 h1 h2 p1 p2
  have rc := f25
  have x7 : n3 = hV H0 (n1).toNat 0 := f7
  have x13 : n5 = hV H0 (n2).toNat 0 := f13
  have x19 : n7 = hV H0 (n1).toNat 3 := f19
  have x23 : n8 = hV H0 (n2).toNat 3 := f23
  have c0 := f0
  have c8 := f8
  have c14 := f14
  have c25 := f25
  have s1 : (recC H0 (n1).toNat).2.2.1 = n7 := by
    show (if hV H0 (n1).toNat 0 = 0 ∨ hV H0 (n1).toNat 0 = 4 ∨ hV H0 (n1).toNat 0 = 5 then hV H0 (n1).toNat 2 else hV H0 (n1).toNat 3) = _
    rw [if_neg (by omega)]
    omega
  have s2 : (recC H0 (n2).toNat).2.2.1 = n8 := by
    show (if hV H0 (n2).toNat 0 = 0 ∨ hV H0 (n2).toNat 0 = 4 ∨ hV H0 (n2).toNat 0 = 5 then hV H0 (n2).toNat 2 else hV H0 (n2).toNat 3) = _
    rw [if_neg (by omega)]
    omega
  have qm := qrB_m (mk := hV H0 25) (show (recC H0 (n1).toNat).1 = 1 from (by show hV H0 (n1).toNat 0 = 1; omega)) (show (recC H0 (n2).toNat).1 = 1 from (by show hV H0 (n2).toNat 0 = 1; omega))
  rw [s1, s2] at qm
  rw [decide_eq_false (by omega), Bool.false_and] at qm
  exact .inr ⟨by omega, qm⟩
theorem c_146y_s_8 : vOkm T0 (eP e_146y L_146y A_146y mu_146y none) 3 ([(0, [9], [], 0), (41, [7, 8], [], 0), (20, [8, 2], [0], 3), (23, [2], [0], 1), (90, [8], [], -2147483648), (91, [8], [], 2147483647), (20, [7, 1], [0], 3), (23, [1], [0], 1), (90, [7], [], -2147483648), (91, [7], [], 2147483647), (40, [5, 6], [], 0), (0, [6], [], 1), (20, [5, 2], [0], 0), (23, [2], [0], 1), (90, [5], [], -2147483648), (91, [5], [], 2147483647), (40, [3, 4], [], 0), (0, [4], [], 1), (20, [3, 1], [0], 0), (23, [1], [0], 1), (90, [3], [], -2147483648), (91, [3], [], 2147483647), (51, [2], [], 0), (51, [1], [], 0), (6000, [0, 1, 2], [0], 0), (0, [0], [], 281)], (3000, [9], [0], 36)) := vOk_in fun ρ η h => by
  obtain ⟨f0, f1, f2, f3, f4, f5, f6, f7, f8, f9, f10, f11, f12, f13, f14, f15, f16, f17, f18, f19, f20, f21, f22, f23, f24, f25, _⟩ := h
  exact q_146y_8 (n0 := ρ 0) (n1 := ρ 1) (n2 := ρ 2) (n3 := ρ 3) (n4 := ρ 4) (n5 := ρ 5) (n6 := ρ 6) (n7 := ρ 7) (n8 := ρ 8) (n9 := ρ 9) (H0 := η 0) f25 f24 f23 f22 f21 f20 f19 f18 f17 f16 f15 f14 f13 f12 f11 f10 f9 f8 f7 f6 f5 f4 f3 f2 f1 f0
def p_146y_s : List vG := [([(0, [3], [], 0), (50, [1], [], 0), (6000, [0, 1, 2], [0], 0), (0, [0], [], 281)], (3000, [3], [0], 36)),
  ([(0, [3], [], 0), (50, [2], [], 0), (51, [1], [], 0), (6000, [0, 1, 2], [0], 0), (0, [0], [], 281)], (3000, [3], [0], 36)),
  ([(0, [5], [], 0), (41, [3, 4], [], 0), (0, [4], [], 1), (20, [3, 1], [0], 0), (23, [1], [0], 1), (90, [3], [], -2147483648), (91, [3], [], 2147483647), (51, [2], [], 0), (51, [1], [], 0), (6000, [0, 1, 2], [0], 0), (0, [0], [], 281)], (3000, [5], [0], 36)),
  ([(0, [7], [], 0), (41, [5, 6], [], 0), (0, [6], [], 1), (20, [5, 2], [0], 0), (23, [2], [0], 1), (90, [5], [], -2147483648), (91, [5], [], 2147483647), (40, [3, 4], [], 0), (0, [4], [], 1), (20, [3, 1], [0], 0), (23, [1], [0], 1), (90, [3], [], -2147483648), (91, [3], [], 2147483647), (51, [2], [], 0), (51, [1], [], 0), (6000, [0, 1, 2], [0], 0), (0, [0], [], 281)], (3000, [7], [0], 36)),
  ([(0, [21], [], 0), (43, [16, 20], [], 0), (1008, [20, 17, 18, 19], [2, 3], 0), (90, [20], [], -2147483648), (91, [20], [], 2147483647), (20, [19, 1], [2], 7), (23, [1], [2], 1), (90, [19], [], -2147483648), (91, [19], [], 2147483647), (20, [18, 1], [2], 6), (23, [1], [2], 1), (90, [18], [], -2147483648), (91, [18], [], 2147483647), (20, [17, 0], [2], 0), (0, [17], [], 23), (45, [12, 16], [], 0), (1008, [16, 13, 14, 15], [1, 2], 0), (90, [16], [], -2147483648), (91, [16], [], 2147483647), (20, [15, 2], [1], 5), (23, [2], [1], 1), (90, [15], [], -2147483648), (91, [15], [], 2147483647), (20, [14, 2], [1], 4), (23, [2], [1], 1), (90, [14], [], -2147483648), (91, [14], [], 2147483647), (20, [13, 0], [1], 0), (0, [13], [], 23), (1008, [12, 9, 10, 11], [0, 1], 0), (90, [12], [], -2147483648), (91, [12], [], 2147483647), (20, [11, 1], [0], 5), (23, [1], [0], 1), (90, [11], [], -2147483648), (91, [11], [], 2147483647), (20, [10, 1], [0], 4), (23, [1], [0], 1), (90, [10], [], -2147483648), (91, [10], [], 2147483647), (20, [9, 0], [0], 0), (0, [9], [], 23), (40, [7, 8], [], 0), (20, [8, 2], [0], 3), (23, [2], [0], 1), (90, [8], [], -2147483648), (91, [8], [], 2147483647), (20, [7, 1], [0], 3), (23, [1], [0], 1), (90, [7], [], -2147483648), (91, [7], [], 2147483647), (40, [5, 6], [], 0), (0, [6], [], 1), (20, [5, 2], [0], 0), (23, [2], [0], 1), (90, [5], [], -2147483648), (91, [5], [], 2147483647), (40, [3, 4], [], 0), (0, [4], [], 1), (20, [3, 1], [0], 0), (23, [1], [0], 1), (90, [3], [], -2147483648), (91, [3], [], 2147483647), (51, [2], [], 0), (51, [1], [], 0), (6000, [0, 1, 2], [0], 0), (0, [0], [], 281)], (3000, [21], [3], 126)),
  ([(0, [21], [], 1), (42, [16, 20], [], 0), (1008, [20, 17, 18, 19], [2, 3], 0), (90, [20], [], -2147483648), (91, [20], [], 2147483647), (20, [19, 1], [2], 7), (23, [1], [2], 1), (90, [19], [], -2147483648), (91, [19], [], 2147483647), (20, [18, 1], [2], 6), (23, [1], [2], 1), (90, [18], [], -2147483648), (91, [18], [], 2147483647), (20, [17, 0], [2], 0), (0, [17], [], 23), (45, [12, 16], [], 0), (1008, [16, 13, 14, 15], [1, 2], 0), (90, [16], [], -2147483648), (91, [16], [], 2147483647), (20, [15, 2], [1], 5), (23, [2], [1], 1), (90, [15], [], -2147483648), (91, [15], [], 2147483647), (20, [14, 2], [1], 4), (23, [2], [1], 1), (90, [14], [], -2147483648), (91, [14], [], 2147483647), (20, [13, 0], [1], 0), (0, [13], [], 23), (1008, [12, 9, 10, 11], [0, 1], 0), (90, [12], [], -2147483648), (91, [12], [], 2147483647), (20, [11, 1], [0], 5), (23, [1], [0], 1), (90, [11], [], -2147483648), (91, [11], [], 2147483647), (20, [10, 1], [0], 4), (23, [1], [0], 1), (90, [10], [], -2147483648), (91, [10], [], 2147483647), (20, [9, 0], [0], 0), (0, [9], [], 23), (40, [7, 8], [], 0), (20, [8, 2], [0], 3), (23, [2], [0], 1), (90, [8], [], -2147483648), (91, [8], [], 2147483647), (20, [7, 1], [0], 3), (23, [1], [0], 1), (90, [7], [], -2147483648), (91, [7], [], 2147483647), (40, [5, 6], [], 0), (0, [6], [], 1), (20, [5, 2], [0], 0), (23, [2], [0], 1), (90, [5], [], -2147483648), (91, [5], [], 2147483647), (40, [3, 4], [], 0), (0, [4], [], 1), (20, [3, 1], [0], 0), (23, [1], [0], 1), (90, [3], [], -2147483648), (91, [3], [], 2147483647), (51, [2], [], 0), (51, [1], [], 0), (6000, [0, 1, 2], [0], 0), (0, [0], [], 281)], (3000, [21], [3], 126)),
  ([(0, [21], [], 0), (43, [12, 20], [], 0), (1008, [20, 17, 18, 19], [2, 3], 0), (90, [20], [], -2147483648), (91, [20], [], 2147483647), (20, [19, 2], [2], 7), (23, [2], [2], 1), (90, [19], [], -2147483648), (91, [19], [], 2147483647), (20, [18, 2], [2], 6), (23, [2], [2], 1), (90, [18], [], -2147483648), (91, [18], [], 2147483647), (20, [17, 0], [2], 0), (0, [17], [], 23), (44, [12, 16], [], 0), (1008, [16, 13, 14, 15], [1, 2], 0), (90, [16], [], -2147483648), (91, [16], [], 2147483647), (20, [15, 2], [1], 5), (23, [2], [1], 1), (90, [15], [], -2147483648), (91, [15], [], 2147483647), (20, [14, 2], [1], 4), (23, [2], [1], 1), (90, [14], [], -2147483648), (91, [14], [], 2147483647), (20, [13, 0], [1], 0), (0, [13], [], 23), (1008, [12, 9, 10, 11], [0, 1], 0), (90, [12], [], -2147483648), (91, [12], [], 2147483647), (20, [11, 1], [0], 5), (23, [1], [0], 1), (90, [11], [], -2147483648), (91, [11], [], 2147483647), (20, [10, 1], [0], 4), (23, [1], [0], 1), (90, [10], [], -2147483648), (91, [10], [], 2147483647), (20, [9, 0], [0], 0), (0, [9], [], 23), (40, [7, 8], [], 0), (20, [8, 2], [0], 3), (23, [2], [0], 1), (90, [8], [], -2147483648), (91, [8], [], 2147483647), (20, [7, 1], [0], 3), (23, [1], [0], 1), (90, [7], [], -2147483648), (91, [7], [], 2147483647), (40, [5, 6], [], 0), (0, [6], [], 1), (20, [5, 2], [0], 0), (23, [2], [0], 1), (90, [5], [], -2147483648), (91, [5], [], 2147483647), (40, [3, 4], [], 0), (0, [4], [], 1), (20, [3, 1], [0], 0), (23, [1], [0], 1), (90, [3], [], -2147483648), (91, [3], [], 2147483647), (51, [2], [], 0), (51, [1], [], 0), (6000, [0, 1, 2], [0], 0), (0, [0], [], 281)], (3000, [21], [3], 100)),
  ([(0, [21], [], 1), (42, [12, 20], [], 0), (1008, [20, 17, 18, 19], [2, 3], 0), (90, [20], [], -2147483648), (91, [20], [], 2147483647), (20, [19, 2], [2], 7), (23, [2], [2], 1), (90, [19], [], -2147483648), (91, [19], [], 2147483647), (20, [18, 2], [2], 6), (23, [2], [2], 1), (90, [18], [], -2147483648), (91, [18], [], 2147483647), (20, [17, 0], [2], 0), (0, [17], [], 23), (44, [12, 16], [], 0), (1008, [16, 13, 14, 15], [1, 2], 0), (90, [16], [], -2147483648), (91, [16], [], 2147483647), (20, [15, 2], [1], 5), (23, [2], [1], 1), (90, [15], [], -2147483648), (91, [15], [], 2147483647), (20, [14, 2], [1], 4), (23, [2], [1], 1), (90, [14], [], -2147483648), (91, [14], [], 2147483647), (20, [13, 0], [1], 0), (0, [13], [], 23), (1008, [12, 9, 10, 11], [0, 1], 0), (90, [12], [], -2147483648), (91, [12], [], 2147483647), (20, [11, 1], [0], 5), (23, [1], [0], 1), (90, [11], [], -2147483648), (91, [11], [], 2147483647), (20, [10, 1], [0], 4), (23, [1], [0], 1), (90, [10], [], -2147483648), (91, [10], [], 2147483647), (20, [9, 0], [0], 0), (0, [9], [], 23), (40, [7, 8], [], 0), (20, [8, 2], [0], 3), (23, [2], [0], 1), (90, [8], [], -2147483648), (91, [8], [], 2147483647), (20, [7, 1], [0], 3), (23, [1], [0], 1), (90, [7], [], -2147483648), (91, [7], [], 2147483647), (40, [5, 6], [], 0), (0, [6], [], 1), (20, [5, 2], [0], 0), (23, [2], [0], 1), (90, [5], [], -2147483648), (91, [5], [], 2147483647), (40, [3, 4], [], 0), (0, [4], [], 1), (20, [3, 1], [0], 0), (23, [1], [0], 1), (90, [3], [], -2147483648), (91, [3], [], 2147483647), (51, [2], [], 0), (51, [1], [], 0), (6000, [0, 1, 2], [0], 0), (0, [0], [], 281)], (3000, [21], [3], 100)),
  ([(0, [9], [], 0), (41, [7, 8], [], 0), (20, [8, 2], [0], 3), (23, [2], [0], 1), (90, [8], [], -2147483648), (91, [8], [], 2147483647), (20, [7, 1], [0], 3), (23, [1], [0], 1), (90, [7], [], -2147483648), (91, [7], [], 2147483647), (40, [5, 6], [], 0), (0, [6], [], 1), (20, [5, 2], [0], 0), (23, [2], [0], 1), (90, [5], [], -2147483648), (91, [5], [], 2147483647), (40, [3, 4], [], 0), (0, [4], [], 1), (20, [3, 1], [0], 0), (23, [1], [0], 1), (90, [3], [], -2147483648), (91, [3], [], 2147483647), (51, [2], [], 0), (51, [1], [], 0), (6000, [0, 1, 2], [0], 0), (0, [0], [], 281)], (3000, [9], [0], 36))]
theorem r_146y_s : vCovO false (eR0 e_146y L_146y cs_146y 2000) p_146y_s = true := by decide +kernel
theorem m_146y (d : Nat) : eC e_146y (d + 3) := eC_ok (e := e_146y) (L := L_146y) (cs := cs_146y) (n := 2000) (d := d + 2) (A := A_146y) (μ := mu_146y) (tp := false) (p0 := p_146y_s) rfl ⟨m_8y d, trivial⟩ rfl (.inr pre0_ok) (by decide +kernel) (fun z => nomatch z) r_146y_s (allC c_146y_s_0 (allC c_146y_s_1 (allC c_146y_s_2 (allC c_146y_s_3 (allC c_146y_s_4 (allC c_146y_s_5 (allC c_146y_s_6 (allC c_146y_s_7 (allC c_146y_s_8 allN))))))))) allN
/- Tracer.quarrelOf (LMixStage$Sheet;I)I, more fully -/
def nb_145 (r a0 a1 a2 : Int) (h0 h : gH) : Prop := K25 h0 → 0 ≤ a2 → ∀ E : List CR, SHL h0 (a1).toNat E → 0 ≤ a1 → r = qAns (E.map (fdC (hV h0 25))) a2
def n_145 : List Int → gH → gH → Prop := fun xs h0 h => match xs with
  | [r, a0, a1, a2] => nb_145 r a0 a1 a2 h0 h
  | _ => True
noncomputable def e_145w : vE := eV e_145 n_145
noncomputable def L_145w : List vE := [e_115y, e_146y]
def Bb_145_5 (a0 a1 a2 x0 x1 x2 x3 x4 : Int) (h0 h : gH) : Prop := K25 h0 → 0 ≤ a2 → ∀ E : List CR, SHL h0 (a1).toNat E → 0 ≤ a1 → x1 = a1 ∧ QO (E.map (fdC (hV h0 25))) x4 x3 (qAns (E.map (fdC (hV h0 25))) a2)
def Bb_145_20 (a0 a1 a2 x0 x1 x2 x3 x4 x5 : Int) (h0 h : gH) : Prop := K25 h0 → 0 ≤ a2 → ∀ E : List CR, SHL h0 (a1).toNat E → 0 ≤ a1 → x1 = a1 ∧ QI (E.map (fdC (hV h0 25))) x4 x5 x3 (qAns (E.map (fdC (hV h0 25))) a2)
def B_145 : Int → List Int → gH → gH → Prop := fun c xs h0 h => match c.toNat with
  | 5 => (match xs with
    | [a0, a1, a2, x0, x1, x2, x3, x4] => Bb_145_5 a0 a1 a2 x0 x1 x2 x3 x4 h0 h
    | _ => False)
  | 20 => (match xs with
    | [a0, a1, a2, x0, x1, x2, x3, x4, x5] => Bb_145_20 a0 a1 a2 x0 x1 x2 x3 x4 x5 h0 h
    | _ => False)
  | _ => True
theorem q_145w_0 {n0 n1 n2 n3 : Int} {H0 : gH} (f0 : n0 ≤ 2147483647) (f1 : (-2147483648) ≤ n0) (f2 : 0 ≤ n1) (f3 : n2 = 281) (f4 : hWt T0 H0 ∧ True) (f5 : n3 = 0) : Bb_145_5 n2 n1 n0 n2 n1 n0 n0 n3 H0 H0 := by
  unfold Bb_145_5
  intro k25 p2 E z p1
  have c3 := f3
  have c5 := f5
  exact ⟨rfl, QO_0 p2 (by omega)⟩
def g_145w_s_0 : vG := ([(0, [3], [], 0), (6000, [0, 1, 2], [0], 0), (0, [0], [], 281), (51, [1], [], 0), (90, [2], [], -2147483648), (91, [2], [], 2147483647)], (4000, [0, 1, 2, 2, 3], [0], 5))
theorem c_145w_s_0 : vOkm T0 (eN e_145 L_145w A_145 mu_145 n_145 B_145 none) 3 g_145w_s_0 := vOk_inI fun ρ η f0 f1 f2 f3 f4 f5 => q_145w_0 (n0 := ρ 2) (n1 := ρ 1) (n2 := ρ 0) (n3 := ρ 3) (H0 := η 0) f5 f4 f3 f2 f1 f0
def p_145w_s : List vG := [g_145w_s_0]
theorem r_145w_s : vCovBO (eR0 e_145 L_145 cs_145 2000) p_145w_s = true := by decide +kernel
theorem q_145w_1 {q0 : Nat} {n0 n1 n2 n3 n4 n5 n6 n7 n8 n9 : Int} {H0 H1 : gH} (f0 : n0 ≤ 2147483647) (f1 : (-2147483648) ≤ n0) (f2 : n1 ≤ 2147483647) (f3 : (-2147483648) ≤ n1) (f4 : n2 ≤ 2147483647) (f5 : (-2147483648) ≤ n2) (f6 : 0 ≤ n3) (f7 : n4 = 281) (f8 : n5 ≤ 2147483647) (f9 : (-2147483648) ≤ n5) (f10 : 0 ≤ n6) (f11 : n7 = 281) (f12 : (hLe T0 H0 H1 ∧ hFr s_145.2.2.2.2 H0 H1 ∧ hWt T0 H1) ∧ ((True ∧ Bb_145_5 n7 n6 n5 n4 n3 n2 n1 n0 H0 H1) ∧ True) ∧ some q0 = some (mub_145_5 n7 n6 n5 n4 n3 n2 n1 n0 H0 H1)) (f13 : n8 ≤ 40) (f14 : 0 ≤ n8) (f15 : hK H1 (n3).toNat = 6) (f16 : n8 = hV H1 (n3).toNat 2) (f17 : n8 ≤ n0) (f18 : n9 = (-1)) : nb_145 n9 n7 n6 n5 H0 H1 := by
  unfold nb_145
  intro k25 p2 E z p1
  have c7 := f7
  have c11 := f11
  have c18 := f18
  have gb := f12.2.1.1.2
  unfold Bb_145_5 at gb
  obtain ⟨e1, qq⟩ := gb k25 p2 E z p1
  have z1 : SHL H1 (n6).toNat E := SHL_keep z (SHo_fr f12.1.1 f12.1.2.1 (by decide +kernel)) (RWo_fr f12.1.1 f12.1.2.1 (by decide +kernel)) (CUo_fr f12.1.1 f12.1.2.1 (by decide +kernel))
  have el := z1.2.2.2.1
  have ll : (E.map (fdC (hV H0 25))).length = E.length := List.length_map _
  have x8 : n8 = (E.length : Int) := by
    have w := f16
    rw [e1] at w
    rw [w]
    exact el
  have e40 := z1.2.2.2.2.1
  rw [QO_end qq (by omega)]
  omega
def g_145w_5_0 : vG := ([(0, [9], [], -1), (43, [7, 8], [], 0), (20, [8, 4], [1], 2), (23, [4], [1], 6), (90, [8], [], 0), (91, [8], [], 40), (5000, [0, 1, 2, 3, 4, 5, 6, 7], [0, 1], 5), (0, [0], [], 281), (51, [1], [], 0), (90, [2], [], -2147483648), (91, [2], [], 2147483647), (0, [3], [], 281), (51, [4], [], 0), (90, [5], [], -2147483648), (91, [5], [], 2147483647), (90, [6], [], -2147483648), (91, [6], [], 2147483647), (90, [7], [], -2147483648), (91, [7], [], 2147483647)], (3000, [9], [1], 77))
theorem c_145w_5_0 {q0 : Nat} : vOkm T0 (eN e_145 L_145w A_145 mu_145 n_145 B_145 (some q0)) 3 g_145w_5_0 := vOk_inI fun ρ η f0 f1 f2 f3 f4 f5 f6 f7 f8 f9 f10 f11 f12 f13 f14 f15 f16 f17 f18 => q_145w_1 (q0 := q0) (n0 := ρ 7) (n1 := ρ 6) (n2 := ρ 5) (n3 := ρ 4) (n4 := ρ 3) (n5 := ρ 2) (n6 := ρ 1) (n7 := ρ 0) (n8 := ρ 8) (n9 := ρ 9) (H0 := η 0) (H1 := η 1) f18 f17 f16 f15 f14 f13 f12 f11 f10 f9 f8 f7 f6 f5 f4 f3 f2 f1 f0
theorem q_145w_2 {q0 : Nat} {n0 n1 n2 n3 n4 n5 n6 n7 n8 n9 n10 : Int} {H0 H1 : gH} (f0 : n0 ≤ 2147483647) (f1 : (-2147483648) ≤ n0) (f2 : n1 ≤ 2147483647) (f3 : (-2147483648) ≤ n1) (f4 : n2 ≤ 2147483647) (f5 : (-2147483648) ≤ n2) (f6 : 0 ≤ n3) (f7 : n4 = 281) (f8 : n5 ≤ 2147483647) (f9 : (-2147483648) ≤ n5) (f10 : 0 ≤ n6) (f11 : n7 = 281) (f12 : (hLe T0 H0 H1 ∧ hFr s_145.2.2.2.2 H0 H1 ∧ hWt T0 H1) ∧ ((True ∧ Bb_145_5 n7 n6 n5 n4 n3 n2 n1 n0 H0 H1) ∧ True) ∧ some q0 = some (mub_145_5 n7 n6 n5 n4 n3 n2 n1 n0 H0 H1)) (f13 : n8 ≤ 40) (f14 : 0 ≤ n8) (f15 : hK H1 (n3).toNat = 6) (f16 : n8 = hV H1 (n3).toNat 2) (f17 : n0 < n8) (f18 : n9 = 1) (f19 : n10 = w32 (n0 + n9)) : Bb_145_20 n7 n6 n5 n4 n3 n2 n1 n0 n10 H0 H1 := by
  unfold Bb_145_20
  intro k25 p2 E z p1
  have c7 := f7
  have c11 := f11
  have c18 := f18
  have gb := f12.2.1.1.2
  unfold Bb_145_5 at gb
  obtain ⟨e1, qq⟩ := gb k25 p2 E z p1
  have z1 : SHL H1 (n6).toNat E := SHL_keep z (SHo_fr f12.1.1 f12.1.2.1 (by decide +kernel)) (RWo_fr f12.1.1 f12.1.2.1 (by decide +kernel)) (CUo_fr f12.1.1 f12.1.2.1 (by decide +kernel))
  have el := z1.2.2.2.1
  have ll : (E.map (fdC (hV H0 25))).length = E.length := List.length_map _
  have x8 : n8 = (E.length : Int) := by
    have w := f16
    rw [e1] at w
    rw [w]
    exact el
  have a19 := f19
  unfold w32 at a19
  have e40 := z1.2.2.2.2.1
  have q1 := qq.2.1
  exact ⟨e1, QO_in qq (by omega) (by omega)⟩
def g_145w_5_1 : vG := ([(1, [10, 7, 9], [], 0), (0, [9], [], 1), (42, [7, 8], [], 0), (20, [8, 4], [1], 2), (23, [4], [1], 6), (90, [8], [], 0), (91, [8], [], 40), (5000, [0, 1, 2, 3, 4, 5, 6, 7], [0, 1], 5), (0, [0], [], 281), (51, [1], [], 0), (90, [2], [], -2147483648), (91, [2], [], 2147483647), (0, [3], [], 281), (51, [4], [], 0), (90, [5], [], -2147483648), (91, [5], [], 2147483647), (90, [6], [], -2147483648), (91, [6], [], 2147483647), (90, [7], [], -2147483648), (91, [7], [], 2147483647)], (4000, [3, 4, 5, 6, 7, 10], [1], 20))
theorem c_145w_5_1 {q0 : Nat} : vOkm T0 (eN e_145 L_145w A_145 mu_145 n_145 B_145 (some q0)) 3 g_145w_5_1 := vOk_inI fun ρ η f0 f1 f2 f3 f4 f5 f6 f7 f8 f9 f10 f11 f12 f13 f14 f15 f16 f17 f18 f19 => q_145w_2 (q0 := q0) (n0 := ρ 7) (n1 := ρ 6) (n2 := ρ 5) (n3 := ρ 4) (n4 := ρ 3) (n5 := ρ 2) (n6 := ρ 1) (n7 := ρ 0) (n8 := ρ 8) (n9 := ρ 9) (n10 := ρ 10) (H0 := η 0) (H1 := η 1) f19 f18 f17 f16 f15 f14 f13 f12 f11 f10 f9 f8 f7 f6 f5 f4 f3 f2 f1 f0
def p_145w_5 : List vG := [g_145w_5_0,
  g_145w_5_1]
theorem r_145w_5 : vCovBO (eRc e_145 L_145 cs_145 2000 (5, [(0, (3, 9, 281, 0)), (1, (3, 6, -1, 0)), (2, (0, -2147483648, 2147483647, 0)), (3, (0, -2147483648, 2147483647, 0)), (4, (0, -2147483648, 2147483647, 0))])) p_145w_5 = true := by decide +kernel
theorem q_145w_3 {q0 : Nat} {n0 n1 n2 n3 n4 n5 n6 n7 n8 n9 n10 : Int} {H0 H1 : gH} (f0 : n0 ≤ 2147483647) (f1 : (-2147483648) ≤ n0) (f2 : n1 ≤ 2147483646) (f3 : (-2147483648) ≤ n1) (f4 : n2 ≤ 2147483647) (f5 : (-2147483648) ≤ n2) (f6 : n3 ≤ 2147483647) (f7 : (-2147483648) ≤ n3) (f8 : 0 ≤ n4) (f9 : n5 = 281) (f10 : n6 ≤ 2147483647) (f11 : (-2147483648) ≤ n6) (f12 : 0 ≤ n7) (f13 : n8 = 281) (f14 : (hLe T0 H0 H1 ∧ hFr s_145.2.2.2.2 H0 H1 ∧ hWt T0 H1) ∧ ((True ∧ Bb_145_20 n8 n7 n6 n5 n4 n3 n2 n1 n0 H0 H1) ∧ True) ∧ some q0 = some (mub_145_20 n8 n7 n6 n5 n4 n3 n2 n1 n0 H0 H1)) (f15 : n9 ≤ 40) (f16 : 0 ≤ n9) (f17 : hK H1 (n4).toNat = 6) (f18 : n9 = hV H1 (n4).toNat 2) (f19 : n9 ≤ n0) (f20 : n10 = w32 (n1 + 1)) : Bb_145_5 n8 n7 n6 n5 n4 n3 n2 n10 H0 H1 := by
  unfold Bb_145_5
  intro k25 p2 E z p1
  have c9 := f9
  have c13 := f13
  have gb := f14.2.1.1.2
  unfold Bb_145_20 at gb
  obtain ⟨e1, qq⟩ := gb k25 p2 E z p1
  have z1 : SHL H1 (n7).toNat E := SHL_keep z (SHo_fr f14.1.1 f14.1.2.1 (by decide +kernel)) (RWo_fr f14.1.1 f14.1.2.1 (by decide +kernel)) (CUo_fr f14.1.1 f14.1.2.1 (by decide +kernel))
  have el := z1.2.2.2.1
  have ll : (E.map (fdC (hV H0 25))).length = E.length := List.length_map _
  have x8 : n9 = (E.length : Int) := by
    have w := f18
    rw [e1] at w
    rw [w]
    exact el
  have a20 := f20
  unfold w32 at a20
  have e40 := z1.2.2.2.2.1
  have qc := qq
  obtain ⟨q1, q2, q3, q4, q5⟩ := qc
  exact ⟨e1, QI_end qq (by omega) (by omega)⟩
def g_145w_20_0 : vG := ([(10, [10, 7], [], 1), (43, [8, 9], [], 0), (20, [9, 4], [1], 2), (23, [4], [1], 6), (90, [9], [], 0), (91, [9], [], 40), (5000, [0, 1, 2, 3, 4, 5, 6, 7, 8], [0, 1], 20), (0, [0], [], 281), (51, [1], [], 0), (90, [2], [], -2147483648), (91, [2], [], 2147483647), (0, [3], [], 281), (51, [4], [], 0), (90, [5], [], -2147483648), (91, [5], [], 2147483647), (90, [6], [], -2147483648), (91, [6], [], 2147483647), (90, [7], [], -2147483648), (91, [7], [], 2147483646), (90, [8], [], -2147483648), (91, [8], [], 2147483647)], (4000, [3, 4, 5, 6, 10], [1], 5))
theorem c_145w_20_0 {q0 : Nat} : vOkm T0 (eN e_145 L_145w A_145 mu_145 n_145 B_145 (some q0)) 3 g_145w_20_0 := vOk_inI fun ρ η f0 f1 f2 f3 f4 f5 f6 f7 f8 f9 f10 f11 f12 f13 f14 f15 f16 f17 f18 f19 f20 => q_145w_3 (q0 := q0) (n0 := ρ 8) (n1 := ρ 7) (n2 := ρ 6) (n3 := ρ 5) (n4 := ρ 4) (n5 := ρ 3) (n6 := ρ 2) (n7 := ρ 1) (n8 := ρ 0) (n9 := ρ 9) (n10 := ρ 10) (H0 := η 0) (H1 := η 1) f20 f19 f18 f17 f16 f15 f14 f13 f12 f11 f10 f9 f8 f7 f6 f5 f4 f3 f2 f1 f0
theorem q_145w_4 {q0 : Nat} {n0 n1 n2 n3 n4 n5 n6 n7 n8 n9 n10 n11 n12 n13 : Int} {H0 H1 H2 H3 H4 : gH} (f0 : n0 ≤ 2147483647) (f1 : (-2147483648) ≤ n0) (f2 : n1 ≤ 2147483646) (f3 : (-2147483648) ≤ n1) (f4 : n2 ≤ 2147483647) (f5 : (-2147483648) ≤ n2) (f6 : n3 ≤ 2147483647) (f7 : (-2147483648) ≤ n3) (f8 : 0 ≤ n4) (f9 : n5 = 281) (f10 : n6 ≤ 2147483647) (f11 : (-2147483648) ≤ n6) (f12 : 0 ≤ n7) (f13 : n8 = 281) (f14 : (hLe T0 H0 H1 ∧ hFr s_145.2.2.2.2 H0 H1 ∧ hWt T0 H1) ∧ ((True ∧ Bb_145_20 n8 n7 n6 n5 n4 n3 n2 n1 n0 H0 H1) ∧ True) ∧ some q0 = some (mub_145_20 n8 n7 n6 n5 n4 n3 n2 n1 n0 H0 H1)) (f15 : n9 ≤ 40) (f16 : 0 ≤ n9) (f17 : hK H1 (n4).toNat = 6) (f18 : n9 = hV H1 (n4).toNat 2) (f19 : n0 < n9) (f20 : (hLe T0 H1 H2 ∧ hFr s_115.2.2.2.2 H1 H2 ∧ ((0 : Int) = 0 → H2.length = H1.length) ∧ hWt T0 H2) ∧ postb_115y n10 n4 n1 H1 H2) (f21 : (hLe T0 H2 H3 ∧ hFr s_115.2.2.2.2 H2 H3 ∧ ((0 : Int) = 0 → H3.length = H2.length) ∧ hWt T0 H3) ∧ postb_115y n11 n4 n0 H2 H3) (f22 : n12 ≤ 1) (f23 : 0 ≤ n12) (f24 : (hLe T0 H3 H4 ∧ hFr s_146.2.2.2.2 H3 H4 ∧ ((0 : Int) = 0 → H4.length = H3.length) ∧ hWt T0 H4) ∧ postb_146y n12 n5 n10 n11 H3 H4) (f25 : n12 = 0) (f26 : n13 = w32 (n0 + 1)) : Bb_145_20 n8 n7 n6 n5 n4 n3 n2 n1 n13 H0 H4 := by
  unfold Bb_145_20
  intro k25 p2 E z p1
  have c9 := f9
  have c13 := f13
  have gb := f14.2.1.1.2
  unfold Bb_145_20 at gb
  obtain ⟨e1, qq⟩ := gb k25 p2 E z p1
  have z1 : SHL H1 (n7).toNat E := SHL_keep z (SHo_fr f14.1.1 f14.1.2.1 (by decide +kernel)) (RWo_fr f14.1.1 f14.1.2.1 (by decide +kernel)) (CUo_fr f14.1.1 f14.1.2.1 (by decide +kernel))
  have el := z1.2.2.2.1
  have ll : (E.map (fdC (hV H0 25))).length = E.length := List.length_map _
  have x8 : n9 = (E.length : Int) := by
    have w := f18
    rw [e1] at w
    rw [w]
    exact el
  have a26 := f26
  unfold w32 at a26
  have e40 := z1.2.2.2.2.1
  have qc := qq
  obtain ⟨q1, q2, q3, q4, q5⟩ := qc
  obtain ⟨p0_, hp0⟩ : ∃ p, E[(n1).toNat]? = some p := ⟨_, List.getElem?_eq_getElem (by omega)⟩
  obtain ⟨y01, y02, y03⟩ := z1.2.2.2.2.2.2 _ p0_ hp0
  have zw0 := z1
  have v0 := f20.2
  unfold postb_115y at v0
  rw [e1] at v0
  have u0 := v0.1 (by omega) (by rw [zw0.2.2.2.1]; omega) (by omega)
  rw [zw0.2.1, show (((n7).toNat : Nat) : Int) + 1 = (((n7).toNat + 1 : Nat) : Int) by omega, Int.toNat_natCast] at u0
  rw [← u0] at y01 y02 y03
  have cu0 := (CUo_tr (CUo_fr (c := -1) f20.1.1 f20.1.2.1 (by decide +kernel)) (CUo_fr (c := -1) f21.1.1 f21.1.2.1 (by decide +kernel))) _ y02
  have r0 : recC H3 (n10).toNat = p0_ := (recC_eq (cu0.2 (by omega))).trans y03
  obtain ⟨p1_, hp1⟩ : ∃ p, E[(n0).toNat]? = some p := ⟨_, List.getElem?_eq_getElem (by omega)⟩
  obtain ⟨y11, y12, y13⟩ := z1.2.2.2.2.2.2 _ p1_ hp1
  have zw1 := (SHL_keep z1 (SHo_fr f20.1.1 f20.1.2.1 (by decide +kernel)) (RWo_fr f20.1.1 f20.1.2.1 (by decide +kernel)) (CUo_fr f20.1.1 f20.1.2.1 (by decide +kernel)))
  have v1 := f21.2
  unfold postb_115y at v1
  rw [e1] at v1
  have u1 := v1.1 (by omega) (by rw [zw1.2.2.2.1]; omega) (by omega)
  rw [zw1.2.1, show (((n7).toNat : Nat) : Int) + 1 = (((n7).toNat + 1 : Nat) : Int) by omega, Int.toNat_natCast] at u1
  have u1 : n11 = hV H1 ((n7).toNat + 1) (n0).toNat := u1.trans (f20.1.2.1.2.2 _ 106 z1.2.2.1 rfl _ (cNoK_ok (by decide +kernel) _))
  rw [← u1] at y11 y12 y13
  have cu1 := (CUo_tr (CUo_fr (c := -1) f20.1.1 f20.1.2.1 (by decide +kernel)) (CUo_fr (c := -1) f21.1.1 f21.1.2.1 (by decide +kernel))) _ y12
  have r1 : recC H3 (n11).toNat = p1_ := (recC_eq (cu1.2 (by omega))).trans y13
  have dd := f24.2
  unfold postb_146y at dd
  have dd := dd (K25_le f21.1.1 (K25_le f20.1.1 (K25_le f14.1.1 k25))) cu0.1 cu1.1 (by omega) (by omega)
  rw [show hV H3 25 = hV H0 25 from (fRow f21.1.2.1 25 (by decide +kernel)).trans ((fRow f20.1.2.1 25 (by decide +kernel)).trans (fRow f14.1.2.1 25 (by decide +kernel))), r0, r1] at dd
  have g0 := qg_map (f := fdC (hV H0 25)) hp0
  have g1 := qg_map (f := fdC (hV H0 25)) hp1
  rw [← g0, ← g1] at dd
  have no := (dd.resolve_left (fun w => by have := w.1; omega)).2
  exact ⟨e1, QI_no qq (by omega) no (by omega)⟩
def g_145w_20_1 : vG := ([(10, [13, 8], [], 1), (30, [12], [], 0), (1146, [12, 3, 10, 11], [3, 4], 0), (90, [12], [], 0), (91, [12], [], 1), (1115, [11, 4, 8], [2, 3], 0), (1115, [10, 4, 7], [1, 2], 0), (42, [8, 9], [], 0), (20, [9, 4], [1], 2), (23, [4], [1], 6), (90, [9], [], 0), (91, [9], [], 40), (5000, [0, 1, 2, 3, 4, 5, 6, 7, 8], [0, 1], 20), (0, [0], [], 281), (51, [1], [], 0), (90, [2], [], -2147483648), (91, [2], [], 2147483647), (0, [3], [], 281), (51, [4], [], 0), (90, [5], [], -2147483648), (91, [5], [], 2147483647), (90, [6], [], -2147483648), (91, [6], [], 2147483647), (90, [7], [], -2147483648), (91, [7], [], 2147483646), (90, [8], [], -2147483648), (91, [8], [], 2147483647)], (4000, [3, 4, 5, 6, 7, 13], [4], 20))
theorem c_145w_20_1 {q0 : Nat} : vOkm T0 (eN e_145 L_145w A_145 mu_145 n_145 B_145 (some q0)) 3 g_145w_20_1 := vOk_inI fun ρ η f0 f1 f2 f3 f4 f5 f6 f7 f8 f9 f10 f11 f12 f13 f14 f15 f16 f17 f18 f19 f20 f21 f22 f23 f24 f25 f26 => q_145w_4 (q0 := q0) (n0 := ρ 8) (n1 := ρ 7) (n2 := ρ 6) (n3 := ρ 5) (n4 := ρ 4) (n5 := ρ 3) (n6 := ρ 2) (n7 := ρ 1) (n8 := ρ 0) (n9 := ρ 9) (n10 := ρ 10) (n11 := ρ 11) (n12 := ρ 12) (n13 := ρ 13) (H0 := η 0) (H1 := η 1) (H2 := η 2) (H3 := η 3) (H4 := η 4) f26 f25 f24 f23 f22 f21 f20 f19 f18 f17 f16 f15 f14 f13 f12 f11 f10 f9 f8 f7 f6 f5 f4 f3 f2 f1 f0
theorem q_145w_5 {q0 : Nat} {n0 n1 n2 n3 n4 n5 n6 n7 n8 n9 n10 n11 n12 n13 n14 : Int} {H0 H1 H2 H3 H4 : gH} (f0 : n0 ≤ 2147483647) (f1 : (-2147483648) ≤ n0) (f2 : n1 ≤ 2147483646) (f3 : (-2147483648) ≤ n1) (f4 : n2 ≤ 2147483647) (f5 : (-2147483648) ≤ n2) (f6 : n3 ≤ 2147483647) (f7 : (-2147483648) ≤ n3) (f8 : 0 ≤ n4) (f9 : n5 = 281) (f10 : n6 ≤ 2147483647) (f11 : (-2147483648) ≤ n6) (f12 : 0 ≤ n7) (f13 : n8 = 281) (f14 : (hLe T0 H0 H1 ∧ hFr s_145.2.2.2.2 H0 H1 ∧ hWt T0 H1) ∧ ((True ∧ Bb_145_20 n8 n7 n6 n5 n4 n3 n2 n1 n0 H0 H1) ∧ True) ∧ some q0 = some (mub_145_20 n8 n7 n6 n5 n4 n3 n2 n1 n0 H0 H1)) (f15 : n9 ≤ 40) (f16 : 0 ≤ n9) (f17 : hK H1 (n4).toNat = 6) (f18 : n9 = hV H1 (n4).toNat 2) (f19 : n0 < n9) (f20 : (hLe T0 H1 H2 ∧ hFr s_115.2.2.2.2 H1 H2 ∧ ((0 : Int) = 0 → H2.length = H1.length) ∧ hWt T0 H2) ∧ postb_115y n10 n4 n1 H1 H2) (f21 : (hLe T0 H2 H3 ∧ hFr s_115.2.2.2.2 H2 H3 ∧ ((0 : Int) = 0 → H3.length = H2.length) ∧ hWt T0 H3) ∧ postb_115y n11 n4 n0 H2 H3) (f22 : n12 ≤ 1) (f23 : 0 ≤ n12) (f24 : (hLe T0 H3 H4 ∧ hFr s_146.2.2.2.2 H3 H4 ∧ ((0 : Int) = 0 → H4.length = H3.length) ∧ hWt T0 H4) ∧ postb_146y n12 n5 n10 n11 H3 H4) (f25 : n12 ≠ 0) (f26 : n2 ≠ 0) (f27 : n13 = w32 (n2 + (-1))) (f28 : n14 = w32 (n0 + 1)) : Bb_145_20 n8 n7 n6 n5 n4 n3 n13 n1 n14 H0 H4 := by
  unfold Bb_145_20
  intro k25 p2 E z p1
  have c9 := f9
  have c13 := f13
  have gb := f14.2.1.1.2
  unfold Bb_145_20 at gb
  obtain ⟨e1, qq⟩ := gb k25 p2 E z p1
  have z1 : SHL H1 (n7).toNat E := SHL_keep z (SHo_fr f14.1.1 f14.1.2.1 (by decide +kernel)) (RWo_fr f14.1.1 f14.1.2.1 (by decide +kernel)) (CUo_fr f14.1.1 f14.1.2.1 (by decide +kernel))
  have el := z1.2.2.2.1
  have ll : (E.map (fdC (hV H0 25))).length = E.length := List.length_map _
  have x8 : n9 = (E.length : Int) := by
    have w := f18
    rw [e1] at w
    rw [w]
    exact el
  have a27 := f27
  unfold w32 at a27
  have a28 := f28
  unfold w32 at a28
  have e40 := z1.2.2.2.2.1
  have qc := qq
  obtain ⟨q1, q2, q3, q4, q5⟩ := qc
  obtain ⟨p0_, hp0⟩ : ∃ p, E[(n1).toNat]? = some p := ⟨_, List.getElem?_eq_getElem (by omega)⟩
  obtain ⟨y01, y02, y03⟩ := z1.2.2.2.2.2.2 _ p0_ hp0
  have zw0 := z1
  have v0 := f20.2
  unfold postb_115y at v0
  rw [e1] at v0
  have u0 := v0.1 (by omega) (by rw [zw0.2.2.2.1]; omega) (by omega)
  rw [zw0.2.1, show (((n7).toNat : Nat) : Int) + 1 = (((n7).toNat + 1 : Nat) : Int) by omega, Int.toNat_natCast] at u0
  rw [← u0] at y01 y02 y03
  have cu0 := (CUo_tr (CUo_fr (c := -1) f20.1.1 f20.1.2.1 (by decide +kernel)) (CUo_fr (c := -1) f21.1.1 f21.1.2.1 (by decide +kernel))) _ y02
  have r0 : recC H3 (n10).toNat = p0_ := (recC_eq (cu0.2 (by omega))).trans y03
  obtain ⟨p1_, hp1⟩ : ∃ p, E[(n0).toNat]? = some p := ⟨_, List.getElem?_eq_getElem (by omega)⟩
  obtain ⟨y11, y12, y13⟩ := z1.2.2.2.2.2.2 _ p1_ hp1
  have zw1 := (SHL_keep z1 (SHo_fr f20.1.1 f20.1.2.1 (by decide +kernel)) (RWo_fr f20.1.1 f20.1.2.1 (by decide +kernel)) (CUo_fr f20.1.1 f20.1.2.1 (by decide +kernel)))
  have v1 := f21.2
  unfold postb_115y at v1
  rw [e1] at v1
  have u1 := v1.1 (by omega) (by rw [zw1.2.2.2.1]; omega) (by omega)
  rw [zw1.2.1, show (((n7).toNat : Nat) : Int) + 1 = (((n7).toNat + 1 : Nat) : Int) by omega, Int.toNat_natCast] at u1
  have u1 : n11 = hV H1 ((n7).toNat + 1) (n0).toNat := u1.trans (f20.1.2.1.2.2 _ 106 z1.2.2.1 rfl _ (cNoK_ok (by decide +kernel) _))
  rw [← u1] at y11 y12 y13
  have cu1 := (CUo_tr (CUo_fr (c := -1) f20.1.1 f20.1.2.1 (by decide +kernel)) (CUo_fr (c := -1) f21.1.1 f21.1.2.1 (by decide +kernel))) _ y12
  have r1 : recC H3 (n11).toNat = p1_ := (recC_eq (cu1.2 (by omega))).trans y13
  have dd := f24.2
  unfold postb_146y at dd
  have dd := dd (K25_le f21.1.1 (K25_le f20.1.1 (K25_le f14.1.1 k25))) cu0.1 cu1.1 (by omega) (by omega)
  rw [show hV H3 25 = hV H0 25 from (fRow f21.1.2.1 25 (by decide +kernel)).trans ((fRow f20.1.2.1 25 (by decide +kernel)).trans (fRow f14.1.2.1 25 (by decide +kernel))), r0, r1] at dd
  have g0 := qg_map (f := fdC (hV H0 25)) hp0
  have g1 := qg_map (f := fdC (hV H0 25)) hp1
  rw [← g0, ← g1] at dd
  have yes := (dd.resolve_right (fun w => by have := w.1; omega)).2
  exact ⟨e1, QI_hit qq (by omega) yes (by omega) (by omega) (by omega)⟩
def g_145w_20_2 : vG := ([(10, [14, 8], [], 1), (10, [13, 6], [], -1), (31, [6], [], 0), (31, [12], [], 0), (1146, [12, 3, 10, 11], [3, 4], 0), (90, [12], [], 0), (91, [12], [], 1), (1115, [11, 4, 8], [2, 3], 0), (1115, [10, 4, 7], [1, 2], 0), (42, [8, 9], [], 0), (20, [9, 4], [1], 2), (23, [4], [1], 6), (90, [9], [], 0), (91, [9], [], 40), (5000, [0, 1, 2, 3, 4, 5, 6, 7, 8], [0, 1], 20), (0, [0], [], 281), (51, [1], [], 0), (90, [2], [], -2147483648), (91, [2], [], 2147483647), (0, [3], [], 281), (51, [4], [], 0), (90, [5], [], -2147483648), (91, [5], [], 2147483647), (90, [6], [], -2147483648), (91, [6], [], 2147483647), (90, [7], [], -2147483648), (91, [7], [], 2147483646), (90, [8], [], -2147483648), (91, [8], [], 2147483647)], (4000, [3, 4, 5, 13, 7, 14], [4], 20))
theorem c_145w_20_2 {q0 : Nat} : vOkm T0 (eN e_145 L_145w A_145 mu_145 n_145 B_145 (some q0)) 3 g_145w_20_2 := vOk_inI fun ρ η f0 f1 f2 f3 f4 f5 f6 f7 f8 f9 f10 f11 f12 f13 f14 f15 f16 f17 f18 f19 f20 f21 f22 f23 f24 f25 f26 f27 f28 => q_145w_5 (q0 := q0) (n0 := ρ 8) (n1 := ρ 7) (n2 := ρ 6) (n3 := ρ 5) (n4 := ρ 4) (n5 := ρ 3) (n6 := ρ 2) (n7 := ρ 1) (n8 := ρ 0) (n9 := ρ 9) (n10 := ρ 10) (n11 := ρ 11) (n12 := ρ 12) (n13 := ρ 13) (n14 := ρ 14) (H0 := η 0) (H1 := η 1) (H2 := η 2) (H3 := η 3) (H4 := η 4) f28 f27 f26 f25 f24 f23 f22 f21 f20 f19 f18 f17 f16 f15 f14 f13 f12 f11 f10 f9 f8 f7 f6 f5 f4 f3 f2 f1 f0
theorem q_145w_6 {q0 : Nat} {n0 n1 n2 n3 n4 n5 n6 n7 n8 n9 n10 n11 n12 n13 n14 n15 : Int} {H0 H1 H2 H3 H4 : gH} (f0 : n0 ≤ 2147483647) (f1 : (-2147483648) ≤ n0) (f2 : n1 ≤ 2147483646) (f3 : (-2147483648) ≤ n1) (f4 : n2 ≤ 2147483647) (f5 : (-2147483648) ≤ n2) (f6 : n3 ≤ 2147483647) (f7 : (-2147483648) ≤ n3) (f8 : 0 ≤ n4) (f9 : n5 = 281) (f10 : n6 ≤ 2147483647) (f11 : (-2147483648) ≤ n6) (f12 : 0 ≤ n7) (f13 : n8 = 281) (f14 : (hLe T0 H0 H1 ∧ hFr s_145.2.2.2.2 H0 H1 ∧ hWt T0 H1) ∧ ((True ∧ Bb_145_20 n8 n7 n6 n5 n4 n3 n2 n1 n0 H0 H1) ∧ True) ∧ some q0 = some (mub_145_20 n8 n7 n6 n5 n4 n3 n2 n1 n0 H0 H1)) (f15 : n9 ≤ 40) (f16 : 0 ≤ n9) (f17 : hK H1 (n4).toNat = 6) (f18 : n9 = hV H1 (n4).toNat 2) (f19 : n0 < n9) (f20 : (hLe T0 H1 H2 ∧ hFr s_115.2.2.2.2 H1 H2 ∧ ((0 : Int) = 0 → H2.length = H1.length) ∧ hWt T0 H2) ∧ postb_115y n10 n4 n1 H1 H2) (f21 : (hLe T0 H2 H3 ∧ hFr s_115.2.2.2.2 H2 H3 ∧ ((0 : Int) = 0 → H3.length = H2.length) ∧ hWt T0 H3) ∧ postb_115y n11 n4 n0 H2 H3) (f22 : n12 ≤ 1) (f23 : 0 ≤ n12) (f24 : (hLe T0 H3 H4 ∧ hFr s_146.2.2.2.2 H3 H4 ∧ ((0 : Int) = 0 → H4.length = H3.length) ∧ hWt T0 H4) ∧ postb_146y n12 n5 n10 n11 H3 H4) (f25 : n12 ≠ 0) (f26 : n2 = 0) (f27 : n13 = 64) (f28 : n14 = w32 (n13 * n1)) (f29 : n15 = w32 (n14 + n0)) : nb_145 n15 n8 n7 n6 H0 H4 := by
  unfold nb_145
  intro k25 p2 E z p1
  have c9 := f9
  have c13 := f13
  have c27 := f27
  have gb := f14.2.1.1.2
  unfold Bb_145_20 at gb
  obtain ⟨e1, qq⟩ := gb k25 p2 E z p1
  have z1 : SHL H1 (n7).toNat E := SHL_keep z (SHo_fr f14.1.1 f14.1.2.1 (by decide +kernel)) (RWo_fr f14.1.1 f14.1.2.1 (by decide +kernel)) (CUo_fr f14.1.1 f14.1.2.1 (by decide +kernel))
  have el := z1.2.2.2.1
  have ll : (E.map (fdC (hV H0 25))).length = E.length := List.length_map _
  have x8 : n9 = (E.length : Int) := by
    have w := f18
    rw [e1] at w
    rw [w]
    exact el
  have a28 := f28
  unfold w32 at a28
  rw [f27] at a28
  have a29 := f29
  unfold w32 at a29
  have e40 := z1.2.2.2.2.1
  have qc := qq
  obtain ⟨q1, q2, q3, q4, q5⟩ := qc
  obtain ⟨p0_, hp0⟩ : ∃ p, E[(n1).toNat]? = some p := ⟨_, List.getElem?_eq_getElem (by omega)⟩
  obtain ⟨y01, y02, y03⟩ := z1.2.2.2.2.2.2 _ p0_ hp0
  have zw0 := z1
  have v0 := f20.2
  unfold postb_115y at v0
  rw [e1] at v0
  have u0 := v0.1 (by omega) (by rw [zw0.2.2.2.1]; omega) (by omega)
  rw [zw0.2.1, show (((n7).toNat : Nat) : Int) + 1 = (((n7).toNat + 1 : Nat) : Int) by omega, Int.toNat_natCast] at u0
  rw [← u0] at y01 y02 y03
  have cu0 := (CUo_tr (CUo_fr (c := -1) f20.1.1 f20.1.2.1 (by decide +kernel)) (CUo_fr (c := -1) f21.1.1 f21.1.2.1 (by decide +kernel))) _ y02
  have r0 : recC H3 (n10).toNat = p0_ := (recC_eq (cu0.2 (by omega))).trans y03
  obtain ⟨p1_, hp1⟩ : ∃ p, E[(n0).toNat]? = some p := ⟨_, List.getElem?_eq_getElem (by omega)⟩
  obtain ⟨y11, y12, y13⟩ := z1.2.2.2.2.2.2 _ p1_ hp1
  have zw1 := (SHL_keep z1 (SHo_fr f20.1.1 f20.1.2.1 (by decide +kernel)) (RWo_fr f20.1.1 f20.1.2.1 (by decide +kernel)) (CUo_fr f20.1.1 f20.1.2.1 (by decide +kernel)))
  have v1 := f21.2
  unfold postb_115y at v1
  rw [e1] at v1
  have u1 := v1.1 (by omega) (by rw [zw1.2.2.2.1]; omega) (by omega)
  rw [zw1.2.1, show (((n7).toNat : Nat) : Int) + 1 = (((n7).toNat + 1 : Nat) : Int) by omega, Int.toNat_natCast] at u1
  have u1 : n11 = hV H1 ((n7).toNat + 1) (n0).toNat := u1.trans (f20.1.2.1.2.2 _ 106 z1.2.2.1 rfl _ (cNoK_ok (by decide +kernel) _))
  rw [← u1] at y11 y12 y13
  have cu1 := (CUo_tr (CUo_fr (c := -1) f20.1.1 f20.1.2.1 (by decide +kernel)) (CUo_fr (c := -1) f21.1.1 f21.1.2.1 (by decide +kernel))) _ y12
  have r1 : recC H3 (n11).toNat = p1_ := (recC_eq (cu1.2 (by omega))).trans y13
  have dd := f24.2
  unfold postb_146y at dd
  have dd := dd (K25_le f21.1.1 (K25_le f20.1.1 (K25_le f14.1.1 k25))) cu0.1 cu1.1 (by omega) (by omega)
  rw [show hV H3 25 = hV H0 25 from (fRow f21.1.2.1 25 (by decide +kernel)).trans ((fRow f20.1.2.1 25 (by decide +kernel)).trans (fRow f14.1.2.1 25 (by decide +kernel))), r0, r1] at dd
  have g0 := qg_map (f := fdC (hV H0 25)) hp0
  have g1 := qg_map (f := fdC (hV H0 25)) hp1
  rw [← g0, ← g1] at dd
  have yes := (dd.resolve_right (fun w => by have := w.1; omega)).2
  have fi := QI_fin qq (by omega) yes (by omega)
  rw [fi]
  omega
def g_145w_20_3 : vG := ([(1, [15, 14, 8], [], 0), (3, [14, 13, 7], [], 0), (0, [13], [], 64), (30, [6], [], 0), (31, [12], [], 0), (1146, [12, 3, 10, 11], [3, 4], 0), (90, [12], [], 0), (91, [12], [], 1), (1115, [11, 4, 8], [2, 3], 0), (1115, [10, 4, 7], [1, 2], 0), (42, [8, 9], [], 0), (20, [9, 4], [1], 2), (23, [4], [1], 6), (90, [9], [], 0), (91, [9], [], 40), (5000, [0, 1, 2, 3, 4, 5, 6, 7, 8], [0, 1], 20), (0, [0], [], 281), (51, [1], [], 0), (90, [2], [], -2147483648), (91, [2], [], 2147483647), (0, [3], [], 281), (51, [4], [], 0), (90, [5], [], -2147483648), (91, [5], [], 2147483647), (90, [6], [], -2147483648), (91, [6], [], 2147483647), (90, [7], [], -2147483648), (91, [7], [], 2147483646), (90, [8], [], -2147483648), (91, [8], [], 2147483647)], (3000, [15], [4], 60))
theorem c_145w_20_3 {q0 : Nat} : vOkm T0 (eN e_145 L_145w A_145 mu_145 n_145 B_145 (some q0)) 3 g_145w_20_3 := vOk_inI fun ρ η f0 f1 f2 f3 f4 f5 f6 f7 f8 f9 f10 f11 f12 f13 f14 f15 f16 f17 f18 f19 f20 f21 f22 f23 f24 f25 f26 f27 f28 f29 => q_145w_6 (q0 := q0) (n0 := ρ 8) (n1 := ρ 7) (n2 := ρ 6) (n3 := ρ 5) (n4 := ρ 4) (n5 := ρ 3) (n6 := ρ 2) (n7 := ρ 1) (n8 := ρ 0) (n9 := ρ 9) (n10 := ρ 10) (n11 := ρ 11) (n12 := ρ 12) (n13 := ρ 13) (n14 := ρ 14) (n15 := ρ 15) (H0 := η 0) (H1 := η 1) (H2 := η 2) (H3 := η 3) (H4 := η 4) f29 f28 f27 f26 f25 f24 f23 f22 f21 f20 f19 f18 f17 f16 f15 f14 f13 f12 f11 f10 f9 f8 f7 f6 f5 f4 f3 f2 f1 f0
def p_145w_20 : List vG := [g_145w_20_0,
  g_145w_20_1,
  g_145w_20_2,
  g_145w_20_3]
theorem r_145w_20 : vCovBO (eRc e_145 L_145 cs_145 2000 (20, [(0, (3, 9, 281, 0)), (1, (3, 6, -1, 0)), (2, (0, -2147483648, 2147483647, 0)), (3, (0, -2147483648, 2147483647, 0)), (4, (0, -2147483648, 2147483646, 0)), (5, (0, -2147483648, 2147483647, 0))])) p_145w_20 = true := by decide +kernel
theorem m_145w (d : Nat) : eC e_145w (d + 4) := eC_ref (e := e_145) (L := L_145) (L' := L_145w) (cs := cs_145) (n := 2000) (d := d + 3) (A := A_145) (μ := mu_145) (tp := true) (p0 := p_145_s) (p1 := p_145w_s) (N := n_145) (B := B_145) rfl ⟨m_115y (d + 2), ⟨m_146y d, trivial⟩⟩ rfl (.inr pre0_ok) (by decide +kernel) (fun _ => post0_ok) r_145_s (allC c_145_s_0 allN) (allC (.inl ⟨p_145_5, r_145_5, fun q0 => (allC c_145_5_0 (allC c_145_5_1 allN))⟩) (allC (.inl ⟨p_145_20, r_145_20, fun q0 => (allC c_145_20_0 (allC c_145_20_1 (allC c_145_20_2 allN)))⟩) allN)) ⟨⟨rfl, rfl, rfl, fun _ _ _ _ => trivial⟩, ⟨⟨rfl, rfl, rfl, fun _ _ _ _ => trivial⟩, trivial⟩⟩ r_145w_s (allC c_145w_s_0 allN) (allC ⟨p_145w_5, r_145w_5, fun q0 => (allC c_145w_5_0 (allC c_145w_5_1 allN))⟩ (allC ⟨p_145w_20, r_145w_20, fun q0 => (allC c_145w_20_0 (allC c_145w_20_1 (allC c_145w_20_2 (allC c_145w_20_3 allN))))⟩ allN))
/- MixStage.quarrel (II)I, more fully -/
def nb_184 (r a0 a1 a2 : Int) (h0 h : gH) : Prop := K79 h0 → K25 h0 → (¬ ((0 ≤ a1 ∧ a1 < hV h0 7 4) ∧ 0 ≤ a2) → r = -1) ∧ (0 ≤ a1 → a1 < hV h0 7 4 → 0 ≤ a2 → ∀ E : List CR, 0 ≤ hV h0 9 (a1).toNat → SHL h0 (hV h0 9 (a1).toNat).toNat E → r = qAns (E.map (fdC (hV h0 25))) a2)
def n_184 : List Int → gH → gH → Prop := fun xs h0 h => match xs with
  | [r, a0, a1, a2] => nb_184 r a0 a1 a2 h0 h
  | _ => True
noncomputable def e_184w : vE := eV e_184 n_184
noncomputable def L_184w : List vE := [e_145w, e_194y]
def B_184 : Int → List Int → gH → gH → Prop := fun c xs h0 h => True
theorem q_184w_0 {n0 n1 n2 n3 n4 : Int} {H0 H1 : gH} (f0 : n0 ≤ 2147483647) (f1 : (-2147483648) ≤ n0) (f2 : n1 ≤ 2147483647) (f3 : (-2147483648) ≤ n1) (f4 : n2 = 7) (f5 : hWt T0 H0 ∧ True) (f6 : (hLe T0 H0 H1 ∧ hFr s_194.2.2.2.2 H0 H1 ∧ ((0 : Int) = 0 → H1.length = H0.length) ∧ hWt T0 H1) ∧ postb_194y n3 n2 n1 H0 H1) (f7 : n3 = -1) (f8 : n4 = (-1)) : nb_184 n4 n2 n1 n0 H0 H1 := by
  unfold nb_184
  intro k79 k25
  have q := f6.2
  unfold postb_194y at q
  obtain ⟨q1, q2⟩ := q k79
  have c4 := f4
  have c8 := f8
  refine ⟨fun w => ?_, fun p1 p2 p3 E p4 z => ?_⟩
  · omega
  · have e := q1 p1 p2
    exfalso
    omega
def g_184w_s_0 : vG := ([(0, [4], [], -1), (50, [3], [], 0), (1194, [3, 0, 1], [0, 1], 0), (6000, [0, 1, 2], [0], 0), (0, [0], [], 7), (90, [1], [], -2147483648), (91, [1], [], 2147483647), (90, [2], [], -2147483648), (91, [2], [], 2147483647)], (3000, [4], [1], 27))
theorem c_184w_s_0 : vOkm T0 (eN e_184 L_184w A_184 mu_184 n_184 B_184 none) 3 g_184w_s_0 := vOk_inI fun ρ η f0 f1 f2 f3 f4 f5 f6 f7 f8 => q_184w_0 (n0 := ρ 2) (n1 := ρ 1) (n2 := ρ 0) (n3 := ρ 3) (n4 := ρ 4) (H0 := η 0) (H1 := η 1) f8 f7 f6 f5 f4 f3 f2 f1 f0
theorem q_184w_1 {n0 n1 n2 n3 n4 n5 : Int} {H0 H1 H2 : gH} (f0 : n0 ≤ 2147483647) (f1 : (-2147483648) ≤ n0) (f2 : n1 ≤ 2147483647) (f3 : (-2147483648) ≤ n1) (f4 : n2 = 7) (f5 : hWt T0 H0 ∧ True) (f6 : (hLe T0 H0 H1 ∧ hFr s_194.2.2.2.2 H0 H1 ∧ ((0 : Int) = 0 → H1.length = H0.length) ∧ hWt T0 H1) ∧ postb_194y n3 n2 n1 H0 H1) (f7 : 0 ≤ n3) (f8 : 0 ≤ n0) (f9 : n4 = 281) (f10 : hK H1 (n2).toNat = 11) (f11 : n4 = hV H1 (n2).toNat 10) (f12 : n5 ≤ 2147483647) (f13 : (-2147483648) ≤ n5) (f14 : (hLe T0 H1 H2 ∧ hFr s_145.2.2.2.2 H1 H2 ∧ ((0 : Int) = 0 → H2.length = H1.length) ∧ hWt T0 H2) ∧ (True ∧ nb_145 n5 n4 n3 n0 H1 H2)) : nb_184 n5 n2 n1 n0 H0 H2 := by
  unfold nb_184
  intro k79 k25
  have q := f6.2
  unfold postb_194y at q
  obtain ⟨q1, q2⟩ := q k79
  have c4 := f4
  have c9 := f9
  refine ⟨fun w => ?_, fun p1 p2 p3 E p4 z => ?_⟩
  · exfalso
    have e := q2 (fun v => w ⟨v, by omega⟩)
    omega
  have e := q1 p1 p2
  have z1 : SHL H1 (n3).toNat E := by
    rw [e]
    exact SHL_keep z (SHo_fr f6.1.1 f6.1.2.1 (by decide +kernel)) (RWo_fr f6.1.1 f6.1.2.1 (by decide +kernel)) (CUo_fr f6.1.1 f6.1.2.1 (by decide +kernel))
  have qa := f14.2.2
  unfold nb_145 at qa
  have qa := qa (K25_le f6.1.1 k25) p3 E z1 (by omega)
  rw [show hV H1 25 = hV H0 25 from fRow f6.1.2.1 25 (by decide +kernel)] at qa
  exact qa
def g_184w_s_1 : vG := ([(1145, [5, 4, 3, 2], [1, 2], 0), (90, [5], [], -2147483648), (91, [5], [], 2147483647), (20, [4, 0], [1], 10), (23, [0], [1], 11), (0, [4], [], 281), (33, [2], [], 0), (51, [3], [], 0), (1194, [3, 0, 1], [0, 1], 0), (6000, [0, 1, 2], [0], 0), (0, [0], [], 7), (90, [1], [], -2147483648), (91, [1], [], 2147483647), (90, [2], [], -2147483648), (91, [2], [], 2147483647)], (3000, [5], [2], 27))
theorem c_184w_s_1 : vOkm T0 (eN e_184 L_184w A_184 mu_184 n_184 B_184 none) 3 g_184w_s_1 := vOk_inI fun ρ η f0 f1 f2 f3 f4 f5 f6 f7 f8 f9 f10 f11 f12 f13 f14 => q_184w_1 (n0 := ρ 2) (n1 := ρ 1) (n2 := ρ 0) (n3 := ρ 3) (n4 := ρ 4) (n5 := ρ 5) (H0 := η 0) (H1 := η 1) (H2 := η 2) f14 f13 f12 f11 f10 f9 f8 f7 f6 f5 f4 f3 f2 f1 f0
theorem q_184w_2 {n0 n1 n2 n3 n4 : Int} {H0 H1 : gH} (f0 : n0 ≤ 2147483647) (f1 : (-2147483648) ≤ n0) (f2 : n1 ≤ 2147483647) (f3 : (-2147483648) ≤ n1) (f4 : n2 = 7) (f5 : hWt T0 H0 ∧ True) (f6 : (hLe T0 H0 H1 ∧ hFr s_194.2.2.2.2 H0 H1 ∧ ((0 : Int) = 0 → H1.length = H0.length) ∧ hWt T0 H1) ∧ postb_194y n3 n2 n1 H0 H1) (f7 : 0 ≤ n3) (f8 : n0 < 0) (f9 : n4 = (-1)) : nb_184 n4 n2 n1 n0 H0 H1 := by
  unfold nb_184
  intro k79 k25
  have q := f6.2
  unfold postb_194y at q
  obtain ⟨q1, q2⟩ := q k79
  have c4 := f4
  have c9 := f9
  refine ⟨fun w => ?_, fun p1 p2 p3 E p4 z => ?_⟩
  · omega
  · have e := q1 p1 p2
    exfalso
    omega
def g_184w_s_2 : vG := ([(0, [4], [], -1), (32, [2], [], 0), (51, [3], [], 0), (1194, [3, 0, 1], [0, 1], 0), (6000, [0, 1, 2], [0], 0), (0, [0], [], 7), (90, [1], [], -2147483648), (91, [1], [], 2147483647), (90, [2], [], -2147483648), (91, [2], [], 2147483647)], (3000, [4], [1], 27))
theorem c_184w_s_2 : vOkm T0 (eN e_184 L_184w A_184 mu_184 n_184 B_184 none) 3 g_184w_s_2 := vOk_inI fun ρ η f0 f1 f2 f3 f4 f5 f6 f7 f8 f9 => q_184w_2 (n0 := ρ 2) (n1 := ρ 1) (n2 := ρ 0) (n3 := ρ 3) (n4 := ρ 4) (H0 := η 0) (H1 := η 1) f9 f8 f7 f6 f5 f4 f3 f2 f1 f0
def p_184w_s : List vG := [g_184w_s_0,
  g_184w_s_1,
  g_184w_s_2]
theorem r_184w_s : vCovBO (eR0 e_184 L_184 cs_184 2000) p_184w_s = true := by decide +kernel
theorem m_184w (d : Nat) : eC e_184w (d + 5) := eC_ref (e := e_184) (L := L_184) (L' := L_184w) (cs := cs_184) (n := 2000) (d := d + 4) (A := A_184) (μ := mu_184) (tp := true) (p0 := p_184_s) (p1 := p_184w_s) (N := n_184) (B := B_184) rfl ⟨m_145w d, ⟨m_194y (d + 3), trivial⟩⟩ rfl (.inr pre0_ok) (by decide +kernel) (fun _ => post0_ok) r_184_s allN allN (sub1 ⟨⟨rfl, rfl, rfl, fun _ _ _ _ => trivial⟩, trivial⟩) r_184w_s (allC c_184w_s_0 (allC c_184w_s_1 (allC c_184w_s_2 allN))) allN
