/-! CONTRACTS of methods told more fully. -/
/- MixStageModel.adds (IIIII)I -/
noncomputable def s_252v : vM := ([(3, 12, 285, 0), (0, 0, 6, 0), (0, -1, 240, 0), (0, -2147483648, 2147483647, 0), (0, -2147483648, 2147483647, 0), (0, -1, 19, 0)], (0, -2147483648, 2147483647, 0), 1, 0, [(12, 64), (12, 65), (452, 0), (460, 0), (468, 0), (476, 0), (484, 0), (492, 0), (500, 0), (508, 0), (516, 0), (532, 0)])
def preb_252v (a0 a1 a2 a3 a4 a5 : Int) (h : gH) : Prop := hV h 285 64 ≤ 19 ∧ (a1 = 4 → 0 ≤ a5 ∧ a5 < hV h 285 64 ∧ 0 ≤ a3 ∧ a3 < a4 ∧ a4 ≤ 240) ∧ (a1 = 5 → 0 ≤ a5 ∧ a5 < hV h 285 64) ∧ (a1 = 1 → 0 ≤ a3 ∧ a3 < a4 ∧ a4 ≤ 240) ∧ hV h 285 65 ≤ 20000 ∧ SO h ∧ SS h ∧ AC h
def pre_252v : List Int → gH → Prop := fun xs h => match xs with
  | [a0, a1, a2, a3, a4, a5] => preb_252v a0 a1 a2 a3 a4 a5 h
  | _ => False
def postb_252v (r a0 a1 a2 a3 a4 a5 : Int) (h0 h : gH) : Prop := SO h ∧ SS h ∧ AC h ∧ hV h 285 64 = hV h0 285 64 + 1 ∧ hV h 285 65 = hV h0 285 65 + 1 ∧ r = hV h0 285 64 ∧ (hV h 328) = uF (hV h0 328) (hV h0 285 64) a1 ∧ (hV h 338) = uF (hV h0 338) (hV h0 285 64) 0 ∧ (hV h 329) = uF (hV h0 329) (hV h0 285 64) a2
def post_252v : List Int → gH → gH → Prop := fun xs h0 h => match xs with
  | [r, a0, a1, a2, a3, a4, a5] => postb_252v r a0 a1 a2 a3 a4 a5 h0 h
  | _ => True
noncomputable def e_252v : vE := (252, s_252v, pre_252v, post_252v)
noncomputable def L_252v : List vE := []
def cs_252v : List vC := []
def A_252v : Int → List Int → gH → gH → Prop := fun c xs h0 h => True
def mu_252v : Int → List Int → gH → gH → Nat := fun c xs h0 h => 0
theorem q_252v_0 {n0 n1 n2 n3 n4 n5 n6 : Int} {H0 : gH} (f0 : n0 ≤ 19) (f1 : (-1) ≤ n0) (f2 : n1 ≤ 2147483647) (f3 : (-2147483648) ≤ n1) (f4 : n2 ≤ 2147483647) (f5 : (-2147483648) ≤ n2) (f6 : n3 ≤ 240) (f7 : (-1) ≤ n3) (f8 : n4 ≤ 6) (f9 : 0 ≤ n4) (f10 : n5 = 285) (f11 : hWt T0 H0 ∧ preb_252v n5 n4 n3 n2 n1 n0 H0) (f12 : n6 ≤ 20) (f13 : 0 ≤ n6) (f14 : n6 = hV H0 (n5).toNat 64) : 0 ≤ n6 ∧ n6 < 20 := by
  unfold preb_252v at f11
  have e0 : n6 = hV H0 285 64 := (by rw [f10] at f14; exact f14 : n6 = hV H0 285 64)
  have e1 : (0 : Int) ≤ hV H0 285 64 ∧ hV H0 285 64 ≤ 20 := f11.1 285 64 _ _ (by decide +kernel)
  have e2 : (0 : Int) ≤ hV H0 285 65 ∧ hV H0 285 65 ≤ 2147483647 := f11.1 285 65 _ _ (by decide +kernel)
  have p0 := f11.2.1
  have p1 := f11.2.2.1
  have p2 := f11.2.2.2.1
  have p3 := f11.2.2.2.2.1
  have p4 := f11.2.2.2.2.2.1
  have p5 := f11.2.2.2.2.2.2.1
  have p6 := f11.2.2.2.2.2.2.2.1
  have p7 := f11.2.2.2.2.2.2.2.2
  clear f14
  subst e0
  omega
def g_252v_s_0 : vG := ([(20, [7, 0], [0], 64), (90, [7], [], 0), (91, [7], [], 20), (6000, [0, 1, 2, 3, 4, 5], [0], 0), (0, [0], [], 285), (90, [1], [], 0), (91, [1], [], 6), (90, [2], [], -1), (91, [2], [], 240), (90, [3], [], -2147483648), (91, [3], [], 2147483647), (90, [4], [], -2147483648), (91, [4], [], 2147483647), (90, [5], [], -1), (91, [5], [], 19)], (70, [7], [], 20))
theorem c_252v_s_0 : vOkm T0 (eP e_252v L_252v A_252v mu_252v none) 6 g_252v_s_0 := vOk_in fun ρ η h => by
  obtain ⟨f0, f1, f2, f3, f4, f5, f6, f7, f8, f9, f10, f11, f12, f13, f14, _⟩ := h
  exact q_252v_0 (n0 := ρ 5) (n1 := ρ 4) (n2 := ρ 3) (n3 := ρ 2) (n4 := ρ 1) (n5 := ρ 0) (n6 := ρ 7) (H0 := η 0) f14 f13 f12 f11 f10 f9 f8 f7 f6 f5 f4 f3 f2 f1 f0
theorem q_252v_1 {n0 n1 n2 n3 n4 n5 n6 n7 n8 : Int} {H0 H1 : gH} (f0 : n0 ≤ 19) (f1 : (-1) ≤ n0) (f2 : n1 ≤ 2147483647) (f3 : (-2147483648) ≤ n1) (f4 : n2 ≤ 2147483647) (f5 : (-2147483648) ≤ n2) (f6 : n3 ≤ 240) (f7 : (-1) ≤ n3) (f8 : n4 ≤ 6) (f9 : 0 ≤ n4) (f10 : n5 = 285) (f11 : hWt T0 H0 ∧ preb_252v n5 n4 n3 n2 n1 n0 H0) (f12 : n6 = 328) (f13 : n6 = hV H0 (n5).toNat 66) (f14 : n7 ≤ 20) (f15 : 0 ≤ n7) (f16 : n7 = hV H0 (n5).toNat 64) (f17 : hUpd H1 H0 n6 n7 n4) (f18 : n8 ≤ 20) (f19 : 0 ≤ n8) (f20 : n8 = hV H1 (n5).toNat 64) : 0 ≤ n8 ∧ n8 < 20 := by
  unfold preb_252v at f11
  have e0 : n7 = hV H0 285 64 := (by rw [f10] at f16; exact f16 : n7 = hV H0 285 64)
  have e1 : hV H1 285 64 = hV H0 285 64 := uPlace f17 _ _ (iS (show n6 = ((328 : Nat) : Int) from f12) rfl)
  have e2 : n8 = hV H0 285 64 := (by rw [f10] at f20; exact f20 : n8 = hV H1 285 64).trans (e1)
  have e3 : (0 : Int) ≤ hV H0 285 64 ∧ hV H0 285 64 ≤ 20 := f11.1 285 64 _ _ (by decide +kernel)
  have e4 : (0 : Int) ≤ hV H0 285 65 ∧ hV H0 285 65 ≤ 2147483647 := f11.1 285 65 _ _ (by decide +kernel)
  have p0 := f11.2.1
  have p1 := f11.2.2.1
  have p2 := f11.2.2.2.1
  have p3 := f11.2.2.2.2.1
  have p4 := f11.2.2.2.2.2.1
  have p5 := f11.2.2.2.2.2.2.1
  have p6 := f11.2.2.2.2.2.2.2.1
  have p7 := f11.2.2.2.2.2.2.2.2
  clear f13 f16 f20 e1
  subst e0
  subst e2
  omega
def g_252v_s_1 : vG := ([(20, [9, 0], [1], 64), (90, [9], [], 0), (91, [9], [], 20), (80, [6, 7, 1], [1, 0], 0), (20, [7, 0], [0], 64), (90, [7], [], 0), (91, [7], [], 20), (20, [6, 0], [0], 66), (0, [6], [], 328), (6000, [0, 1, 2, 3, 4, 5], [0], 0), (0, [0], [], 285), (90, [1], [], 0), (91, [1], [], 6), (90, [2], [], -1), (91, [2], [], 240), (90, [3], [], -2147483648), (91, [3], [], 2147483647), (90, [4], [], -2147483648), (91, [4], [], 2147483647), (90, [5], [], -1), (91, [5], [], 19)], (70, [9], [], 20))
theorem c_252v_s_1 : vOkm T0 (eP e_252v L_252v A_252v mu_252v none) 6 g_252v_s_1 := vOk_in fun ρ η h => by
  obtain ⟨f0, f1, f2, f3, f4, f5, f6, f7, f8, f9, f10, f11, f12, f13, f14, f15, f16, f17, f18, f19, f20, _⟩ := h
  exact q_252v_1 (n0 := ρ 5) (n1 := ρ 4) (n2 := ρ 3) (n3 := ρ 2) (n4 := ρ 1) (n5 := ρ 0) (n6 := ρ 6) (n7 := ρ 7) (n8 := ρ 9) (H0 := η 0) (H1 := η 1) f20 f19 f18 f17 f16 f15 f14 f13 f12 f11 f10 f9 f8 f7 f6 f5 f4 f3 f2 f1 f0
theorem q_252v_2 {n0 n1 n2 n3 n4 n5 n6 n7 n8 n9 n10 : Int} {H0 H1 H2 : gH} (f0 : n0 ≤ 19) (f1 : (-1) ≤ n0) (f2 : n1 ≤ 2147483647) (f3 : (-2147483648) ≤ n1) (f4 : n2 ≤ 2147483647) (f5 : (-2147483648) ≤ n2) (f6 : n3 ≤ 240) (f7 : (-1) ≤ n3) (f8 : n4 ≤ 6) (f9 : 0 ≤ n4) (f10 : n5 = 285) (f11 : hWt T0 H0 ∧ preb_252v n5 n4 n3 n2 n1 n0 H0) (f12 : n6 = 328) (f13 : n6 = hV H0 (n5).toNat 66) (f14 : n7 ≤ 20) (f15 : 0 ≤ n7) (f16 : n7 = hV H0 (n5).toNat 64) (f17 : hUpd H1 H0 n6 n7 n4) (f18 : n8 = 329) (f19 : n8 = hV H1 (n5).toNat 67) (f20 : n9 ≤ 20) (f21 : 0 ≤ n9) (f22 : n9 = hV H1 (n5).toNat 64) (f23 : hUpd H2 H1 n8 n9 n3) (f24 : n10 ≤ 20) (f25 : 0 ≤ n10) (f26 : n10 = hV H2 (n5).toNat 64) : 0 ≤ n10 ∧ n10 < 20 := by
  unfold preb_252v at f11
  have e0 : n7 = hV H0 285 64 := (by rw [f10] at f16; exact f16 : n7 = hV H0 285 64)
  have e1 : hV H1 285 64 = hV H0 285 64 := uPlace f17 _ _ (iS (show n6 = ((328 : Nat) : Int) from f12) rfl)
  have e2 : n9 = hV H0 285 64 := (by rw [f10] at f22; exact f22 : n9 = hV H1 285 64).trans (e1)
  have e3 : hV H2 285 64 = hV H1 285 64 := uPlace f23 _ _ (iS (show n8 = ((329 : Nat) : Int) from f18) rfl)
  have e4 : n10 = hV H0 285 64 := (by rw [f10] at f26; exact f26 : n10 = hV H2 285 64).trans ((e3).trans e1)
  have e5 : (0 : Int) ≤ hV H0 285 64 ∧ hV H0 285 64 ≤ 20 := f11.1 285 64 _ _ (by decide +kernel)
  have e6 : (0 : Int) ≤ hV H0 285 65 ∧ hV H0 285 65 ≤ 2147483647 := f11.1 285 65 _ _ (by decide +kernel)
  have p0 := f11.2.1
  have p1 := f11.2.2.1
  have p2 := f11.2.2.2.1
  have p3 := f11.2.2.2.2.1
  have p4 := f11.2.2.2.2.2.1
  have p5 := f11.2.2.2.2.2.2.1
  have p6 := f11.2.2.2.2.2.2.2.1
  have p7 := f11.2.2.2.2.2.2.2.2
  clear f13 f16 f19 f22 f26 e1 e3
  subst e0
  subst e2
  subst e4
  omega
def g_252v_s_2 : vG := ([(20, [11, 0], [2], 64), (90, [11], [], 0), (91, [11], [], 20), (80, [8, 9, 2], [2, 1], 0), (20, [9, 0], [1], 64), (90, [9], [], 0), (91, [9], [], 20), (20, [8, 0], [1], 67), (0, [8], [], 329), (80, [6, 7, 1], [1, 0], 0), (20, [7, 0], [0], 64), (90, [7], [], 0), (91, [7], [], 20), (20, [6, 0], [0], 66), (0, [6], [], 328), (6000, [0, 1, 2, 3, 4, 5], [0], 0), (0, [0], [], 285), (90, [1], [], 0), (91, [1], [], 6), (90, [2], [], -1), (91, [2], [], 240), (90, [3], [], -2147483648), (91, [3], [], 2147483647), (90, [4], [], -2147483648), (91, [4], [], 2147483647), (90, [5], [], -1), (91, [5], [], 19)], (70, [11], [], 20))
theorem c_252v_s_2 : vOkm T0 (eP e_252v L_252v A_252v mu_252v none) 6 g_252v_s_2 := vOk_in fun ρ η h => by
  obtain ⟨f0, f1, f2, f3, f4, f5, f6, f7, f8, f9, f10, f11, f12, f13, f14, f15, f16, f17, f18, f19, f20, f21, f22, f23, f24, f25, f26, _⟩ := h
  exact q_252v_2 (n0 := ρ 5) (n1 := ρ 4) (n2 := ρ 3) (n3 := ρ 2) (n4 := ρ 1) (n5 := ρ 0) (n6 := ρ 6) (n7 := ρ 7) (n8 := ρ 8) (n9 := ρ 9) (n10 := ρ 11) (H0 := η 0) (H1 := η 1) (H2 := η 2) f26 f25 f24 f23 f22 f21 f20 f19 f18 f17 f16 f15 f14 f13 f12 f11 f10 f9 f8 f7 f6 f5 f4 f3 f2 f1 f0
theorem q_252v_3 {n0 n1 n2 n3 n4 n5 n6 n7 n8 n9 n10 n11 n12 : Int} {H0 H1 H2 H3 : gH} (f0 : n0 ≤ 19) (f1 : (-1) ≤ n0) (f2 : n1 ≤ 2147483647) (f3 : (-2147483648) ≤ n1) (f4 : n2 ≤ 2147483647) (f5 : (-2147483648) ≤ n2) (f6 : n3 ≤ 240) (f7 : (-1) ≤ n3) (f8 : n4 ≤ 6) (f9 : 0 ≤ n4) (f10 : n5 = 285) (f11 : hWt T0 H0 ∧ preb_252v n5 n4 n3 n2 n1 n0 H0) (f12 : n6 = 328) (f13 : n6 = hV H0 (n5).toNat 66) (f14 : n7 ≤ 20) (f15 : 0 ≤ n7) (f16 : n7 = hV H0 (n5).toNat 64) (f17 : hUpd H1 H0 n6 n7 n4) (f18 : n8 = 329) (f19 : n8 = hV H1 (n5).toNat 67) (f20 : n9 ≤ 20) (f21 : 0 ≤ n9) (f22 : n9 = hV H1 (n5).toNat 64) (f23 : hUpd H2 H1 n8 n9 n3) (f24 : n10 = 330) (f25 : n10 = hV H2 (n5).toNat 68) (f26 : n11 ≤ 20) (f27 : 0 ≤ n11) (f28 : n11 = hV H2 (n5).toNat 64) (f29 : hUpd H3 H2 n10 n11 n2) (f30 : n12 ≤ 20) (f31 : 0 ≤ n12) (f32 : n12 = hV H3 (n5).toNat 64) : 0 ≤ n12 ∧ n12 < 20 := by
  unfold preb_252v at f11
  have e0 : n7 = hV H0 285 64 := (by rw [f10] at f16; exact f16 : n7 = hV H0 285 64)
  have e1 : hV H1 285 64 = hV H0 285 64 := uPlace f17 _ _ (iS (show n6 = ((328 : Nat) : Int) from f12) rfl)
  have e2 : n9 = hV H0 285 64 := (by rw [f10] at f22; exact f22 : n9 = hV H1 285 64).trans (e1)
  have e3 : hV H2 285 64 = hV H1 285 64 := uPlace f23 _ _ (iS (show n8 = ((329 : Nat) : Int) from f18) rfl)
  have e4 : n11 = hV H0 285 64 := (by rw [f10] at f28; exact f28 : n11 = hV H2 285 64).trans ((e3).trans e1)
  have e5 : hV H3 285 64 = hV H2 285 64 := uPlace f29 _ _ (iS (show n10 = ((330 : Nat) : Int) from f24) rfl)
  have e6 : n12 = hV H0 285 64 := (by rw [f10] at f32; exact f32 : n12 = hV H3 285 64).trans ((e5).trans ((e3).trans e1))
  have e7 : (0 : Int) ≤ hV H0 285 64 ∧ hV H0 285 64 ≤ 20 := f11.1 285 64 _ _ (by decide +kernel)
  have e8 : (0 : Int) ≤ hV H0 285 65 ∧ hV H0 285 65 ≤ 2147483647 := f11.1 285 65 _ _ (by decide +kernel)
  have p0 := f11.2.1
  have p1 := f11.2.2.1
  have p2 := f11.2.2.2.1
  have p3 := f11.2.2.2.2.1
  have p4 := f11.2.2.2.2.2.1
  have p5 := f11.2.2.2.2.2.2.1
  have p6 := f11.2.2.2.2.2.2.2.1
  have p7 := f11.2.2.2.2.2.2.2.2
  clear f13 f16 f19 f22 f25 f28 f32 e1 e3 e5
  subst e0
  subst e2
  subst e4
  subst e6
  omega
def g_252v_s_3 : vG := ([(20, [13, 0], [3], 64), (90, [13], [], 0), (91, [13], [], 20), (80, [10, 11, 3], [3, 2], 0), (20, [11, 0], [2], 64), (90, [11], [], 0), (91, [11], [], 20), (20, [10, 0], [2], 68), (0, [10], [], 330), (80, [8, 9, 2], [2, 1], 0), (20, [9, 0], [1], 64), (90, [9], [], 0), (91, [9], [], 20), (20, [8, 0], [1], 67), (0, [8], [], 329), (80, [6, 7, 1], [1, 0], 0), (20, [7, 0], [0], 64), (90, [7], [], 0), (91, [7], [], 20), (20, [6, 0], [0], 66), (0, [6], [], 328), (6000, [0, 1, 2, 3, 4, 5], [0], 0), (0, [0], [], 285), (90, [1], [], 0), (91, [1], [], 6), (90, [2], [], -1), (91, [2], [], 240), (90, [3], [], -2147483648), (91, [3], [], 2147483647), (90, [4], [], -2147483648), (91, [4], [], 2147483647), (90, [5], [], -1), (91, [5], [], 19)], (70, [13], [], 20))
theorem c_252v_s_3 : vOkm T0 (eP e_252v L_252v A_252v mu_252v none) 6 g_252v_s_3 := vOk_in fun ρ η h => by
  obtain ⟨f0, f1, f2, f3, f4, f5, f6, f7, f8, f9, f10, f11, f12, f13, f14, f15, f16, f17, f18, f19, f20, f21, f22, f23, f24, f25, f26, f27, f28, f29, f30, f31, f32, _⟩ := h
  exact q_252v_3 (n0 := ρ 5) (n1 := ρ 4) (n2 := ρ 3) (n3 := ρ 2) (n4 := ρ 1) (n5 := ρ 0) (n6 := ρ 6) (n7 := ρ 7) (n8 := ρ 8) (n9 := ρ 9) (n10 := ρ 10) (n11 := ρ 11) (n12 := ρ 13) (H0 := η 0) (H1 := η 1) (H2 := η 2) (H3 := η 3) f32 f31 f30 f29 f28 f27 f26 f25 f24 f23 f22 f21 f20 f19 f18 f17 f16 f15 f14 f13 f12 f11 f10 f9 f8 f7 f6 f5 f4 f3 f2 f1 f0
theorem q_252v_4 {n0 n1 n2 n3 n4 n5 n6 n7 n8 n9 n10 n11 n12 n13 n14 : Int} {H0 H1 H2 H3 H4 : gH} (f0 : n0 ≤ 19) (f1 : (-1) ≤ n0) (f2 : n1 ≤ 2147483647) (f3 : (-2147483648) ≤ n1) (f4 : n2 ≤ 2147483647) (f5 : (-2147483648) ≤ n2) (f6 : n3 ≤ 240) (f7 : (-1) ≤ n3) (f8 : n4 ≤ 6) (f9 : 0 ≤ n4) (f10 : n5 = 285) (f11 : hWt T0 H0 ∧ preb_252v n5 n4 n3 n2 n1 n0 H0) (f12 : n6 = 328) (f13 : n6 = hV H0 (n5).toNat 66) (f14 : n7 ≤ 20) (f15 : 0 ≤ n7) (f16 : n7 = hV H0 (n5).toNat 64) (f17 : hUpd H1 H0 n6 n7 n4) (f18 : n8 = 329) (f19 : n8 = hV H1 (n5).toNat 67) (f20 : n9 ≤ 20) (f21 : 0 ≤ n9) (f22 : n9 = hV H1 (n5).toNat 64) (f23 : hUpd H2 H1 n8 n9 n3) (f24 : n10 = 330) (f25 : n10 = hV H2 (n5).toNat 68) (f26 : n11 ≤ 20) (f27 : 0 ≤ n11) (f28 : n11 = hV H2 (n5).toNat 64) (f29 : hUpd H3 H2 n10 n11 n2) (f30 : n12 = 331) (f31 : n12 = hV H3 (n5).toNat 69) (f32 : n13 ≤ 20) (f33 : 0 ≤ n13) (f34 : n13 = hV H3 (n5).toNat 64) (f35 : hUpd H4 H3 n12 n13 n1) (f36 : n14 ≤ 20) (f37 : 0 ≤ n14) (f38 : n14 = hV H4 (n5).toNat 64) : 0 ≤ n14 ∧ n14 < 20 := by
  unfold preb_252v at f11
  have e0 : n7 = hV H0 285 64 := (by rw [f10] at f16; exact f16 : n7 = hV H0 285 64)
  have e1 : hV H1 285 64 = hV H0 285 64 := uPlace f17 _ _ (iS (show n6 = ((328 : Nat) : Int) from f12) rfl)
  have e2 : n9 = hV H0 285 64 := (by rw [f10] at f22; exact f22 : n9 = hV H1 285 64).trans (e1)
  have e3 : hV H2 285 64 = hV H1 285 64 := uPlace f23 _ _ (iS (show n8 = ((329 : Nat) : Int) from f18) rfl)
  have e4 : n11 = hV H0 285 64 := (by rw [f10] at f28; exact f28 : n11 = hV H2 285 64).trans ((e3).trans e1)
  have e5 : hV H3 285 64 = hV H2 285 64 := uPlace f29 _ _ (iS (show n10 = ((330 : Nat) : Int) from f24) rfl)
  have e6 : n13 = hV H0 285 64 := (by rw [f10] at f34; exact f34 : n13 = hV H3 285 64).trans ((e5).trans ((e3).trans e1))
  have e7 : hV H4 285 64 = hV H3 285 64 := uPlace f35 _ _ (iS (show n12 = ((331 : Nat) : Int) from f30) rfl)
  have e8 : n14 = hV H0 285 64 := (by rw [f10] at f38; exact f38 : n14 = hV H4 285 64).trans ((e7).trans ((e5).trans ((e3).trans e1)))
  have e9 : (0 : Int) ≤ hV H0 285 64 ∧ hV H0 285 64 ≤ 20 := f11.1 285 64 _ _ (by decide +kernel)
  have e10 : (0 : Int) ≤ hV H0 285 65 ∧ hV H0 285 65 ≤ 2147483647 := f11.1 285 65 _ _ (by decide +kernel)
  have p0 := f11.2.1
  have p1 := f11.2.2.1
  have p2 := f11.2.2.2.1
  have p3 := f11.2.2.2.2.1
  have p4 := f11.2.2.2.2.2.1
  have p5 := f11.2.2.2.2.2.2.1
  have p6 := f11.2.2.2.2.2.2.2.1
  have p7 := f11.2.2.2.2.2.2.2.2
  clear f13 f16 f19 f22 f25 f28 f31 f34 f38 e1 e3 e5 e7
  subst e0
  subst e2
  subst e4
  subst e6
  subst e8
  omega
def g_252v_s_4 : vG := ([(20, [15, 0], [4], 64), (90, [15], [], 0), (91, [15], [], 20), (80, [12, 13, 4], [4, 3], 0), (20, [13, 0], [3], 64), (90, [13], [], 0), (91, [13], [], 20), (20, [12, 0], [3], 69), (0, [12], [], 331), (80, [10, 11, 3], [3, 2], 0), (20, [11, 0], [2], 64), (90, [11], [], 0), (91, [11], [], 20), (20, [10, 0], [2], 68), (0, [10], [], 330), (80, [8, 9, 2], [2, 1], 0), (20, [9, 0], [1], 64), (90, [9], [], 0), (91, [9], [], 20), (20, [8, 0], [1], 67), (0, [8], [], 329), (80, [6, 7, 1], [1, 0], 0), (20, [7, 0], [0], 64), (90, [7], [], 0), (91, [7], [], 20), (20, [6, 0], [0], 66), (0, [6], [], 328), (6000, [0, 1, 2, 3, 4, 5], [0], 0), (0, [0], [], 285), (90, [1], [], 0), (91, [1], [], 6), (90, [2], [], -1), (91, [2], [], 240), (90, [3], [], -2147483648), (91, [3], [], 2147483647), (90, [4], [], -2147483648), (91, [4], [], 2147483647), (90, [5], [], -1), (91, [5], [], 19)], (70, [15], [], 20))
theorem c_252v_s_4 : vOkm T0 (eP e_252v L_252v A_252v mu_252v none) 6 g_252v_s_4 := vOk_in fun ρ η h => by
  obtain ⟨f0, f1, f2, f3, f4, f5, f6, f7, f8, f9, f10, f11, f12, f13, f14, f15, f16, f17, f18, f19, f20, f21, f22, f23, f24, f25, f26, f27, f28, f29, f30, f31, f32, f33, f34, f35, f36, f37, f38, _⟩ := h
  exact q_252v_4 (n0 := ρ 5) (n1 := ρ 4) (n2 := ρ 3) (n3 := ρ 2) (n4 := ρ 1) (n5 := ρ 0) (n6 := ρ 6) (n7 := ρ 7) (n8 := ρ 8) (n9 := ρ 9) (n10 := ρ 10) (n11 := ρ 11) (n12 := ρ 12) (n13 := ρ 13) (n14 := ρ 15) (H0 := η 0) (H1 := η 1) (H2 := η 2) (H3 := η 3) (H4 := η 4) f38 f37 f36 f35 f34 f33 f32 f31 f30 f29 f28 f27 f26 f25 f24 f23 f22 f21 f20 f19 f18 f17 f16 f15 f14 f13 f12 f11 f10 f9 f8 f7 f6 f5 f4 f3 f2 f1 f0
theorem q_252v_5 {n0 n1 n2 n3 n4 n5 n6 n7 n8 n9 n10 n11 n12 n13 n14 n15 n16 : Int} {H0 H1 H2 H3 H4 H5 : gH} (f0 : n0 ≤ 19) (f1 : (-1) ≤ n0) (f2 : n1 ≤ 2147483647) (f3 : (-2147483648) ≤ n1) (f4 : n2 ≤ 2147483647) (f5 : (-2147483648) ≤ n2) (f6 : n3 ≤ 240) (f7 : (-1) ≤ n3) (f8 : n4 ≤ 6) (f9 : 0 ≤ n4) (f10 : n5 = 285) (f11 : hWt T0 H0 ∧ preb_252v n5 n4 n3 n2 n1 n0 H0) (f12 : n6 = 328) (f13 : n6 = hV H0 (n5).toNat 66) (f14 : n7 ≤ 20) (f15 : 0 ≤ n7) (f16 : n7 = hV H0 (n5).toNat 64) (f17 : hUpd H1 H0 n6 n7 n4) (f18 : n8 = 329) (f19 : n8 = hV H1 (n5).toNat 67) (f20 : n9 ≤ 20) (f21 : 0 ≤ n9) (f22 : n9 = hV H1 (n5).toNat 64) (f23 : hUpd H2 H1 n8 n9 n3) (f24 : n10 = 330) (f25 : n10 = hV H2 (n5).toNat 68) (f26 : n11 ≤ 20) (f27 : 0 ≤ n11) (f28 : n11 = hV H2 (n5).toNat 64) (f29 : hUpd H3 H2 n10 n11 n2) (f30 : n12 = 331) (f31 : n12 = hV H3 (n5).toNat 69) (f32 : n13 ≤ 20) (f33 : 0 ≤ n13) (f34 : n13 = hV H3 (n5).toNat 64) (f35 : hUpd H4 H3 n12 n13 n1) (f36 : n14 = 332) (f37 : n14 = hV H4 (n5).toNat 70) (f38 : n15 ≤ 20) (f39 : 0 ≤ n15) (f40 : n15 = hV H4 (n5).toNat 64) (f41 : hUpd H5 H4 n14 n15 n0) (f42 : n16 ≤ 20) (f43 : 0 ≤ n16) (f44 : n16 = hV H5 (n5).toNat 64) : 0 ≤ n16 ∧ n16 < 20 := by
  unfold preb_252v at f11
  have e0 : n7 = hV H0 285 64 := (by rw [f10] at f16; exact f16 : n7 = hV H0 285 64)
  have e1 : hV H1 285 64 = hV H0 285 64 := uPlace f17 _ _ (iS (show n6 = ((328 : Nat) : Int) from f12) rfl)
  have e2 : n9 = hV H0 285 64 := (by rw [f10] at f22; exact f22 : n9 = hV H1 285 64).trans (e1)
  have e3 : hV H2 285 64 = hV H1 285 64 := uPlace f23 _ _ (iS (show n8 = ((329 : Nat) : Int) from f18) rfl)
  have e4 : n11 = hV H0 285 64 := (by rw [f10] at f28; exact f28 : n11 = hV H2 285 64).trans ((e3).trans e1)
  have e5 : hV H3 285 64 = hV H2 285 64 := uPlace f29 _ _ (iS (show n10 = ((330 : Nat) : Int) from f24) rfl)
  have e6 : n13 = hV H0 285 64 := (by rw [f10] at f34; exact f34 : n13 = hV H3 285 64).trans ((e5).trans ((e3).trans e1))
  have e7 : hV H4 285 64 = hV H3 285 64 := uPlace f35 _ _ (iS (show n12 = ((331 : Nat) : Int) from f30) rfl)
  have e8 : n15 = hV H0 285 64 := (by rw [f10] at f40; exact f40 : n15 = hV H4 285 64).trans ((e7).trans ((e5).trans ((e3).trans e1)))
  have e9 : hV H5 285 64 = hV H4 285 64 := uPlace f41 _ _ (iS (show n14 = ((332 : Nat) : Int) from f36) rfl)
  have e10 : n16 = hV H0 285 64 := (by rw [f10] at f44; exact f44 : n16 = hV H5 285 64).trans ((e9).trans ((e7).trans ((e5).trans ((e3).trans e1))))
  have e11 : (0 : Int) ≤ hV H0 285 64 ∧ hV H0 285 64 ≤ 20 := f11.1 285 64 _ _ (by decide +kernel)
  have e12 : (0 : Int) ≤ hV H0 285 65 ∧ hV H0 285 65 ≤ 2147483647 := f11.1 285 65 _ _ (by decide +kernel)
  have p0 := f11.2.1
  have p1 := f11.2.2.1
  have p2 := f11.2.2.2.1
  have p3 := f11.2.2.2.2.1
  have p4 := f11.2.2.2.2.2.1
  have p5 := f11.2.2.2.2.2.2.1
  have p6 := f11.2.2.2.2.2.2.2.1
  have p7 := f11.2.2.2.2.2.2.2.2
  clear f13 f16 f19 f22 f25 f28 f31 f34 f37 f40 f44 e1 e3 e5 e7 e9
  subst e0
  subst e2
  subst e4
  subst e6
  subst e8
  subst e10
  omega
def g_252v_s_5 : vG := ([(20, [17, 0], [5], 64), (90, [17], [], 0), (91, [17], [], 20), (80, [14, 15, 5], [5, 4], 0), (20, [15, 0], [4], 64), (90, [15], [], 0), (91, [15], [], 20), (20, [14, 0], [4], 70), (0, [14], [], 332), (80, [12, 13, 4], [4, 3], 0), (20, [13, 0], [3], 64), (90, [13], [], 0), (91, [13], [], 20), (20, [12, 0], [3], 69), (0, [12], [], 331), (80, [10, 11, 3], [3, 2], 0), (20, [11, 0], [2], 64), (90, [11], [], 0), (91, [11], [], 20), (20, [10, 0], [2], 68), (0, [10], [], 330), (80, [8, 9, 2], [2, 1], 0), (20, [9, 0], [1], 64), (90, [9], [], 0), (91, [9], [], 20), (20, [8, 0], [1], 67), (0, [8], [], 329), (80, [6, 7, 1], [1, 0], 0), (20, [7, 0], [0], 64), (90, [7], [], 0), (91, [7], [], 20), (20, [6, 0], [0], 66), (0, [6], [], 328), (6000, [0, 1, 2, 3, 4, 5], [0], 0), (0, [0], [], 285), (90, [1], [], 0), (91, [1], [], 6), (90, [2], [], -1), (91, [2], [], 240), (90, [3], [], -2147483648), (91, [3], [], 2147483647), (90, [4], [], -2147483648), (91, [4], [], 2147483647), (90, [5], [], -1), (91, [5], [], 19)], (70, [17], [], 20))
theorem c_252v_s_5 : vOkm T0 (eP e_252v L_252v A_252v mu_252v none) 6 g_252v_s_5 := vOk_in fun ρ η h => by
  obtain ⟨f0, f1, f2, f3, f4, f5, f6, f7, f8, f9, f10, f11, f12, f13, f14, f15, f16, f17, f18, f19, f20, f21, f22, f23, f24, f25, f26, f27, f28, f29, f30, f31, f32, f33, f34, f35, f36, f37, f38, f39, f40, f41, f42, f43, f44, _⟩ := h
  exact q_252v_5 (n0 := ρ 5) (n1 := ρ 4) (n2 := ρ 3) (n3 := ρ 2) (n4 := ρ 1) (n5 := ρ 0) (n6 := ρ 6) (n7 := ρ 7) (n8 := ρ 8) (n9 := ρ 9) (n10 := ρ 10) (n11 := ρ 11) (n12 := ρ 12) (n13 := ρ 13) (n14 := ρ 14) (n15 := ρ 15) (n16 := ρ 17) (H0 := η 0) (H1 := η 1) (H2 := η 2) (H3 := η 3) (H4 := η 4) (H5 := η 5) f44 f43 f42 f41 f40 f39 f38 f37 f36 f35 f34 f33 f32 f31 f30 f29 f28 f27 f26 f25 f24 f23 f22 f21 f20 f19 f18 f17 f16 f15 f14 f13 f12 f11 f10 f9 f8 f7 f6 f5 f4 f3 f2 f1 f0
theorem q_252v_6 {n0 n1 n2 n3 n4 n5 n6 n7 n8 n9 n10 n11 n12 n13 n14 n15 n16 n17 n18 n19 : Int} {H0 H1 H2 H3 H4 H5 H6 : gH} (f0 : n0 ≤ 19) (f1 : (-1) ≤ n0) (f2 : n1 ≤ 2147483647) (f3 : (-2147483648) ≤ n1) (f4 : n2 ≤ 2147483647) (f5 : (-2147483648) ≤ n2) (f6 : n3 ≤ 240) (f7 : (-1) ≤ n3) (f8 : n4 ≤ 6) (f9 : 0 ≤ n4) (f10 : n5 = 285) (f11 : hWt T0 H0 ∧ preb_252v n5 n4 n3 n2 n1 n0 H0) (f12 : n6 = 328) (f13 : n6 = hV H0 (n5).toNat 66) (f14 : n7 ≤ 20) (f15 : 0 ≤ n7) (f16 : n7 = hV H0 (n5).toNat 64) (f17 : hUpd H1 H0 n6 n7 n4) (f18 : n8 = 329) (f19 : n8 = hV H1 (n5).toNat 67) (f20 : n9 ≤ 20) (f21 : 0 ≤ n9) (f22 : n9 = hV H1 (n5).toNat 64) (f23 : hUpd H2 H1 n8 n9 n3) (f24 : n10 = 330) (f25 : n10 = hV H2 (n5).toNat 68) (f26 : n11 ≤ 20) (f27 : 0 ≤ n11) (f28 : n11 = hV H2 (n5).toNat 64) (f29 : hUpd H3 H2 n10 n11 n2) (f30 : n12 = 331) (f31 : n12 = hV H3 (n5).toNat 69) (f32 : n13 ≤ 20) (f33 : 0 ≤ n13) (f34 : n13 = hV H3 (n5).toNat 64) (f35 : hUpd H4 H3 n12 n13 n1) (f36 : n14 = 332) (f37 : n14 = hV H4 (n5).toNat 70) (f38 : n15 ≤ 20) (f39 : 0 ≤ n15) (f40 : n15 = hV H4 (n5).toNat 64) (f41 : hUpd H5 H4 n14 n15 n0) (f42 : n16 = 334) (f43 : n16 = hV H5 (n5).toNat 72) (f44 : n17 ≤ 20) (f45 : 0 ≤ n17) (f46 : n17 = hV H5 (n5).toNat 64) (f47 : n18 = 0) (f48 : hUpd H6 H5 n16 n17 n18) (f49 : n19 ≤ 20) (f50 : 0 ≤ n19) (f51 : n19 = hV H6 (n5).toNat 64) : 0 ≤ n19 ∧ n19 < 20 := by
  unfold preb_252v at f11
  have e0 : n7 = hV H0 285 64 := (by rw [f10] at f16; exact f16 : n7 = hV H0 285 64)
  have e1 : hV H1 285 64 = hV H0 285 64 := uPlace f17 _ _ (iS (show n6 = ((328 : Nat) : Int) from f12) rfl)
  have e2 : n9 = hV H0 285 64 := (by rw [f10] at f22; exact f22 : n9 = hV H1 285 64).trans (e1)
  have e3 : hV H2 285 64 = hV H1 285 64 := uPlace f23 _ _ (iS (show n8 = ((329 : Nat) : Int) from f18) rfl)
  have e4 : n11 = hV H0 285 64 := (by rw [f10] at f28; exact f28 : n11 = hV H2 285 64).trans ((e3).trans e1)
  have e5 : hV H3 285 64 = hV H2 285 64 := uPlace f29 _ _ (iS (show n10 = ((330 : Nat) : Int) from f24) rfl)
  have e6 : n13 = hV H0 285 64 := (by rw [f10] at f34; exact f34 : n13 = hV H3 285 64).trans ((e5).trans ((e3).trans e1))
  have e7 : hV H4 285 64 = hV H3 285 64 := uPlace f35 _ _ (iS (show n12 = ((331 : Nat) : Int) from f30) rfl)
  have e8 : n15 = hV H0 285 64 := (by rw [f10] at f40; exact f40 : n15 = hV H4 285 64).trans ((e7).trans ((e5).trans ((e3).trans e1)))
  have e9 : hV H5 285 64 = hV H4 285 64 := uPlace f41 _ _ (iS (show n14 = ((332 : Nat) : Int) from f36) rfl)
  have e10 : n17 = hV H0 285 64 := (by rw [f10] at f46; exact f46 : n17 = hV H5 285 64).trans ((e9).trans ((e7).trans ((e5).trans ((e3).trans e1))))
  have e11 : hV H6 285 64 = hV H5 285 64 := uPlace f48 _ _ (iS (show n16 = ((334 : Nat) : Int) from f42) rfl)
  have e12 : n19 = hV H0 285 64 := (by rw [f10] at f51; exact f51 : n19 = hV H6 285 64).trans ((e11).trans ((e9).trans ((e7).trans ((e5).trans ((e3).trans e1)))))
  have e13 : (0 : Int) ≤ hV H0 285 64 ∧ hV H0 285 64 ≤ 20 := f11.1 285 64 _ _ (by decide +kernel)
  have e14 : (0 : Int) ≤ hV H0 285 65 ∧ hV H0 285 65 ≤ 2147483647 := f11.1 285 65 _ _ (by decide +kernel)
  have p0 := f11.2.1
  have p1 := f11.2.2.1
  have p2 := f11.2.2.2.1
  have p3 := f11.2.2.2.2.1
  have p4 := f11.2.2.2.2.2.1
  have p5 := f11.2.2.2.2.2.2.1
  have p6 := f11.2.2.2.2.2.2.2.1
  have p7 := f11.2.2.2.2.2.2.2.2
  clear f13 f16 f19 f22 f25 f28 f31 f34 f37 f40 f43 f46 f51 e1 e3 e5 e7 e9 e11
  subst e0
  subst e2
  subst e4
  subst e6
  subst e8
  subst e10
  subst e12
  omega
def g_252v_s_6 : vG := ([(20, [20, 0], [6], 64), (90, [20], [], 0), (91, [20], [], 20), (80, [16, 17, 18], [6, 5], 0), (0, [18], [], 0), (20, [17, 0], [5], 64), (90, [17], [], 0), (91, [17], [], 20), (20, [16, 0], [5], 72), (0, [16], [], 334), (80, [14, 15, 5], [5, 4], 0), (20, [15, 0], [4], 64), (90, [15], [], 0), (91, [15], [], 20), (20, [14, 0], [4], 70), (0, [14], [], 332), (80, [12, 13, 4], [4, 3], 0), (20, [13, 0], [3], 64), (90, [13], [], 0), (91, [13], [], 20), (20, [12, 0], [3], 69), (0, [12], [], 331), (80, [10, 11, 3], [3, 2], 0), (20, [11, 0], [2], 64), (90, [11], [], 0), (91, [11], [], 20), (20, [10, 0], [2], 68), (0, [10], [], 330), (80, [8, 9, 2], [2, 1], 0), (20, [9, 0], [1], 64), (90, [9], [], 0), (91, [9], [], 20), (20, [8, 0], [1], 67), (0, [8], [], 329), (80, [6, 7, 1], [1, 0], 0), (20, [7, 0], [0], 64), (90, [7], [], 0), (91, [7], [], 20), (20, [6, 0], [0], 66), (0, [6], [], 328), (6000, [0, 1, 2, 3, 4, 5], [0], 0), (0, [0], [], 285), (90, [1], [], 0), (91, [1], [], 6), (90, [2], [], -1), (91, [2], [], 240), (90, [3], [], -2147483648), (91, [3], [], 2147483647), (90, [4], [], -2147483648), (91, [4], [], 2147483647), (90, [5], [], -1), (91, [5], [], 19)], (70, [20], [], 20))
theorem c_252v_s_6 : vOkm T0 (eP e_252v L_252v A_252v mu_252v none) 6 g_252v_s_6 := vOk_in fun ρ η h => by
  obtain ⟨f0, f1, f2, f3, f4, f5, f6, f7, f8, f9, f10, f11, f12, f13, f14, f15, f16, f17, f18, f19, f20, f21, f22, f23, f24, f25, f26, f27, f28, f29, f30, f31, f32, f33, f34, f35, f36, f37, f38, f39, f40, f41, f42, f43, f44, f45, f46, f47, f48, f49, f50, f51, _⟩ := h
  exact q_252v_6 (n0 := ρ 5) (n1 := ρ 4) (n2 := ρ 3) (n3 := ρ 2) (n4 := ρ 1) (n5 := ρ 0) (n6 := ρ 6) (n7 := ρ 7) (n8 := ρ 8) (n9 := ρ 9) (n10 := ρ 10) (n11 := ρ 11) (n12 := ρ 12) (n13 := ρ 13) (n14 := ρ 14) (n15 := ρ 15) (n16 := ρ 16) (n17 := ρ 17) (n18 := ρ 18) (n19 := ρ 20) (H0 := η 0) (H1 := η 1) (H2 := η 2) (H3 := η 3) (H4 := η 4) (H5 := η 5) (H6 := η 6) f51 f50 f49 f48 f47 f46 f45 f44 f43 f42 f41 f40 f39 f38 f37 f36 f35 f34 f33 f32 f31 f30 f29 f28 f27 f26 f25 f24 f23 f22 f21 f20 f19 f18 f17 f16 f15 f14 f13 f12 f11 f10 f9 f8 f7 f6 f5 f4 f3 f2 f1 f0
theorem q_252v_7 {n0 n1 n2 n3 n4 n5 n6 n7 n8 n9 n10 n11 n12 n13 n14 n15 n16 n17 n18 n19 n20 n21 n22 : Int} {H0 H1 H2 H3 H4 H5 H6 H7 : gH} (f0 : n0 ≤ 19) (f1 : (-1) ≤ n0) (f2 : n1 ≤ 2147483647) (f3 : (-2147483648) ≤ n1) (f4 : n2 ≤ 2147483647) (f5 : (-2147483648) ≤ n2) (f6 : n3 ≤ 240) (f7 : (-1) ≤ n3) (f8 : n4 ≤ 6) (f9 : 0 ≤ n4) (f10 : n5 = 285) (f11 : hWt T0 H0 ∧ preb_252v n5 n4 n3 n2 n1 n0 H0) (f12 : n6 = 328) (f13 : n6 = hV H0 (n5).toNat 66) (f14 : n7 ≤ 20) (f15 : 0 ≤ n7) (f16 : n7 = hV H0 (n5).toNat 64) (f17 : hUpd H1 H0 n6 n7 n4) (f18 : n8 = 329) (f19 : n8 = hV H1 (n5).toNat 67) (f20 : n9 ≤ 20) (f21 : 0 ≤ n9) (f22 : n9 = hV H1 (n5).toNat 64) (f23 : hUpd H2 H1 n8 n9 n3) (f24 : n10 = 330) (f25 : n10 = hV H2 (n5).toNat 68) (f26 : n11 ≤ 20) (f27 : 0 ≤ n11) (f28 : n11 = hV H2 (n5).toNat 64) (f29 : hUpd H3 H2 n10 n11 n2) (f30 : n12 = 331) (f31 : n12 = hV H3 (n5).toNat 69) (f32 : n13 ≤ 20) (f33 : 0 ≤ n13) (f34 : n13 = hV H3 (n5).toNat 64) (f35 : hUpd H4 H3 n12 n13 n1) (f36 : n14 = 332) (f37 : n14 = hV H4 (n5).toNat 70) (f38 : n15 ≤ 20) (f39 : 0 ≤ n15) (f40 : n15 = hV H4 (n5).toNat 64) (f41 : hUpd H5 H4 n14 n15 n0) (f42 : n16 = 334) (f43 : n16 = hV H5 (n5).toNat 72) (f44 : n17 ≤ 20) (f45 : 0 ≤ n17) (f46 : n17 = hV H5 (n5).toNat 64) (f47 : n18 = 0) (f48 : hUpd H6 H5 n16 n17 n18) (f49 : n19 = 335) (f50 : n19 = hV H6 (n5).toNat 73) (f51 : n20 ≤ 20) (f52 : 0 ≤ n20) (f53 : n20 = hV H6 (n5).toNat 64) (f54 : n21 = (-1)) (f55 : hUpd H7 H6 n19 n20 n21) (f56 : n22 ≤ 20) (f57 : 0 ≤ n22) (f58 : n22 = hV H7 (n5).toNat 64) : 0 ≤ n22 ∧ n22 < 20 := by
  unfold preb_252v at f11
  have e0 : n7 = hV H0 285 64 := (by rw [f10] at f16; exact f16 : n7 = hV H0 285 64)
  have e1 : hV H1 285 64 = hV H0 285 64 := uPlace f17 _ _ (iS (show n6 = ((328 : Nat) : Int) from f12) rfl)
  have e2 : n9 = hV H0 285 64 := (by rw [f10] at f22; exact f22 : n9 = hV H1 285 64).trans (e1)
  have e3 : hV H2 285 64 = hV H1 285 64 := uPlace f23 _ _ (iS (show n8 = ((329 : Nat) : Int) from f18) rfl)
  have e4 : n11 = hV H0 285 64 := (by rw [f10] at f28; exact f28 : n11 = hV H2 285 64).trans ((e3).trans e1)
  have e5 : hV H3 285 64 = hV H2 285 64 := uPlace f29 _ _ (iS (show n10 = ((330 : Nat) : Int) from f24) rfl)
  have e6 : n13 = hV H0 285 64 := (by rw [f10] at f34; exact f34 : n13 = hV H3 285 64).trans ((e5).trans ((e3).trans e1))
  have e7 : hV H4 285 64 = hV H3 285 64 := uPlace f35 _ _ (iS (show n12 = ((331 : Nat) : Int) from f30) rfl)
  have e8 : n15 = hV H0 285 64 := (by rw [f10] at f40; exact f40 : n15 = hV H4 285 64).trans ((e7).trans ((e5).trans ((e3).trans e1)))
  have e9 : hV H5 285 64 = hV H4 285 64 := uPlace f41 _ _ (iS (show n14 = ((332 : Nat) : Int) from f36) rfl)
  have e10 : n17 = hV H0 285 64 := (by rw [f10] at f46; exact f46 : n17 = hV H5 285 64).trans ((e9).trans ((e7).trans ((e5).trans ((e3).trans e1))))
  have e11 : hV H6 285 64 = hV H5 285 64 := uPlace f48 _ _ (iS (show n16 = ((334 : Nat) : Int) from f42) rfl)
  have e12 : n20 = hV H0 285 64 := (by rw [f10] at f53; exact f53 : n20 = hV H6 285 64).trans ((e11).trans ((e9).trans ((e7).trans ((e5).trans ((e3).trans e1)))))
  have e13 : hV H7 285 64 = hV H6 285 64 := uPlace f55 _ _ (iS (show n19 = ((335 : Nat) : Int) from f49) rfl)
  have e14 : n22 = hV H0 285 64 := (by rw [f10] at f58; exact f58 : n22 = hV H7 285 64).trans ((e13).trans ((e11).trans ((e9).trans ((e7).trans ((e5).trans ((e3).trans e1))))))
  have e15 : (0 : Int) ≤ hV H0 285 64 ∧ hV H0 285 64 ≤ 20 := f11.1 285 64 _ _ (by decide +kernel)
  have e16 : (0 : Int) ≤ hV H0 285 65 ∧ hV H0 285 65 ≤ 2147483647 := f11.1 285 65 _ _ (by decide +kernel)
  have p0 := f11.2.1
  have p1 := f11.2.2.1
  have p2 := f11.2.2.2.1
  have p3 := f11.2.2.2.2.1
  have p4 := f11.2.2.2.2.2.1
  have p5 := f11.2.2.2.2.2.2.1
  have p6 := f11.2.2.2.2.2.2.2.1
  have p7 := f11.2.2.2.2.2.2.2.2
  clear f13 f16 f19 f22 f25 f28 f31 f34 f37 f40 f43 f46 f50 f53 f58 e1 e3 e5 e7 e9 e11 e13
  subst e0
  subst e2
  subst e4
  subst e6
  subst e8
  subst e10
  subst e12
  subst e14
  omega
def g_252v_s_7 : vG := ([(20, [23, 0], [7], 64), (90, [23], [], 0), (91, [23], [], 20), (80, [19, 20, 21], [7, 6], 0), (0, [21], [], -1), (20, [20, 0], [6], 64), (90, [20], [], 0), (91, [20], [], 20), (20, [19, 0], [6], 73), (0, [19], [], 335), (80, [16, 17, 18], [6, 5], 0), (0, [18], [], 0), (20, [17, 0], [5], 64), (90, [17], [], 0), (91, [17], [], 20), (20, [16, 0], [5], 72), (0, [16], [], 334), (80, [14, 15, 5], [5, 4], 0), (20, [15, 0], [4], 64), (90, [15], [], 0), (91, [15], [], 20), (20, [14, 0], [4], 70), (0, [14], [], 332), (80, [12, 13, 4], [4, 3], 0), (20, [13, 0], [3], 64), (90, [13], [], 0), (91, [13], [], 20), (20, [12, 0], [3], 69), (0, [12], [], 331), (80, [10, 11, 3], [3, 2], 0), (20, [11, 0], [2], 64), (90, [11], [], 0), (91, [11], [], 20), (20, [10, 0], [2], 68), (0, [10], [], 330), (80, [8, 9, 2], [2, 1], 0), (20, [9, 0], [1], 64), (90, [9], [], 0), (91, [9], [], 20), (20, [8, 0], [1], 67), (0, [8], [], 329), (80, [6, 7, 1], [1, 0], 0), (20, [7, 0], [0], 64), (90, [7], [], 0), (91, [7], [], 20), (20, [6, 0], [0], 66), (0, [6], [], 328), (6000, [0, 1, 2, 3, 4, 5], [0], 0), (0, [0], [], 285), (90, [1], [], 0), (91, [1], [], 6), (90, [2], [], -1), (91, [2], [], 240), (90, [3], [], -2147483648), (91, [3], [], 2147483647), (90, [4], [], -2147483648), (91, [4], [], 2147483647), (90, [5], [], -1), (91, [5], [], 19)], (70, [23], [], 20))
theorem c_252v_s_7 : vOkm T0 (eP e_252v L_252v A_252v mu_252v none) 6 g_252v_s_7 := vOk_in fun ρ η h => by
  obtain ⟨f0, f1, f2, f3, f4, f5, f6, f7, f8, f9, f10, f11, f12, f13, f14, f15, f16, f17, f18, f19, f20, f21, f22, f23, f24, f25, f26, f27, f28, f29, f30, f31, f32, f33, f34, f35, f36, f37, f38, f39, f40, f41, f42, f43, f44, f45, f46, f47, f48, f49, f50, f51, f52, f53, f54, f55, f56, f57, f58, _⟩ := h
  exact q_252v_7 (n0 := ρ 5) (n1 := ρ 4) (n2 := ρ 3) (n3 := ρ 2) (n4 := ρ 1) (n5 := ρ 0) (n6 := ρ 6) (n7 := ρ 7) (n8 := ρ 8) (n9 := ρ 9) (n10 := ρ 10) (n11 := ρ 11) (n12 := ρ 12) (n13 := ρ 13) (n14 := ρ 14) (n15 := ρ 15) (n16 := ρ 16) (n17 := ρ 17) (n18 := ρ 18) (n19 := ρ 19) (n20 := ρ 20) (n21 := ρ 21) (n22 := ρ 23) (H0 := η 0) (H1 := η 1) (H2 := η 2) (H3 := η 3) (H4 := η 4) (H5 := η 5) (H6 := η 6) (H7 := η 7) f58 f57 f56 f55 f54 f53 f52 f51 f50 f49 f48 f47 f46 f45 f44 f43 f42 f41 f40 f39 f38 f37 f36 f35 f34 f33 f32 f31 f30 f29 f28 f27 f26 f25 f24 f23 f22 f21 f20 f19 f18 f17 f16 f15 f14 f13 f12 f11 f10 f9 f8 f7 f6 f5 f4 f3 f2 f1 f0
theorem q_252v_8 {n0 n1 n2 n3 n4 n5 n6 n7 n8 n9 n10 n11 n12 n13 n14 n15 n16 n17 n18 n19 n20 n21 n22 n23 n24 n25 : Int} {H0 H1 H2 H3 H4 H5 H6 H7 H8 : gH} (f0 : n0 ≤ 19) (f1 : (-1) ≤ n0) (f2 : n1 ≤ 2147483647) (f3 : (-2147483648) ≤ n1) (f4 : n2 ≤ 2147483647) (f5 : (-2147483648) ≤ n2) (f6 : n3 ≤ 240) (f7 : (-1) ≤ n3) (f8 : n4 ≤ 6) (f9 : 0 ≤ n4) (f10 : n5 = 285) (f11 : hWt T0 H0 ∧ preb_252v n5 n4 n3 n2 n1 n0 H0) (f12 : n6 = 328) (f13 : n6 = hV H0 (n5).toNat 66) (f14 : n7 ≤ 20) (f15 : 0 ≤ n7) (f16 : n7 = hV H0 (n5).toNat 64) (f17 : hUpd H1 H0 n6 n7 n4) (f18 : n8 = 329) (f19 : n8 = hV H1 (n5).toNat 67) (f20 : n9 ≤ 20) (f21 : 0 ≤ n9) (f22 : n9 = hV H1 (n5).toNat 64) (f23 : hUpd H2 H1 n8 n9 n3) (f24 : n10 = 330) (f25 : n10 = hV H2 (n5).toNat 68) (f26 : n11 ≤ 20) (f27 : 0 ≤ n11) (f28 : n11 = hV H2 (n5).toNat 64) (f29 : hUpd H3 H2 n10 n11 n2) (f30 : n12 = 331) (f31 : n12 = hV H3 (n5).toNat 69) (f32 : n13 ≤ 20) (f33 : 0 ≤ n13) (f34 : n13 = hV H3 (n5).toNat 64) (f35 : hUpd H4 H3 n12 n13 n1) (f36 : n14 = 332) (f37 : n14 = hV H4 (n5).toNat 70) (f38 : n15 ≤ 20) (f39 : 0 ≤ n15) (f40 : n15 = hV H4 (n5).toNat 64) (f41 : hUpd H5 H4 n14 n15 n0) (f42 : n16 = 334) (f43 : n16 = hV H5 (n5).toNat 72) (f44 : n17 ≤ 20) (f45 : 0 ≤ n17) (f46 : n17 = hV H5 (n5).toNat 64) (f47 : n18 = 0) (f48 : hUpd H6 H5 n16 n17 n18) (f49 : n19 = 335) (f50 : n19 = hV H6 (n5).toNat 73) (f51 : n20 ≤ 20) (f52 : 0 ≤ n20) (f53 : n20 = hV H6 (n5).toNat 64) (f54 : n21 = (-1)) (f55 : hUpd H7 H6 n19 n20 n21) (f56 : n22 = 336) (f57 : n22 = hV H7 (n5).toNat 74) (f58 : n23 ≤ 20) (f59 : 0 ≤ n23) (f60 : n23 = hV H7 (n5).toNat 64) (f61 : n24 = (-1)) (f62 : hUpd H8 H7 n22 n23 n24) (f63 : n25 ≤ 20) (f64 : 0 ≤ n25) (f65 : n25 = hV H8 (n5).toNat 64) : 0 ≤ n25 ∧ n25 < 20 := by
  unfold preb_252v at f11
  have e0 : n7 = hV H0 285 64 := (by rw [f10] at f16; exact f16 : n7 = hV H0 285 64)
  have e1 : hV H1 285 64 = hV H0 285 64 := uPlace f17 _ _ (iS (show n6 = ((328 : Nat) : Int) from f12) rfl)
  have e2 : n9 = hV H0 285 64 := (by rw [f10] at f22; exact f22 : n9 = hV H1 285 64).trans (e1)
  have e3 : hV H2 285 64 = hV H1 285 64 := uPlace f23 _ _ (iS (show n8 = ((329 : Nat) : Int) from f18) rfl)
  have e4 : n11 = hV H0 285 64 := (by rw [f10] at f28; exact f28 : n11 = hV H2 285 64).trans ((e3).trans e1)
  have e5 : hV H3 285 64 = hV H2 285 64 := uPlace f29 _ _ (iS (show n10 = ((330 : Nat) : Int) from f24) rfl)
  have e6 : n13 = hV H0 285 64 := (by rw [f10] at f34; exact f34 : n13 = hV H3 285 64).trans ((e5).trans ((e3).trans e1))
  have e7 : hV H4 285 64 = hV H3 285 64 := uPlace f35 _ _ (iS (show n12 = ((331 : Nat) : Int) from f30) rfl)
  have e8 : n15 = hV H0 285 64 := (by rw [f10] at f40; exact f40 : n15 = hV H4 285 64).trans ((e7).trans ((e5).trans ((e3).trans e1)))
  have e9 : hV H5 285 64 = hV H4 285 64 := uPlace f41 _ _ (iS (show n14 = ((332 : Nat) : Int) from f36) rfl)
  have e10 : n17 = hV H0 285 64 := (by rw [f10] at f46; exact f46 : n17 = hV H5 285 64).trans ((e9).trans ((e7).trans ((e5).trans ((e3).trans e1))))
  have e11 : hV H6 285 64 = hV H5 285 64 := uPlace f48 _ _ (iS (show n16 = ((334 : Nat) : Int) from f42) rfl)
  have e12 : n20 = hV H0 285 64 := (by rw [f10] at f53; exact f53 : n20 = hV H6 285 64).trans ((e11).trans ((e9).trans ((e7).trans ((e5).trans ((e3).trans e1)))))
  have e13 : hV H7 285 64 = hV H6 285 64 := uPlace f55 _ _ (iS (show n19 = ((335 : Nat) : Int) from f49) rfl)
  have e14 : n23 = hV H0 285 64 := (by rw [f10] at f60; exact f60 : n23 = hV H7 285 64).trans ((e13).trans ((e11).trans ((e9).trans ((e7).trans ((e5).trans ((e3).trans e1))))))
  have e15 : hV H8 285 64 = hV H7 285 64 := uPlace f62 _ _ (iS (show n22 = ((336 : Nat) : Int) from f56) rfl)
  have e16 : n25 = hV H0 285 64 := (by rw [f10] at f65; exact f65 : n25 = hV H8 285 64).trans ((e15).trans ((e13).trans ((e11).trans ((e9).trans ((e7).trans ((e5).trans ((e3).trans e1)))))))
  have e17 : (0 : Int) ≤ hV H0 285 64 ∧ hV H0 285 64 ≤ 20 := f11.1 285 64 _ _ (by decide +kernel)
  have e18 : (0 : Int) ≤ hV H0 285 65 ∧ hV H0 285 65 ≤ 2147483647 := f11.1 285 65 _ _ (by decide +kernel)
  have p0 := f11.2.1
  have p1 := f11.2.2.1
  have p2 := f11.2.2.2.1
  have p3 := f11.2.2.2.2.1
  have p4 := f11.2.2.2.2.2.1
  have p5 := f11.2.2.2.2.2.2.1
  have p6 := f11.2.2.2.2.2.2.2.1
  have p7 := f11.2.2.2.2.2.2.2.2
  clear f13 f16 f19 f22 f25 f28 f31 f34 f37 f40 f43 f46 f50 f53 f57 f60 f65 e1 e3 e5 e7 e9 e11 e13 e15
  subst e0
  subst e2
  subst e4
  subst e6
  subst e8
  subst e10
  subst e12
  subst e14
  subst e16
  omega
def g_252v_s_8 : vG := ([(20, [26, 0], [8], 64), (90, [26], [], 0), (91, [26], [], 20), (80, [22, 23, 24], [8, 7], 0), (0, [24], [], -1), (20, [23, 0], [7], 64), (90, [23], [], 0), (91, [23], [], 20), (20, [22, 0], [7], 74), (0, [22], [], 336), (80, [19, 20, 21], [7, 6], 0), (0, [21], [], -1), (20, [20, 0], [6], 64), (90, [20], [], 0), (91, [20], [], 20), (20, [19, 0], [6], 73), (0, [19], [], 335), (80, [16, 17, 18], [6, 5], 0), (0, [18], [], 0), (20, [17, 0], [5], 64), (90, [17], [], 0), (91, [17], [], 20), (20, [16, 0], [5], 72), (0, [16], [], 334), (80, [14, 15, 5], [5, 4], 0), (20, [15, 0], [4], 64), (90, [15], [], 0), (91, [15], [], 20), (20, [14, 0], [4], 70), (0, [14], [], 332), (80, [12, 13, 4], [4, 3], 0), (20, [13, 0], [3], 64), (90, [13], [], 0), (91, [13], [], 20), (20, [12, 0], [3], 69), (0, [12], [], 331), (80, [10, 11, 3], [3, 2], 0), (20, [11, 0], [2], 64), (90, [11], [], 0), (91, [11], [], 20), (20, [10, 0], [2], 68), (0, [10], [], 330), (80, [8, 9, 2], [2, 1], 0), (20, [9, 0], [1], 64), (90, [9], [], 0), (91, [9], [], 20), (20, [8, 0], [1], 67), (0, [8], [], 329), (80, [6, 7, 1], [1, 0], 0), (20, [7, 0], [0], 64), (90, [7], [], 0), (91, [7], [], 20), (20, [6, 0], [0], 66), (0, [6], [], 328), (6000, [0, 1, 2, 3, 4, 5], [0], 0), (0, [0], [], 285), (90, [1], [], 0), (91, [1], [], 6), (90, [2], [], -1), (91, [2], [], 240), (90, [3], [], -2147483648), (91, [3], [], 2147483647), (90, [4], [], -2147483648), (91, [4], [], 2147483647), (90, [5], [], -1), (91, [5], [], 19)], (70, [26], [], 20))
theorem c_252v_s_8 : vOkm T0 (eP e_252v L_252v A_252v mu_252v none) 6 g_252v_s_8 := vOk_in fun ρ η h => by
  obtain ⟨f0, f1, f2, f3, f4, f5, f6, f7, f8, f9, f10, f11, f12, f13, f14, f15, f16, f17, f18, f19, f20, f21, f22, f23, f24, f25, f26, f27, f28, f29, f30, f31, f32, f33, f34, f35, f36, f37, f38, f39, f40, f41, f42, f43, f44, f45, f46, f47, f48, f49, f50, f51, f52, f53, f54, f55, f56, f57, f58, f59, f60, f61, f62, f63, f64, f65, _⟩ := h
  exact q_252v_8 (n0 := ρ 5) (n1 := ρ 4) (n2 := ρ 3) (n3 := ρ 2) (n4 := ρ 1) (n5 := ρ 0) (n6 := ρ 6) (n7 := ρ 7) (n8 := ρ 8) (n9 := ρ 9) (n10 := ρ 10) (n11 := ρ 11) (n12 := ρ 12) (n13 := ρ 13) (n14 := ρ 14) (n15 := ρ 15) (n16 := ρ 16) (n17 := ρ 17) (n18 := ρ 18) (n19 := ρ 19) (n20 := ρ 20) (n21 := ρ 21) (n22 := ρ 22) (n23 := ρ 23) (n24 := ρ 24) (n25 := ρ 26) (H0 := η 0) (H1 := η 1) (H2 := η 2) (H3 := η 3) (H4 := η 4) (H5 := η 5) (H6 := η 6) (H7 := η 7) (H8 := η 8) f65 f64 f63 f62 f61 f60 f59 f58 f57 f56 f55 f54 f53 f52 f51 f50 f49 f48 f47 f46 f45 f44 f43 f42 f41 f40 f39 f38 f37 f36 f35 f34 f33 f32 f31 f30 f29 f28 f27 f26 f25 f24 f23 f22 f21 f20 f19 f18 f17 f16 f15 f14 f13 f12 f11 f10 f9 f8 f7 f6 f5 f4 f3 f2 f1 f0
theorem q_252v_9 {n0 n1 n2 n3 n4 n5 n6 n7 n8 n9 n10 n11 n12 n13 n14 n15 n16 n17 n18 n19 n20 n21 n22 n23 n24 n25 n26 n27 n28 n29 n30 : Int} {H0 H1 H2 H3 H4 H5 H6 H7 H8 H9 : gH} (f0 : n0 ≤ 19) (f1 : (-1) ≤ n0) (f2 : n1 ≤ 2147483647) (f3 : (-2147483648) ≤ n1) (f4 : n2 ≤ 2147483647) (f5 : (-2147483648) ≤ n2) (f6 : n3 ≤ 240) (f7 : (-1) ≤ n3) (f8 : n4 ≤ 6) (f9 : 0 ≤ n4) (f10 : n5 = 285) (f11 : hWt T0 H0 ∧ preb_252v n5 n4 n3 n2 n1 n0 H0) (f12 : n6 = 328) (f13 : n6 = hV H0 (n5).toNat 66) (f14 : n7 ≤ 20) (f15 : 0 ≤ n7) (f16 : n7 = hV H0 (n5).toNat 64) (f17 : hUpd H1 H0 n6 n7 n4) (f18 : n8 = 329) (f19 : n8 = hV H1 (n5).toNat 67) (f20 : n9 ≤ 20) (f21 : 0 ≤ n9) (f22 : n9 = hV H1 (n5).toNat 64) (f23 : hUpd H2 H1 n8 n9 n3) (f24 : n10 = 330) (f25 : n10 = hV H2 (n5).toNat 68) (f26 : n11 ≤ 20) (f27 : 0 ≤ n11) (f28 : n11 = hV H2 (n5).toNat 64) (f29 : hUpd H3 H2 n10 n11 n2) (f30 : n12 = 331) (f31 : n12 = hV H3 (n5).toNat 69) (f32 : n13 ≤ 20) (f33 : 0 ≤ n13) (f34 : n13 = hV H3 (n5).toNat 64) (f35 : hUpd H4 H3 n12 n13 n1) (f36 : n14 = 332) (f37 : n14 = hV H4 (n5).toNat 70) (f38 : n15 ≤ 20) (f39 : 0 ≤ n15) (f40 : n15 = hV H4 (n5).toNat 64) (f41 : hUpd H5 H4 n14 n15 n0) (f42 : n16 = 334) (f43 : n16 = hV H5 (n5).toNat 72) (f44 : n17 ≤ 20) (f45 : 0 ≤ n17) (f46 : n17 = hV H5 (n5).toNat 64) (f47 : n18 = 0) (f48 : hUpd H6 H5 n16 n17 n18) (f49 : n19 = 335) (f50 : n19 = hV H6 (n5).toNat 73) (f51 : n20 ≤ 20) (f52 : 0 ≤ n20) (f53 : n20 = hV H6 (n5).toNat 64) (f54 : n21 = (-1)) (f55 : hUpd H7 H6 n19 n20 n21) (f56 : n22 = 336) (f57 : n22 = hV H7 (n5).toNat 74) (f58 : n23 ≤ 20) (f59 : 0 ≤ n23) (f60 : n23 = hV H7 (n5).toNat 64) (f61 : n24 = (-1)) (f62 : hUpd H8 H7 n22 n23 n24) (f63 : n25 = 338) (f64 : n25 = hV H8 (n5).toNat 76) (f65 : n26 ≤ 20) (f66 : 0 ≤ n26) (f67 : n26 = hV H8 (n5).toNat 64) (f68 : n27 = 0) (f69 : hUpd H9 H8 n25 n26 n27) (f70 : n28 ≤ 2147483647) (f71 : 0 ≤ n28) (f72 : n28 = hV H9 (n5).toNat 65) (f73 : n29 = 1) (f74 : n30 = w32 (n28 + n29)) : 0 ≤ n30 := by
  unfold preb_252v at f11
  have e0 : n7 = hV H0 285 64 := (by rw [f10] at f16; exact f16 : n7 = hV H0 285 64)
  have e1 : hV H1 285 64 = hV H0 285 64 := uPlace f17 _ _ (iS (show n6 = ((328 : Nat) : Int) from f12) rfl)
  have e2 : n9 = hV H0 285 64 := (by rw [f10] at f22; exact f22 : n9 = hV H1 285 64).trans (e1)
  have e3 : hV H2 285 64 = hV H1 285 64 := uPlace f23 _ _ (iS (show n8 = ((329 : Nat) : Int) from f18) rfl)
  have e4 : n11 = hV H0 285 64 := (by rw [f10] at f28; exact f28 : n11 = hV H2 285 64).trans ((e3).trans e1)
  have e5 : hV H3 285 64 = hV H2 285 64 := uPlace f29 _ _ (iS (show n10 = ((330 : Nat) : Int) from f24) rfl)
  have e6 : n13 = hV H0 285 64 := (by rw [f10] at f34; exact f34 : n13 = hV H3 285 64).trans ((e5).trans ((e3).trans e1))
  have e7 : hV H4 285 64 = hV H3 285 64 := uPlace f35 _ _ (iS (show n12 = ((331 : Nat) : Int) from f30) rfl)
  have e8 : n15 = hV H0 285 64 := (by rw [f10] at f40; exact f40 : n15 = hV H4 285 64).trans ((e7).trans ((e5).trans ((e3).trans e1)))
  have e9 : hV H5 285 64 = hV H4 285 64 := uPlace f41 _ _ (iS (show n14 = ((332 : Nat) : Int) from f36) rfl)
  have e10 : n17 = hV H0 285 64 := (by rw [f10] at f46; exact f46 : n17 = hV H5 285 64).trans ((e9).trans ((e7).trans ((e5).trans ((e3).trans e1))))
  have e11 : hV H6 285 64 = hV H5 285 64 := uPlace f48 _ _ (iS (show n16 = ((334 : Nat) : Int) from f42) rfl)
  have e12 : n20 = hV H0 285 64 := (by rw [f10] at f53; exact f53 : n20 = hV H6 285 64).trans ((e11).trans ((e9).trans ((e7).trans ((e5).trans ((e3).trans e1)))))
  have e13 : hV H7 285 64 = hV H6 285 64 := uPlace f55 _ _ (iS (show n19 = ((335 : Nat) : Int) from f49) rfl)
  have e14 : n23 = hV H0 285 64 := (by rw [f10] at f60; exact f60 : n23 = hV H7 285 64).trans ((e13).trans ((e11).trans ((e9).trans ((e7).trans ((e5).trans ((e3).trans e1))))))
  have e15 : hV H8 285 64 = hV H7 285 64 := uPlace f62 _ _ (iS (show n22 = ((336 : Nat) : Int) from f56) rfl)
  have e16 : n26 = hV H0 285 64 := (by rw [f10] at f67; exact f67 : n26 = hV H8 285 64).trans ((e15).trans ((e13).trans ((e11).trans ((e9).trans ((e7).trans ((e5).trans ((e3).trans e1)))))))
  have e17 : hV H9 285 65 = hV H8 285 65 := uPlace f69 _ _ (iS (show n25 = ((338 : Nat) : Int) from f63) rfl)
  have e18 : hV H8 285 65 = hV H7 285 65 := uPlace f62 _ _ (iS (show n22 = ((336 : Nat) : Int) from f56) rfl)
  have e19 : hV H7 285 65 = hV H6 285 65 := uPlace f55 _ _ (iS (show n19 = ((335 : Nat) : Int) from f49) rfl)
  have e20 : hV H6 285 65 = hV H5 285 65 := uPlace f48 _ _ (iS (show n16 = ((334 : Nat) : Int) from f42) rfl)
  have e21 : hV H5 285 65 = hV H4 285 65 := uPlace f41 _ _ (iS (show n14 = ((332 : Nat) : Int) from f36) rfl)
  have e22 : hV H4 285 65 = hV H3 285 65 := uPlace f35 _ _ (iS (show n12 = ((331 : Nat) : Int) from f30) rfl)
  have e23 : hV H3 285 65 = hV H2 285 65 := uPlace f29 _ _ (iS (show n10 = ((330 : Nat) : Int) from f24) rfl)
  have e24 : hV H2 285 65 = hV H1 285 65 := uPlace f23 _ _ (iS (show n8 = ((329 : Nat) : Int) from f18) rfl)
  have e25 : hV H1 285 65 = hV H0 285 65 := uPlace f17 _ _ (iS (show n6 = ((328 : Nat) : Int) from f12) rfl)
  have e26 : n28 = hV H0 285 65 := (by rw [f10] at f72; exact f72 : n28 = hV H9 285 65).trans ((e17).trans ((e18).trans ((e19).trans ((e20).trans ((e21).trans ((e22).trans ((e23).trans ((e24).trans e25))))))))
  have e27 : (0 : Int) ≤ hV H0 285 64 ∧ hV H0 285 64 ≤ 20 := f11.1 285 64 _ _ (by decide +kernel)
  have e28 : (0 : Int) ≤ hV H0 285 65 ∧ hV H0 285 65 ≤ 2147483647 := f11.1 285 65 _ _ (by decide +kernel)
  have p0 := f11.2.1
  have p1 := f11.2.2.1
  have p2 := f11.2.2.2.1
  have p3 := f11.2.2.2.2.1
  have p4 := f11.2.2.2.2.2.1
  have p5 := f11.2.2.2.2.2.2.1
  have p6 := f11.2.2.2.2.2.2.2.1
  have p7 := f11.2.2.2.2.2.2.2.2
  clear f13 f16 f19 f22 f25 f28 f31 f34 f37 f40 f43 f46 f50 f53 f57 f60 f64 f67 f72 e1 e3 e5 e7 e9 e11 e13 e15 e17 e18 e19 e20 e21 e22 e23 e24 e25
  subst e0
  subst e2
  subst e4
  subst e6
  subst e8
  subst e10
  subst e12
  subst e14
  subst e16
  subst e26
  unfold w32 at *
  try (have ix0 : n30 = hV H0 285 65 + 1 := (by omega); subst ix0)
  omega
def g_252v_s_9 : vG := ([(1, [30, 28, 29], [], 0), (0, [29], [], 1), (20, [28, 0], [9], 65), (90, [28], [], 0), (91, [28], [], 2147483647), (80, [25, 26, 27], [9, 8], 0), (0, [27], [], 0), (20, [26, 0], [8], 64), (90, [26], [], 0), (91, [26], [], 20), (20, [25, 0], [8], 76), (0, [25], [], 338), (80, [22, 23, 24], [8, 7], 0), (0, [24], [], -1), (20, [23, 0], [7], 64), (90, [23], [], 0), (91, [23], [], 20), (20, [22, 0], [7], 74), (0, [22], [], 336), (80, [19, 20, 21], [7, 6], 0), (0, [21], [], -1), (20, [20, 0], [6], 64), (90, [20], [], 0), (91, [20], [], 20), (20, [19, 0], [6], 73), (0, [19], [], 335), (80, [16, 17, 18], [6, 5], 0), (0, [18], [], 0), (20, [17, 0], [5], 64), (90, [17], [], 0), (91, [17], [], 20), (20, [16, 0], [5], 72), (0, [16], [], 334), (80, [14, 15, 5], [5, 4], 0), (20, [15, 0], [4], 64), (90, [15], [], 0), (91, [15], [], 20), (20, [14, 0], [4], 70), (0, [14], [], 332), (80, [12, 13, 4], [4, 3], 0), (20, [13, 0], [3], 64), (90, [13], [], 0), (91, [13], [], 20), (20, [12, 0], [3], 69), (0, [12], [], 331), (80, [10, 11, 3], [3, 2], 0), (20, [11, 0], [2], 64), (90, [11], [], 0), (91, [11], [], 20), (20, [10, 0], [2], 68), (0, [10], [], 330), (80, [8, 9, 2], [2, 1], 0), (20, [9, 0], [1], 64), (90, [9], [], 0), (91, [9], [], 20), (20, [8, 0], [1], 67), (0, [8], [], 329), (80, [6, 7, 1], [1, 0], 0), (20, [7, 0], [0], 64), (90, [7], [], 0), (91, [7], [], 20), (20, [6, 0], [0], 66), (0, [6], [], 328), (6000, [0, 1, 2, 3, 4, 5], [0], 0), (0, [0], [], 285), (90, [1], [], 0), (91, [1], [], 6), (90, [2], [], -1), (91, [2], [], 240), (90, [3], [], -2147483648), (91, [3], [], 2147483647), (90, [4], [], -2147483648), (91, [4], [], 2147483647), (90, [5], [], -1), (91, [5], [], 19)], (90, [30], [], 0))
theorem c_252v_s_9 : vOkm T0 (eP e_252v L_252v A_252v mu_252v none) 6 g_252v_s_9 := vOk_in fun ρ η h => by
  obtain ⟨f0, f1, f2, f3, f4, f5, f6, f7, f8, f9, f10, f11, f12, f13, f14, f15, f16, f17, f18, f19, f20, f21, f22, f23, f24, f25, f26, f27, f28, f29, f30, f31, f32, f33, f34, f35, f36, f37, f38, f39, f40, f41, f42, f43, f44, f45, f46, f47, f48, f49, f50, f51, f52, f53, f54, f55, f56, f57, f58, f59, f60, f61, f62, f63, f64, f65, f66, f67, f68, f69, f70, f71, f72, f73, f74, _⟩ := h
  exact q_252v_9 (n0 := ρ 5) (n1 := ρ 4) (n2 := ρ 3) (n3 := ρ 2) (n4 := ρ 1) (n5 := ρ 0) (n6 := ρ 6) (n7 := ρ 7) (n8 := ρ 8) (n9 := ρ 9) (n10 := ρ 10) (n11 := ρ 11) (n12 := ρ 12) (n13 := ρ 13) (n14 := ρ 14) (n15 := ρ 15) (n16 := ρ 16) (n17 := ρ 17) (n18 := ρ 18) (n19 := ρ 19) (n20 := ρ 20) (n21 := ρ 21) (n22 := ρ 22) (n23 := ρ 23) (n24 := ρ 24) (n25 := ρ 25) (n26 := ρ 26) (n27 := ρ 27) (n28 := ρ 28) (n29 := ρ 29) (n30 := ρ 30) (H0 := η 0) (H1 := η 1) (H2 := η 2) (H3 := η 3) (H4 := η 4) (H5 := η 5) (H6 := η 6) (H7 := η 7) (H8 := η 8) (H9 := η 9) f74 f73 f72 f71 f70 f69 f68 f67 f66 f65 f64 f63 f62 f61 f60 f59 f58 f57 f56 f55 f54 f53 f52 f51 f50 f49 f48 f47 f46 f45 f44 f43 f42 f41 f40 f39 f38 f37 f36 f35 f34 f33 f32 f31 f30 f29 f28 f27 f26 f25 f24 f23 f22 f21 f20 f19 f18 f17 f16 f15 f14 f13 f12 f11 f10 f9 f8 f7 f6 f5 f4 f3 f2 f1 f0
theorem q_252v_10 {n0 n1 n2 n3 n4 n5 n6 n7 n8 n9 n10 n11 n12 n13 n14 n15 n16 n17 n18 n19 n20 n21 n22 n23 n24 n25 n26 n27 n28 n29 n30 : Int} {H0 H1 H2 H3 H4 H5 H6 H7 H8 H9 : gH} (f0 : n0 ≤ 19) (f1 : (-1) ≤ n0) (f2 : n1 ≤ 2147483647) (f3 : (-2147483648) ≤ n1) (f4 : n2 ≤ 2147483647) (f5 : (-2147483648) ≤ n2) (f6 : n3 ≤ 240) (f7 : (-1) ≤ n3) (f8 : n4 ≤ 6) (f9 : 0 ≤ n4) (f10 : n5 = 285) (f11 : hWt T0 H0 ∧ preb_252v n5 n4 n3 n2 n1 n0 H0) (f12 : n6 = 328) (f13 : n6 = hV H0 (n5).toNat 66) (f14 : n7 ≤ 20) (f15 : 0 ≤ n7) (f16 : n7 = hV H0 (n5).toNat 64) (f17 : hUpd H1 H0 n6 n7 n4) (f18 : n8 = 329) (f19 : n8 = hV H1 (n5).toNat 67) (f20 : n9 ≤ 20) (f21 : 0 ≤ n9) (f22 : n9 = hV H1 (n5).toNat 64) (f23 : hUpd H2 H1 n8 n9 n3) (f24 : n10 = 330) (f25 : n10 = hV H2 (n5).toNat 68) (f26 : n11 ≤ 20) (f27 : 0 ≤ n11) (f28 : n11 = hV H2 (n5).toNat 64) (f29 : hUpd H3 H2 n10 n11 n2) (f30 : n12 = 331) (f31 : n12 = hV H3 (n5).toNat 69) (f32 : n13 ≤ 20) (f33 : 0 ≤ n13) (f34 : n13 = hV H3 (n5).toNat 64) (f35 : hUpd H4 H3 n12 n13 n1) (f36 : n14 = 332) (f37 : n14 = hV H4 (n5).toNat 70) (f38 : n15 ≤ 20) (f39 : 0 ≤ n15) (f40 : n15 = hV H4 (n5).toNat 64) (f41 : hUpd H5 H4 n14 n15 n0) (f42 : n16 = 334) (f43 : n16 = hV H5 (n5).toNat 72) (f44 : n17 ≤ 20) (f45 : 0 ≤ n17) (f46 : n17 = hV H5 (n5).toNat 64) (f47 : n18 = 0) (f48 : hUpd H6 H5 n16 n17 n18) (f49 : n19 = 335) (f50 : n19 = hV H6 (n5).toNat 73) (f51 : n20 ≤ 20) (f52 : 0 ≤ n20) (f53 : n20 = hV H6 (n5).toNat 64) (f54 : n21 = (-1)) (f55 : hUpd H7 H6 n19 n20 n21) (f56 : n22 = 336) (f57 : n22 = hV H7 (n5).toNat 74) (f58 : n23 ≤ 20) (f59 : 0 ≤ n23) (f60 : n23 = hV H7 (n5).toNat 64) (f61 : n24 = (-1)) (f62 : hUpd H8 H7 n22 n23 n24) (f63 : n25 = 338) (f64 : n25 = hV H8 (n5).toNat 76) (f65 : n26 ≤ 20) (f66 : 0 ≤ n26) (f67 : n26 = hV H8 (n5).toNat 64) (f68 : n27 = 0) (f69 : hUpd H9 H8 n25 n26 n27) (f70 : n28 ≤ 2147483647) (f71 : 0 ≤ n28) (f72 : n28 = hV H9 (n5).toNat 65) (f73 : n29 = 1) (f74 : n30 = w32 (n28 + n29)) : n30 ≤ 2147483647 := by
  unfold preb_252v at f11
  have e0 : n7 = hV H0 285 64 := (by rw [f10] at f16; exact f16 : n7 = hV H0 285 64)
  have e1 : hV H1 285 64 = hV H0 285 64 := uPlace f17 _ _ (iS (show n6 = ((328 : Nat) : Int) from f12) rfl)
  have e2 : n9 = hV H0 285 64 := (by rw [f10] at f22; exact f22 : n9 = hV H1 285 64).trans (e1)
  have e3 : hV H2 285 64 = hV H1 285 64 := uPlace f23 _ _ (iS (show n8 = ((329 : Nat) : Int) from f18) rfl)
  have e4 : n11 = hV H0 285 64 := (by rw [f10] at f28; exact f28 : n11 = hV H2 285 64).trans ((e3).trans e1)
  have e5 : hV H3 285 64 = hV H2 285 64 := uPlace f29 _ _ (iS (show n10 = ((330 : Nat) : Int) from f24) rfl)
  have e6 : n13 = hV H0 285 64 := (by rw [f10] at f34; exact f34 : n13 = hV H3 285 64).trans ((e5).trans ((e3).trans e1))
  have e7 : hV H4 285 64 = hV H3 285 64 := uPlace f35 _ _ (iS (show n12 = ((331 : Nat) : Int) from f30) rfl)
  have e8 : n15 = hV H0 285 64 := (by rw [f10] at f40; exact f40 : n15 = hV H4 285 64).trans ((e7).trans ((e5).trans ((e3).trans e1)))
  have e9 : hV H5 285 64 = hV H4 285 64 := uPlace f41 _ _ (iS (show n14 = ((332 : Nat) : Int) from f36) rfl)
  have e10 : n17 = hV H0 285 64 := (by rw [f10] at f46; exact f46 : n17 = hV H5 285 64).trans ((e9).trans ((e7).trans ((e5).trans ((e3).trans e1))))
  have e11 : hV H6 285 64 = hV H5 285 64 := uPlace f48 _ _ (iS (show n16 = ((334 : Nat) : Int) from f42) rfl)
  have e12 : n20 = hV H0 285 64 := (by rw [f10] at f53; exact f53 : n20 = hV H6 285 64).trans ((e11).trans ((e9).trans ((e7).trans ((e5).trans ((e3).trans e1)))))
  have e13 : hV H7 285 64 = hV H6 285 64 := uPlace f55 _ _ (iS (show n19 = ((335 : Nat) : Int) from f49) rfl)
  have e14 : n23 = hV H0 285 64 := (by rw [f10] at f60; exact f60 : n23 = hV H7 285 64).trans ((e13).trans ((e11).trans ((e9).trans ((e7).trans ((e5).trans ((e3).trans e1))))))
  have e15 : hV H8 285 64 = hV H7 285 64 := uPlace f62 _ _ (iS (show n22 = ((336 : Nat) : Int) from f56) rfl)
  have e16 : n26 = hV H0 285 64 := (by rw [f10] at f67; exact f67 : n26 = hV H8 285 64).trans ((e15).trans ((e13).trans ((e11).trans ((e9).trans ((e7).trans ((e5).trans ((e3).trans e1)))))))
  have e17 : hV H9 285 65 = hV H8 285 65 := uPlace f69 _ _ (iS (show n25 = ((338 : Nat) : Int) from f63) rfl)
  have e18 : hV H8 285 65 = hV H7 285 65 := uPlace f62 _ _ (iS (show n22 = ((336 : Nat) : Int) from f56) rfl)
  have e19 : hV H7 285 65 = hV H6 285 65 := uPlace f55 _ _ (iS (show n19 = ((335 : Nat) : Int) from f49) rfl)
  have e20 : hV H6 285 65 = hV H5 285 65 := uPlace f48 _ _ (iS (show n16 = ((334 : Nat) : Int) from f42) rfl)
  have e21 : hV H5 285 65 = hV H4 285 65 := uPlace f41 _ _ (iS (show n14 = ((332 : Nat) : Int) from f36) rfl)
  have e22 : hV H4 285 65 = hV H3 285 65 := uPlace f35 _ _ (iS (show n12 = ((331 : Nat) : Int) from f30) rfl)
  have e23 : hV H3 285 65 = hV H2 285 65 := uPlace f29 _ _ (iS (show n10 = ((330 : Nat) : Int) from f24) rfl)
  have e24 : hV H2 285 65 = hV H1 285 65 := uPlace f23 _ _ (iS (show n8 = ((329 : Nat) : Int) from f18) rfl)
  have e25 : hV H1 285 65 = hV H0 285 65 := uPlace f17 _ _ (iS (show n6 = ((328 : Nat) : Int) from f12) rfl)
  have e26 : n28 = hV H0 285 65 := (by rw [f10] at f72; exact f72 : n28 = hV H9 285 65).trans ((e17).trans ((e18).trans ((e19).trans ((e20).trans ((e21).trans ((e22).trans ((e23).trans ((e24).trans e25))))))))
  have e27 : (0 : Int) ≤ hV H0 285 64 ∧ hV H0 285 64 ≤ 20 := f11.1 285 64 _ _ (by decide +kernel)
  have e28 : (0 : Int) ≤ hV H0 285 65 ∧ hV H0 285 65 ≤ 2147483647 := f11.1 285 65 _ _ (by decide +kernel)
  have p0 := f11.2.1
  have p1 := f11.2.2.1
  have p2 := f11.2.2.2.1
  have p3 := f11.2.2.2.2.1
  have p4 := f11.2.2.2.2.2.1
  have p5 := f11.2.2.2.2.2.2.1
  have p6 := f11.2.2.2.2.2.2.2.1
  have p7 := f11.2.2.2.2.2.2.2.2
  clear f13 f16 f19 f22 f25 f28 f31 f34 f37 f40 f43 f46 f50 f53 f57 f60 f64 f67 f72 e1 e3 e5 e7 e9 e11 e13 e15 e17 e18 e19 e20 e21 e22 e23 e24 e25
  subst e0
  subst e2
  subst e4
  subst e6
  subst e8
  subst e10
  subst e12
  subst e14
  subst e16
  subst e26
  unfold w32 at *
  try (have ix0 : n30 = hV H0 285 65 + 1 := (by omega); subst ix0)
  omega
def g_252v_s_10 : vG := ([(1, [30, 28, 29], [], 0), (0, [29], [], 1), (20, [28, 0], [9], 65), (90, [28], [], 0), (91, [28], [], 2147483647), (80, [25, 26, 27], [9, 8], 0), (0, [27], [], 0), (20, [26, 0], [8], 64), (90, [26], [], 0), (91, [26], [], 20), (20, [25, 0], [8], 76), (0, [25], [], 338), (80, [22, 23, 24], [8, 7], 0), (0, [24], [], -1), (20, [23, 0], [7], 64), (90, [23], [], 0), (91, [23], [], 20), (20, [22, 0], [7], 74), (0, [22], [], 336), (80, [19, 20, 21], [7, 6], 0), (0, [21], [], -1), (20, [20, 0], [6], 64), (90, [20], [], 0), (91, [20], [], 20), (20, [19, 0], [6], 73), (0, [19], [], 335), (80, [16, 17, 18], [6, 5], 0), (0, [18], [], 0), (20, [17, 0], [5], 64), (90, [17], [], 0), (91, [17], [], 20), (20, [16, 0], [5], 72), (0, [16], [], 334), (80, [14, 15, 5], [5, 4], 0), (20, [15, 0], [4], 64), (90, [15], [], 0), (91, [15], [], 20), (20, [14, 0], [4], 70), (0, [14], [], 332), (80, [12, 13, 4], [4, 3], 0), (20, [13, 0], [3], 64), (90, [13], [], 0), (91, [13], [], 20), (20, [12, 0], [3], 69), (0, [12], [], 331), (80, [10, 11, 3], [3, 2], 0), (20, [11, 0], [2], 64), (90, [11], [], 0), (91, [11], [], 20), (20, [10, 0], [2], 68), (0, [10], [], 330), (80, [8, 9, 2], [2, 1], 0), (20, [9, 0], [1], 64), (90, [9], [], 0), (91, [9], [], 20), (20, [8, 0], [1], 67), (0, [8], [], 329), (80, [6, 7, 1], [1, 0], 0), (20, [7, 0], [0], 64), (90, [7], [], 0), (91, [7], [], 20), (20, [6, 0], [0], 66), (0, [6], [], 328), (6000, [0, 1, 2, 3, 4, 5], [0], 0), (0, [0], [], 285), (90, [1], [], 0), (91, [1], [], 6), (90, [2], [], -1), (91, [2], [], 240), (90, [3], [], -2147483648), (91, [3], [], 2147483647), (90, [4], [], -2147483648), (91, [4], [], 2147483647), (90, [5], [], -1), (91, [5], [], 19)], (91, [30], [], 2147483647))
theorem c_252v_s_10 : vOkm T0 (eP e_252v L_252v A_252v mu_252v none) 6 g_252v_s_10 := vOk_in fun ρ η h => by
  obtain ⟨f0, f1, f2, f3, f4, f5, f6, f7, f8, f9, f10, f11, f12, f13, f14, f15, f16, f17, f18, f19, f20, f21, f22, f23, f24, f25, f26, f27, f28, f29, f30, f31, f32, f33, f34, f35, f36, f37, f38, f39, f40, f41, f42, f43, f44, f45, f46, f47, f48, f49, f50, f51, f52, f53, f54, f55, f56, f57, f58, f59, f60, f61, f62, f63, f64, f65, f66, f67, f68, f69, f70, f71, f72, f73, f74, _⟩ := h
  exact q_252v_10 (n0 := ρ 5) (n1 := ρ 4) (n2 := ρ 3) (n3 := ρ 2) (n4 := ρ 1) (n5 := ρ 0) (n6 := ρ 6) (n7 := ρ 7) (n8 := ρ 8) (n9 := ρ 9) (n10 := ρ 10) (n11 := ρ 11) (n12 := ρ 12) (n13 := ρ 13) (n14 := ρ 14) (n15 := ρ 15) (n16 := ρ 16) (n17 := ρ 17) (n18 := ρ 18) (n19 := ρ 19) (n20 := ρ 20) (n21 := ρ 21) (n22 := ρ 22) (n23 := ρ 23) (n24 := ρ 24) (n25 := ρ 25) (n26 := ρ 26) (n27 := ρ 27) (n28 := ρ 28) (n29 := ρ 29) (n30 := ρ 30) (H0 := η 0) (H1 := η 1) (H2 := η 2) (H3 := η 3) (H4 := η 4) (H5 := η 5) (H6 := η 6) (H7 := η 7) (H8 := η 8) (H9 := η 9) f74 f73 f72 f71 f70 f69 f68 f67 f66 f65 f64 f63 f62 f61 f60 f59 f58 f57 f56 f55 f54 f53 f52 f51 f50 f49 f48 f47 f46 f45 f44 f43 f42 f41 f40 f39 f38 f37 f36 f35 f34 f33 f32 f31 f30 f29 f28 f27 f26 f25 f24 f23 f22 f21 f20 f19 f18 f17 f16 f15 f14 f13 f12 f11 f10 f9 f8 f7 f6 f5 f4 f3 f2 f1 f0
theorem q_252v_11 {n0 n1 n2 n3 n4 n5 n6 n7 n8 n9 n10 n11 n12 n13 n14 n15 n16 n17 n18 n19 n20 n21 n22 n23 n24 n25 n26 n27 n28 n29 n30 n31 n32 n33 : Int} {H0 H1 H2 H3 H4 H5 H6 H7 H8 H9 H10 : gH} (f0 : n0 ≤ 19) (f1 : (-1) ≤ n0) (f2 : n1 ≤ 2147483647) (f3 : (-2147483648) ≤ n1) (f4 : n2 ≤ 2147483647) (f5 : (-2147483648) ≤ n2) (f6 : n3 ≤ 240) (f7 : (-1) ≤ n3) (f8 : n4 ≤ 6) (f9 : 0 ≤ n4) (f10 : n5 = 285) (f11 : hWt T0 H0 ∧ preb_252v n5 n4 n3 n2 n1 n0 H0) (f12 : n6 = 328) (f13 : n6 = hV H0 (n5).toNat 66) (f14 : n7 ≤ 20) (f15 : 0 ≤ n7) (f16 : n7 = hV H0 (n5).toNat 64) (f17 : hUpd H1 H0 n6 n7 n4) (f18 : n8 = 329) (f19 : n8 = hV H1 (n5).toNat 67) (f20 : n9 ≤ 20) (f21 : 0 ≤ n9) (f22 : n9 = hV H1 (n5).toNat 64) (f23 : hUpd H2 H1 n8 n9 n3) (f24 : n10 = 330) (f25 : n10 = hV H2 (n5).toNat 68) (f26 : n11 ≤ 20) (f27 : 0 ≤ n11) (f28 : n11 = hV H2 (n5).toNat 64) (f29 : hUpd H3 H2 n10 n11 n2) (f30 : n12 = 331) (f31 : n12 = hV H3 (n5).toNat 69) (f32 : n13 ≤ 20) (f33 : 0 ≤ n13) (f34 : n13 = hV H3 (n5).toNat 64) (f35 : hUpd H4 H3 n12 n13 n1) (f36 : n14 = 332) (f37 : n14 = hV H4 (n5).toNat 70) (f38 : n15 ≤ 20) (f39 : 0 ≤ n15) (f40 : n15 = hV H4 (n5).toNat 64) (f41 : hUpd H5 H4 n14 n15 n0) (f42 : n16 = 334) (f43 : n16 = hV H5 (n5).toNat 72) (f44 : n17 ≤ 20) (f45 : 0 ≤ n17) (f46 : n17 = hV H5 (n5).toNat 64) (f47 : n18 = 0) (f48 : hUpd H6 H5 n16 n17 n18) (f49 : n19 = 335) (f50 : n19 = hV H6 (n5).toNat 73) (f51 : n20 ≤ 20) (f52 : 0 ≤ n20) (f53 : n20 = hV H6 (n5).toNat 64) (f54 : n21 = (-1)) (f55 : hUpd H7 H6 n19 n20 n21) (f56 : n22 = 336) (f57 : n22 = hV H7 (n5).toNat 74) (f58 : n23 ≤ 20) (f59 : 0 ≤ n23) (f60 : n23 = hV H7 (n5).toNat 64) (f61 : n24 = (-1)) (f62 : hUpd H8 H7 n22 n23 n24) (f63 : n25 = 338) (f64 : n25 = hV H8 (n5).toNat 76) (f65 : n26 ≤ 20) (f66 : 0 ≤ n26) (f67 : n26 = hV H8 (n5).toNat 64) (f68 : n27 = 0) (f69 : hUpd H9 H8 n25 n26 n27) (f70 : n28 ≤ 2147483647) (f71 : 0 ≤ n28) (f72 : n28 = hV H9 (n5).toNat 65) (f73 : n29 = 1) (f74 : n30 = w32 (n28 + n29)) (f75 : n31 = 65) (f76 : hUpd H10 H9 n5 n31 n30) (f77 : n32 ≤ 20) (f78 : 0 ≤ n32) (f79 : n32 = hV H10 (n5).toNat 64) (f80 : n33 ≤ 2147483647) (f81 : 0 ≤ n33) (f82 : n33 = hV H10 (n5).toNat 65) : 0 ≤ n32 ∧ n32 < 20 := by
  unfold preb_252v at f11
  have e0 : n7 = hV H0 285 64 := (by rw [f10] at f16; exact f16 : n7 = hV H0 285 64)
  have e1 : hV H1 285 64 = hV H0 285 64 := uPlace f17 _ _ (iS (show n6 = ((328 : Nat) : Int) from f12) rfl)
  have e2 : n9 = hV H0 285 64 := (by rw [f10] at f22; exact f22 : n9 = hV H1 285 64).trans (e1)
  have e3 : hV H2 285 64 = hV H1 285 64 := uPlace f23 _ _ (iS (show n8 = ((329 : Nat) : Int) from f18) rfl)
  have e4 : n11 = hV H0 285 64 := (by rw [f10] at f28; exact f28 : n11 = hV H2 285 64).trans ((e3).trans e1)
  have e5 : hV H3 285 64 = hV H2 285 64 := uPlace f29 _ _ (iS (show n10 = ((330 : Nat) : Int) from f24) rfl)
  have e6 : n13 = hV H0 285 64 := (by rw [f10] at f34; exact f34 : n13 = hV H3 285 64).trans ((e5).trans ((e3).trans e1))
  have e7 : hV H4 285 64 = hV H3 285 64 := uPlace f35 _ _ (iS (show n12 = ((331 : Nat) : Int) from f30) rfl)
  have e8 : n15 = hV H0 285 64 := (by rw [f10] at f40; exact f40 : n15 = hV H4 285 64).trans ((e7).trans ((e5).trans ((e3).trans e1)))
  have e9 : hV H5 285 64 = hV H4 285 64 := uPlace f41 _ _ (iS (show n14 = ((332 : Nat) : Int) from f36) rfl)
  have e10 : n17 = hV H0 285 64 := (by rw [f10] at f46; exact f46 : n17 = hV H5 285 64).trans ((e9).trans ((e7).trans ((e5).trans ((e3).trans e1))))
  have e11 : hV H6 285 64 = hV H5 285 64 := uPlace f48 _ _ (iS (show n16 = ((334 : Nat) : Int) from f42) rfl)
  have e12 : n20 = hV H0 285 64 := (by rw [f10] at f53; exact f53 : n20 = hV H6 285 64).trans ((e11).trans ((e9).trans ((e7).trans ((e5).trans ((e3).trans e1)))))
  have e13 : hV H7 285 64 = hV H6 285 64 := uPlace f55 _ _ (iS (show n19 = ((335 : Nat) : Int) from f49) rfl)
  have e14 : n23 = hV H0 285 64 := (by rw [f10] at f60; exact f60 : n23 = hV H7 285 64).trans ((e13).trans ((e11).trans ((e9).trans ((e7).trans ((e5).trans ((e3).trans e1))))))
  have e15 : hV H8 285 64 = hV H7 285 64 := uPlace f62 _ _ (iS (show n22 = ((336 : Nat) : Int) from f56) rfl)
  have e16 : n26 = hV H0 285 64 := (by rw [f10] at f67; exact f67 : n26 = hV H8 285 64).trans ((e15).trans ((e13).trans ((e11).trans ((e9).trans ((e7).trans ((e5).trans ((e3).trans e1)))))))
  have e17 : hV H9 285 65 = hV H8 285 65 := uPlace f69 _ _ (iS (show n25 = ((338 : Nat) : Int) from f63) rfl)
  have e18 : hV H8 285 65 = hV H7 285 65 := uPlace f62 _ _ (iS (show n22 = ((336 : Nat) : Int) from f56) rfl)
  have e19 : hV H7 285 65 = hV H6 285 65 := uPlace f55 _ _ (iS (show n19 = ((335 : Nat) : Int) from f49) rfl)
  have e20 : hV H6 285 65 = hV H5 285 65 := uPlace f48 _ _ (iS (show n16 = ((334 : Nat) : Int) from f42) rfl)
  have e21 : hV H5 285 65 = hV H4 285 65 := uPlace f41 _ _ (iS (show n14 = ((332 : Nat) : Int) from f36) rfl)
  have e22 : hV H4 285 65 = hV H3 285 65 := uPlace f35 _ _ (iS (show n12 = ((331 : Nat) : Int) from f30) rfl)
  have e23 : hV H3 285 65 = hV H2 285 65 := uPlace f29 _ _ (iS (show n10 = ((330 : Nat) : Int) from f24) rfl)
  have e24 : hV H2 285 65 = hV H1 285 65 := uPlace f23 _ _ (iS (show n8 = ((329 : Nat) : Int) from f18) rfl)
  have e25 : hV H1 285 65 = hV H0 285 65 := uPlace f17 _ _ (iS (show n6 = ((328 : Nat) : Int) from f12) rfl)
  have e26 : n28 = hV H0 285 65 := (by rw [f10] at f72; exact f72 : n28 = hV H9 285 65).trans ((e17).trans ((e18).trans ((e19).trans ((e20).trans ((e21).trans ((e22).trans ((e23).trans ((e24).trans e25))))))))
  have e27 : hV H10 285 64 = hV H9 285 64 := uSlot f76 _ _ (iS (show n31 = ((65 : Nat) : Int) from f75) rfl)
  have e28 : hV H9 285 64 = hV H8 285 64 := uPlace f69 _ _ (iS (show n25 = ((338 : Nat) : Int) from f63) rfl)
  have e29 : n32 = hV H0 285 64 := (by rw [f10] at f79; exact f79 : n32 = hV H10 285 64).trans ((e27).trans ((e28).trans ((e15).trans ((e13).trans ((e11).trans ((e9).trans ((e7).trans ((e5).trans ((e3).trans e1)))))))))
  have e30 : hV H10 285 65 = n30 := uSame f76 _ _ f10.symm f75.symm
  have e31 : n33 = n30 := (by rw [f10] at f82; exact f82 : n33 = hV H10 285 65).trans (e30)
  have e32 : (0 : Int) ≤ hV H0 285 64 ∧ hV H0 285 64 ≤ 20 := f11.1 285 64 _ _ (by decide +kernel)
  have e33 : (0 : Int) ≤ hV H0 285 65 ∧ hV H0 285 65 ≤ 2147483647 := f11.1 285 65 _ _ (by decide +kernel)
  have p0 := f11.2.1
  have p1 := f11.2.2.1
  have p2 := f11.2.2.2.1
  have p3 := f11.2.2.2.2.1
  have p4 := f11.2.2.2.2.2.1
  have p5 := f11.2.2.2.2.2.2.1
  have p6 := f11.2.2.2.2.2.2.2.1
  have p7 := f11.2.2.2.2.2.2.2.2
  clear f13 f16 f19 f22 f25 f28 f31 f34 f37 f40 f43 f46 f50 f53 f57 f60 f64 f67 f72 f79 f82 e1 e3 e5 e7 e9 e11 e13 e15 e17 e18 e19 e20 e21 e22 e23 e24 e25 e27 e28
  subst e0
  subst e2
  subst e4
  subst e6
  subst e8
  subst e10
  subst e12
  subst e14
  subst e16
  subst e26
  subst e29
  unfold w32 at *
  try (have ix0 : n30 = hV H0 285 65 + 1 := (by omega); subst ix0)
  omega
def g_252v_s_11 : vG := ([(20, [34, 0], [10], 65), (90, [34], [], 0), (91, [34], [], 2147483647), (20, [33, 0], [10], 64), (90, [33], [], 0), (91, [33], [], 20), (80, [0, 31, 30], [10, 9], 0), (0, [31], [], 65), (1, [30, 28, 29], [], 0), (0, [29], [], 1), (20, [28, 0], [9], 65), (90, [28], [], 0), (91, [28], [], 2147483647), (80, [25, 26, 27], [9, 8], 0), (0, [27], [], 0), (20, [26, 0], [8], 64), (90, [26], [], 0), (91, [26], [], 20), (20, [25, 0], [8], 76), (0, [25], [], 338), (80, [22, 23, 24], [8, 7], 0), (0, [24], [], -1), (20, [23, 0], [7], 64), (90, [23], [], 0), (91, [23], [], 20), (20, [22, 0], [7], 74), (0, [22], [], 336), (80, [19, 20, 21], [7, 6], 0), (0, [21], [], -1), (20, [20, 0], [6], 64), (90, [20], [], 0), (91, [20], [], 20), (20, [19, 0], [6], 73), (0, [19], [], 335), (80, [16, 17, 18], [6, 5], 0), (0, [18], [], 0), (20, [17, 0], [5], 64), (90, [17], [], 0), (91, [17], [], 20), (20, [16, 0], [5], 72), (0, [16], [], 334), (80, [14, 15, 5], [5, 4], 0), (20, [15, 0], [4], 64), (90, [15], [], 0), (91, [15], [], 20), (20, [14, 0], [4], 70), (0, [14], [], 332), (80, [12, 13, 4], [4, 3], 0), (20, [13, 0], [3], 64), (90, [13], [], 0), (91, [13], [], 20), (20, [12, 0], [3], 69), (0, [12], [], 331), (80, [10, 11, 3], [3, 2], 0), (20, [11, 0], [2], 64), (90, [11], [], 0), (91, [11], [], 20), (20, [10, 0], [2], 68), (0, [10], [], 330), (80, [8, 9, 2], [2, 1], 0), (20, [9, 0], [1], 64), (90, [9], [], 0), (91, [9], [], 20), (20, [8, 0], [1], 67), (0, [8], [], 329), (80, [6, 7, 1], [1, 0], 0), (20, [7, 0], [0], 64), (90, [7], [], 0), (91, [7], [], 20), (20, [6, 0], [0], 66), (0, [6], [], 328), (6000, [0, 1, 2, 3, 4, 5], [0], 0), (0, [0], [], 285), (90, [1], [], 0), (91, [1], [], 6), (90, [2], [], -1), (91, [2], [], 240), (90, [3], [], -2147483648), (91, [3], [], 2147483647), (90, [4], [], -2147483648), (91, [4], [], 2147483647), (90, [5], [], -1), (91, [5], [], 19)], (70, [33], [], 20))
theorem c_252v_s_11 : vOkm T0 (eP e_252v L_252v A_252v mu_252v none) 6 g_252v_s_11 := vOk_in fun ρ η h => by
  obtain ⟨f0, f1, f2, f3, f4, f5, f6, f7, f8, f9, f10, f11, f12, f13, f14, f15, f16, f17, f18, f19, f20, f21, f22, f23, f24, f25, f26, f27, f28, f29, f30, f31, f32, f33, f34, f35, f36, f37, f38, f39, f40, f41, f42, f43, f44, f45, f46, f47, f48, f49, f50, f51, f52, f53, f54, f55, f56, f57, f58, f59, f60, f61, f62, f63, f64, f65, f66, f67, f68, f69, f70, f71, f72, f73, f74, f75, f76, f77, f78, f79, f80, f81, f82, _⟩ := h
  exact q_252v_11 (n0 := ρ 5) (n1 := ρ 4) (n2 := ρ 3) (n3 := ρ 2) (n4 := ρ 1) (n5 := ρ 0) (n6 := ρ 6) (n7 := ρ 7) (n8 := ρ 8) (n9 := ρ 9) (n10 := ρ 10) (n11 := ρ 11) (n12 := ρ 12) (n13 := ρ 13) (n14 := ρ 14) (n15 := ρ 15) (n16 := ρ 16) (n17 := ρ 17) (n18 := ρ 18) (n19 := ρ 19) (n20 := ρ 20) (n21 := ρ 21) (n22 := ρ 22) (n23 := ρ 23) (n24 := ρ 24) (n25 := ρ 25) (n26 := ρ 26) (n27 := ρ 27) (n28 := ρ 28) (n29 := ρ 29) (n30 := ρ 30) (n31 := ρ 31) (n32 := ρ 33) (n33 := ρ 34) (H0 := η 0) (H1 := η 1) (H2 := η 2) (H3 := η 3) (H4 := η 4) (H5 := η 5) (H6 := η 6) (H7 := η 7) (H8 := η 8) (H9 := η 9) (H10 := η 10) f82 f81 f80 f79 f78 f77 f76 f75 f74 f73 f72 f71 f70 f69 f68 f67 f66 f65 f64 f63 f62 f61 f60 f59 f58 f57 f56 f55 f54 f53 f52 f51 f50 f49 f48 f47 f46 f45 f44 f43 f42 f41 f40 f39 f38 f37 f36 f35 f34 f33 f32 f31 f30 f29 f28 f27 f26 f25 f24 f23 f22 f21 f20 f19 f18 f17 f16 f15 f14 f13 f12 f11 f10 f9 f8 f7 f6 f5 f4 f3 f2 f1 f0
theorem q_252v_12 {n0 n1 n2 n3 n4 n5 n6 n7 n8 n9 n10 n11 n12 n13 n14 n15 n16 n17 n18 n19 n20 n21 n22 n23 n24 n25 n26 n27 n28 n29 n30 n31 n32 n33 n34 n35 n36 n37 : Int} {H0 H1 H2 H3 H4 H5 H6 H7 H8 H9 H10 H11 : gH} (f0 : n0 ≤ 19) (f1 : (-1) ≤ n0) (f2 : n1 ≤ 2147483647) (f3 : (-2147483648) ≤ n1) (f4 : n2 ≤ 2147483647) (f5 : (-2147483648) ≤ n2) (f6 : n3 ≤ 240) (f7 : (-1) ≤ n3) (f8 : n4 ≤ 6) (f9 : 0 ≤ n4) (f10 : n5 = 285) (f11 : hWt T0 H0 ∧ preb_252v n5 n4 n3 n2 n1 n0 H0) (f12 : n6 = 328) (f13 : n6 = hV H0 (n5).toNat 66) (f14 : n7 ≤ 20) (f15 : 0 ≤ n7) (f16 : n7 = hV H0 (n5).toNat 64) (f17 : hUpd H1 H0 n6 n7 n4) (f18 : n8 = 329) (f19 : n8 = hV H1 (n5).toNat 67) (f20 : n9 ≤ 20) (f21 : 0 ≤ n9) (f22 : n9 = hV H1 (n5).toNat 64) (f23 : hUpd H2 H1 n8 n9 n3) (f24 : n10 = 330) (f25 : n10 = hV H2 (n5).toNat 68) (f26 : n11 ≤ 20) (f27 : 0 ≤ n11) (f28 : n11 = hV H2 (n5).toNat 64) (f29 : hUpd H3 H2 n10 n11 n2) (f30 : n12 = 331) (f31 : n12 = hV H3 (n5).toNat 69) (f32 : n13 ≤ 20) (f33 : 0 ≤ n13) (f34 : n13 = hV H3 (n5).toNat 64) (f35 : hUpd H4 H3 n12 n13 n1) (f36 : n14 = 332) (f37 : n14 = hV H4 (n5).toNat 70) (f38 : n15 ≤ 20) (f39 : 0 ≤ n15) (f40 : n15 = hV H4 (n5).toNat 64) (f41 : hUpd H5 H4 n14 n15 n0) (f42 : n16 = 334) (f43 : n16 = hV H5 (n5).toNat 72) (f44 : n17 ≤ 20) (f45 : 0 ≤ n17) (f46 : n17 = hV H5 (n5).toNat 64) (f47 : n18 = 0) (f48 : hUpd H6 H5 n16 n17 n18) (f49 : n19 = 335) (f50 : n19 = hV H6 (n5).toNat 73) (f51 : n20 ≤ 20) (f52 : 0 ≤ n20) (f53 : n20 = hV H6 (n5).toNat 64) (f54 : n21 = (-1)) (f55 : hUpd H7 H6 n19 n20 n21) (f56 : n22 = 336) (f57 : n22 = hV H7 (n5).toNat 74) (f58 : n23 ≤ 20) (f59 : 0 ≤ n23) (f60 : n23 = hV H7 (n5).toNat 64) (f61 : n24 = (-1)) (f62 : hUpd H8 H7 n22 n23 n24) (f63 : n25 = 338) (f64 : n25 = hV H8 (n5).toNat 76) (f65 : n26 ≤ 20) (f66 : 0 ≤ n26) (f67 : n26 = hV H8 (n5).toNat 64) (f68 : n27 = 0) (f69 : hUpd H9 H8 n25 n26 n27) (f70 : n28 ≤ 2147483647) (f71 : 0 ≤ n28) (f72 : n28 = hV H9 (n5).toNat 65) (f73 : n29 = 1) (f74 : n30 = w32 (n28 + n29)) (f75 : n31 = 65) (f76 : hUpd H10 H9 n5 n31 n30) (f77 : n32 = 333) (f78 : n32 = hV H10 (n5).toNat 71) (f79 : n33 ≤ 20) (f80 : 0 ≤ n33) (f81 : n33 = hV H10 (n5).toNat 64) (f82 : n34 ≤ 2147483647) (f83 : 0 ≤ n34) (f84 : n34 = hV H10 (n5).toNat 65) (f85 : hUpd H11 H10 n32 n33 n34) (f86 : n35 ≤ 20) (f87 : 0 ≤ n35) (f88 : n35 = hV H11 (n5).toNat 64) (f89 : n36 = 1) (f90 : n37 = w32 (n35 + n36)) : 0 ≤ n37 := by
  unfold preb_252v at f11
  have e0 : n7 = hV H0 285 64 := (by rw [f10] at f16; exact f16 : n7 = hV H0 285 64)
  have e1 : hV H1 285 64 = hV H0 285 64 := uPlace f17 _ _ (iS (show n6 = ((328 : Nat) : Int) from f12) rfl)
  have e2 : n9 = hV H0 285 64 := (by rw [f10] at f22; exact f22 : n9 = hV H1 285 64).trans (e1)
  have e3 : hV H2 285 64 = hV H1 285 64 := uPlace f23 _ _ (iS (show n8 = ((329 : Nat) : Int) from f18) rfl)
  have e4 : n11 = hV H0 285 64 := (by rw [f10] at f28; exact f28 : n11 = hV H2 285 64).trans ((e3).trans e1)
  have e5 : hV H3 285 64 = hV H2 285 64 := uPlace f29 _ _ (iS (show n10 = ((330 : Nat) : Int) from f24) rfl)
  have e6 : n13 = hV H0 285 64 := (by rw [f10] at f34; exact f34 : n13 = hV H3 285 64).trans ((e5).trans ((e3).trans e1))
  have e7 : hV H4 285 64 = hV H3 285 64 := uPlace f35 _ _ (iS (show n12 = ((331 : Nat) : Int) from f30) rfl)
  have e8 : n15 = hV H0 285 64 := (by rw [f10] at f40; exact f40 : n15 = hV H4 285 64).trans ((e7).trans ((e5).trans ((e3).trans e1)))
  have e9 : hV H5 285 64 = hV H4 285 64 := uPlace f41 _ _ (iS (show n14 = ((332 : Nat) : Int) from f36) rfl)
  have e10 : n17 = hV H0 285 64 := (by rw [f10] at f46; exact f46 : n17 = hV H5 285 64).trans ((e9).trans ((e7).trans ((e5).trans ((e3).trans e1))))
  have e11 : hV H6 285 64 = hV H5 285 64 := uPlace f48 _ _ (iS (show n16 = ((334 : Nat) : Int) from f42) rfl)
  have e12 : n20 = hV H0 285 64 := (by rw [f10] at f53; exact f53 : n20 = hV H6 285 64).trans ((e11).trans ((e9).trans ((e7).trans ((e5).trans ((e3).trans e1)))))
  have e13 : hV H7 285 64 = hV H6 285 64 := uPlace f55 _ _ (iS (show n19 = ((335 : Nat) : Int) from f49) rfl)
  have e14 : n23 = hV H0 285 64 := (by rw [f10] at f60; exact f60 : n23 = hV H7 285 64).trans ((e13).trans ((e11).trans ((e9).trans ((e7).trans ((e5).trans ((e3).trans e1))))))
  have e15 : hV H8 285 64 = hV H7 285 64 := uPlace f62 _ _ (iS (show n22 = ((336 : Nat) : Int) from f56) rfl)
  have e16 : n26 = hV H0 285 64 := (by rw [f10] at f67; exact f67 : n26 = hV H8 285 64).trans ((e15).trans ((e13).trans ((e11).trans ((e9).trans ((e7).trans ((e5).trans ((e3).trans e1)))))))
  have e17 : hV H9 285 65 = hV H8 285 65 := uPlace f69 _ _ (iS (show n25 = ((338 : Nat) : Int) from f63) rfl)
  have e18 : hV H8 285 65 = hV H7 285 65 := uPlace f62 _ _ (iS (show n22 = ((336 : Nat) : Int) from f56) rfl)
  have e19 : hV H7 285 65 = hV H6 285 65 := uPlace f55 _ _ (iS (show n19 = ((335 : Nat) : Int) from f49) rfl)
  have e20 : hV H6 285 65 = hV H5 285 65 := uPlace f48 _ _ (iS (show n16 = ((334 : Nat) : Int) from f42) rfl)
  have e21 : hV H5 285 65 = hV H4 285 65 := uPlace f41 _ _ (iS (show n14 = ((332 : Nat) : Int) from f36) rfl)
  have e22 : hV H4 285 65 = hV H3 285 65 := uPlace f35 _ _ (iS (show n12 = ((331 : Nat) : Int) from f30) rfl)
  have e23 : hV H3 285 65 = hV H2 285 65 := uPlace f29 _ _ (iS (show n10 = ((330 : Nat) : Int) from f24) rfl)
  have e24 : hV H2 285 65 = hV H1 285 65 := uPlace f23 _ _ (iS (show n8 = ((329 : Nat) : Int) from f18) rfl)
  have e25 : hV H1 285 65 = hV H0 285 65 := uPlace f17 _ _ (iS (show n6 = ((328 : Nat) : Int) from f12) rfl)
  have e26 : n28 = hV H0 285 65 := (by rw [f10] at f72; exact f72 : n28 = hV H9 285 65).trans ((e17).trans ((e18).trans ((e19).trans ((e20).trans ((e21).trans ((e22).trans ((e23).trans ((e24).trans e25))))))))
  have e27 : hV H10 285 64 = hV H9 285 64 := uSlot f76 _ _ (iS (show n31 = ((65 : Nat) : Int) from f75) rfl)
  have e28 : hV H9 285 64 = hV H8 285 64 := uPlace f69 _ _ (iS (show n25 = ((338 : Nat) : Int) from f63) rfl)
  have e29 : n33 = hV H0 285 64 := (by rw [f10] at f81; exact f81 : n33 = hV H10 285 64).trans ((e27).trans ((e28).trans ((e15).trans ((e13).trans ((e11).trans ((e9).trans ((e7).trans ((e5).trans ((e3).trans e1)))))))))
  have e30 : hV H10 285 65 = n30 := uSame f76 _ _ f10.symm f75.symm
  have e31 : n34 = n30 := (by rw [f10] at f84; exact f84 : n34 = hV H10 285 65).trans (e30)
  have e32 : hV H11 285 64 = hV H10 285 64 := uPlace f85 _ _ (iS (show n32 = ((333 : Nat) : Int) from f77) rfl)
  have e33 : n35 = hV H0 285 64 := (by rw [f10] at f88; exact f88 : n35 = hV H11 285 64).trans ((e32).trans ((e27).trans ((e28).trans ((e15).trans ((e13).trans ((e11).trans ((e9).trans ((e7).trans ((e5).trans ((e3).trans e1))))))))))
  have e34 : (0 : Int) ≤ hV H0 285 64 ∧ hV H0 285 64 ≤ 20 := f11.1 285 64 _ _ (by decide +kernel)
  have e35 : (0 : Int) ≤ hV H0 285 65 ∧ hV H0 285 65 ≤ 2147483647 := f11.1 285 65 _ _ (by decide +kernel)
  have p0 := f11.2.1
  have p1 := f11.2.2.1
  have p2 := f11.2.2.2.1
  have p3 := f11.2.2.2.2.1
  have p4 := f11.2.2.2.2.2.1
  have p5 := f11.2.2.2.2.2.2.1
  have p6 := f11.2.2.2.2.2.2.2.1
  have p7 := f11.2.2.2.2.2.2.2.2
  clear f13 f16 f19 f22 f25 f28 f31 f34 f37 f40 f43 f46 f50 f53 f57 f60 f64 f67 f72 f78 f81 f84 f88 e1 e3 e5 e7 e9 e11 e13 e15 e17 e18 e19 e20 e21 e22 e23 e24 e25 e27 e28 e32
  subst e0
  subst e2
  subst e4
  subst e6
  subst e8
  subst e10
  subst e12
  subst e14
  subst e16
  subst e26
  subst e29
  subst e33
  unfold w32 at *
  try (have ix0 : n30 = hV H0 285 65 + 1 := (by omega); subst ix0)
  try (have ix1 : n37 = hV H0 285 64 + 1 := (by omega); subst ix1)
  omega
def g_252v_s_12 : vG := ([(1, [37, 35, 36], [], 0), (0, [36], [], 1), (20, [35, 0], [11], 64), (90, [35], [], 0), (91, [35], [], 20), (80, [32, 33, 34], [11, 10], 0), (20, [34, 0], [10], 65), (90, [34], [], 0), (91, [34], [], 2147483647), (20, [33, 0], [10], 64), (90, [33], [], 0), (91, [33], [], 20), (20, [32, 0], [10], 71), (0, [32], [], 333), (80, [0, 31, 30], [10, 9], 0), (0, [31], [], 65), (1, [30, 28, 29], [], 0), (0, [29], [], 1), (20, [28, 0], [9], 65), (90, [28], [], 0), (91, [28], [], 2147483647), (80, [25, 26, 27], [9, 8], 0), (0, [27], [], 0), (20, [26, 0], [8], 64), (90, [26], [], 0), (91, [26], [], 20), (20, [25, 0], [8], 76), (0, [25], [], 338), (80, [22, 23, 24], [8, 7], 0), (0, [24], [], -1), (20, [23, 0], [7], 64), (90, [23], [], 0), (91, [23], [], 20), (20, [22, 0], [7], 74), (0, [22], [], 336), (80, [19, 20, 21], [7, 6], 0), (0, [21], [], -1), (20, [20, 0], [6], 64), (90, [20], [], 0), (91, [20], [], 20), (20, [19, 0], [6], 73), (0, [19], [], 335), (80, [16, 17, 18], [6, 5], 0), (0, [18], [], 0), (20, [17, 0], [5], 64), (90, [17], [], 0), (91, [17], [], 20), (20, [16, 0], [5], 72), (0, [16], [], 334), (80, [14, 15, 5], [5, 4], 0), (20, [15, 0], [4], 64), (90, [15], [], 0), (91, [15], [], 20), (20, [14, 0], [4], 70), (0, [14], [], 332), (80, [12, 13, 4], [4, 3], 0), (20, [13, 0], [3], 64), (90, [13], [], 0), (91, [13], [], 20), (20, [12, 0], [3], 69), (0, [12], [], 331), (80, [10, 11, 3], [3, 2], 0), (20, [11, 0], [2], 64), (90, [11], [], 0), (91, [11], [], 20), (20, [10, 0], [2], 68), (0, [10], [], 330), (80, [8, 9, 2], [2, 1], 0), (20, [9, 0], [1], 64), (90, [9], [], 0), (91, [9], [], 20), (20, [8, 0], [1], 67), (0, [8], [], 329), (80, [6, 7, 1], [1, 0], 0), (20, [7, 0], [0], 64), (90, [7], [], 0), (91, [7], [], 20), (20, [6, 0], [0], 66), (0, [6], [], 328), (6000, [0, 1, 2, 3, 4, 5], [0], 0), (0, [0], [], 285), (90, [1], [], 0), (91, [1], [], 6), (90, [2], [], -1), (91, [2], [], 240), (90, [3], [], -2147483648), (91, [3], [], 2147483647), (90, [4], [], -2147483648), (91, [4], [], 2147483647), (90, [5], [], -1), (91, [5], [], 19)], (90, [37], [], 0))
theorem c_252v_s_12 : vOkm T0 (eP e_252v L_252v A_252v mu_252v none) 6 g_252v_s_12 := vOk_in fun ρ η h => by
  obtain ⟨f0, f1, f2, f3, f4, f5, f6, f7, f8, f9, f10, f11, f12, f13, f14, f15, f16, f17, f18, f19, f20, f21, f22, f23, f24, f25, f26, f27, f28, f29, f30, f31, f32, f33, f34, f35, f36, f37, f38, f39, f40, f41, f42, f43, f44, f45, f46, f47, f48, f49, f50, f51, f52, f53, f54, f55, f56, f57, f58, f59, f60, f61, f62, f63, f64, f65, f66, f67, f68, f69, f70, f71, f72, f73, f74, f75, f76, f77, f78, f79, f80, f81, f82, f83, f84, f85, f86, f87, f88, f89, f90, _⟩ := h
  exact q_252v_12 (n0 := ρ 5) (n1 := ρ 4) (n2 := ρ 3) (n3 := ρ 2) (n4 := ρ 1) (n5 := ρ 0) (n6 := ρ 6) (n7 := ρ 7) (n8 := ρ 8) (n9 := ρ 9) (n10 := ρ 10) (n11 := ρ 11) (n12 := ρ 12) (n13 := ρ 13) (n14 := ρ 14) (n15 := ρ 15) (n16 := ρ 16) (n17 := ρ 17) (n18 := ρ 18) (n19 := ρ 19) (n20 := ρ 20) (n21 := ρ 21) (n22 := ρ 22) (n23 := ρ 23) (n24 := ρ 24) (n25 := ρ 25) (n26 := ρ 26) (n27 := ρ 27) (n28 := ρ 28) (n29 := ρ 29) (n30 := ρ 30) (n31 := ρ 31) (n32 := ρ 32) (n33 := ρ 33) (n34 := ρ 34) (n35 := ρ 35) (n36 := ρ 36) (n37 := ρ 37) (H0 := η 0) (H1 := η 1) (H2 := η 2) (H3 := η 3) (H4 := η 4) (H5 := η 5) (H6 := η 6) (H7 := η 7) (H8 := η 8) (H9 := η 9) (H10 := η 10) (H11 := η 11) f90 f89 f88 f87 f86 f85 f84 f83 f82 f81 f80 f79 f78 f77 f76 f75 f74 f73 f72 f71 f70 f69 f68 f67 f66 f65 f64 f63 f62 f61 f60 f59 f58 f57 f56 f55 f54 f53 f52 f51 f50 f49 f48 f47 f46 f45 f44 f43 f42 f41 f40 f39 f38 f37 f36 f35 f34 f33 f32 f31 f30 f29 f28 f27 f26 f25 f24 f23 f22 f21 f20 f19 f18 f17 f16 f15 f14 f13 f12 f11 f10 f9 f8 f7 f6 f5 f4 f3 f2 f1 f0
theorem q_252v_13 {n0 n1 n2 n3 n4 n5 n6 n7 n8 n9 n10 n11 n12 n13 n14 n15 n16 n17 n18 n19 n20 n21 n22 n23 n24 n25 n26 n27 n28 n29 n30 n31 n32 n33 n34 n35 n36 n37 : Int} {H0 H1 H2 H3 H4 H5 H6 H7 H8 H9 H10 H11 : gH} (f0 : n0 ≤ 19) (f1 : (-1) ≤ n0) (f2 : n1 ≤ 2147483647) (f3 : (-2147483648) ≤ n1) (f4 : n2 ≤ 2147483647) (f5 : (-2147483648) ≤ n2) (f6 : n3 ≤ 240) (f7 : (-1) ≤ n3) (f8 : n4 ≤ 6) (f9 : 0 ≤ n4) (f10 : n5 = 285) (f11 : hWt T0 H0 ∧ preb_252v n5 n4 n3 n2 n1 n0 H0) (f12 : n6 = 328) (f13 : n6 = hV H0 (n5).toNat 66) (f14 : n7 ≤ 20) (f15 : 0 ≤ n7) (f16 : n7 = hV H0 (n5).toNat 64) (f17 : hUpd H1 H0 n6 n7 n4) (f18 : n8 = 329) (f19 : n8 = hV H1 (n5).toNat 67) (f20 : n9 ≤ 20) (f21 : 0 ≤ n9) (f22 : n9 = hV H1 (n5).toNat 64) (f23 : hUpd H2 H1 n8 n9 n3) (f24 : n10 = 330) (f25 : n10 = hV H2 (n5).toNat 68) (f26 : n11 ≤ 20) (f27 : 0 ≤ n11) (f28 : n11 = hV H2 (n5).toNat 64) (f29 : hUpd H3 H2 n10 n11 n2) (f30 : n12 = 331) (f31 : n12 = hV H3 (n5).toNat 69) (f32 : n13 ≤ 20) (f33 : 0 ≤ n13) (f34 : n13 = hV H3 (n5).toNat 64) (f35 : hUpd H4 H3 n12 n13 n1) (f36 : n14 = 332) (f37 : n14 = hV H4 (n5).toNat 70) (f38 : n15 ≤ 20) (f39 : 0 ≤ n15) (f40 : n15 = hV H4 (n5).toNat 64) (f41 : hUpd H5 H4 n14 n15 n0) (f42 : n16 = 334) (f43 : n16 = hV H5 (n5).toNat 72) (f44 : n17 ≤ 20) (f45 : 0 ≤ n17) (f46 : n17 = hV H5 (n5).toNat 64) (f47 : n18 = 0) (f48 : hUpd H6 H5 n16 n17 n18) (f49 : n19 = 335) (f50 : n19 = hV H6 (n5).toNat 73) (f51 : n20 ≤ 20) (f52 : 0 ≤ n20) (f53 : n20 = hV H6 (n5).toNat 64) (f54 : n21 = (-1)) (f55 : hUpd H7 H6 n19 n20 n21) (f56 : n22 = 336) (f57 : n22 = hV H7 (n5).toNat 74) (f58 : n23 ≤ 20) (f59 : 0 ≤ n23) (f60 : n23 = hV H7 (n5).toNat 64) (f61 : n24 = (-1)) (f62 : hUpd H8 H7 n22 n23 n24) (f63 : n25 = 338) (f64 : n25 = hV H8 (n5).toNat 76) (f65 : n26 ≤ 20) (f66 : 0 ≤ n26) (f67 : n26 = hV H8 (n5).toNat 64) (f68 : n27 = 0) (f69 : hUpd H9 H8 n25 n26 n27) (f70 : n28 ≤ 2147483647) (f71 : 0 ≤ n28) (f72 : n28 = hV H9 (n5).toNat 65) (f73 : n29 = 1) (f74 : n30 = w32 (n28 + n29)) (f75 : n31 = 65) (f76 : hUpd H10 H9 n5 n31 n30) (f77 : n32 = 333) (f78 : n32 = hV H10 (n5).toNat 71) (f79 : n33 ≤ 20) (f80 : 0 ≤ n33) (f81 : n33 = hV H10 (n5).toNat 64) (f82 : n34 ≤ 2147483647) (f83 : 0 ≤ n34) (f84 : n34 = hV H10 (n5).toNat 65) (f85 : hUpd H11 H10 n32 n33 n34) (f86 : n35 ≤ 20) (f87 : 0 ≤ n35) (f88 : n35 = hV H11 (n5).toNat 64) (f89 : n36 = 1) (f90 : n37 = w32 (n35 + n36)) : n37 ≤ 20 := by
  unfold preb_252v at f11
  have e0 : n7 = hV H0 285 64 := (by rw [f10] at f16; exact f16 : n7 = hV H0 285 64)
  have e1 : hV H1 285 64 = hV H0 285 64 := uPlace f17 _ _ (iS (show n6 = ((328 : Nat) : Int) from f12) rfl)
  have e2 : n9 = hV H0 285 64 := (by rw [f10] at f22; exact f22 : n9 = hV H1 285 64).trans (e1)
  have e3 : hV H2 285 64 = hV H1 285 64 := uPlace f23 _ _ (iS (show n8 = ((329 : Nat) : Int) from f18) rfl)
  have e4 : n11 = hV H0 285 64 := (by rw [f10] at f28; exact f28 : n11 = hV H2 285 64).trans ((e3).trans e1)
  have e5 : hV H3 285 64 = hV H2 285 64 := uPlace f29 _ _ (iS (show n10 = ((330 : Nat) : Int) from f24) rfl)
  have e6 : n13 = hV H0 285 64 := (by rw [f10] at f34; exact f34 : n13 = hV H3 285 64).trans ((e5).trans ((e3).trans e1))
  have e7 : hV H4 285 64 = hV H3 285 64 := uPlace f35 _ _ (iS (show n12 = ((331 : Nat) : Int) from f30) rfl)
  have e8 : n15 = hV H0 285 64 := (by rw [f10] at f40; exact f40 : n15 = hV H4 285 64).trans ((e7).trans ((e5).trans ((e3).trans e1)))
  have e9 : hV H5 285 64 = hV H4 285 64 := uPlace f41 _ _ (iS (show n14 = ((332 : Nat) : Int) from f36) rfl)
  have e10 : n17 = hV H0 285 64 := (by rw [f10] at f46; exact f46 : n17 = hV H5 285 64).trans ((e9).trans ((e7).trans ((e5).trans ((e3).trans e1))))
  have e11 : hV H6 285 64 = hV H5 285 64 := uPlace f48 _ _ (iS (show n16 = ((334 : Nat) : Int) from f42) rfl)
  have e12 : n20 = hV H0 285 64 := (by rw [f10] at f53; exact f53 : n20 = hV H6 285 64).trans ((e11).trans ((e9).trans ((e7).trans ((e5).trans ((e3).trans e1)))))
  have e13 : hV H7 285 64 = hV H6 285 64 := uPlace f55 _ _ (iS (show n19 = ((335 : Nat) : Int) from f49) rfl)
  have e14 : n23 = hV H0 285 64 := (by rw [f10] at f60; exact f60 : n23 = hV H7 285 64).trans ((e13).trans ((e11).trans ((e9).trans ((e7).trans ((e5).trans ((e3).trans e1))))))
  have e15 : hV H8 285 64 = hV H7 285 64 := uPlace f62 _ _ (iS (show n22 = ((336 : Nat) : Int) from f56) rfl)
  have e16 : n26 = hV H0 285 64 := (by rw [f10] at f67; exact f67 : n26 = hV H8 285 64).trans ((e15).trans ((e13).trans ((e11).trans ((e9).trans ((e7).trans ((e5).trans ((e3).trans e1)))))))
  have e17 : hV H9 285 65 = hV H8 285 65 := uPlace f69 _ _ (iS (show n25 = ((338 : Nat) : Int) from f63) rfl)
  have e18 : hV H8 285 65 = hV H7 285 65 := uPlace f62 _ _ (iS (show n22 = ((336 : Nat) : Int) from f56) rfl)
  have e19 : hV H7 285 65 = hV H6 285 65 := uPlace f55 _ _ (iS (show n19 = ((335 : Nat) : Int) from f49) rfl)
  have e20 : hV H6 285 65 = hV H5 285 65 := uPlace f48 _ _ (iS (show n16 = ((334 : Nat) : Int) from f42) rfl)
  have e21 : hV H5 285 65 = hV H4 285 65 := uPlace f41 _ _ (iS (show n14 = ((332 : Nat) : Int) from f36) rfl)
  have e22 : hV H4 285 65 = hV H3 285 65 := uPlace f35 _ _ (iS (show n12 = ((331 : Nat) : Int) from f30) rfl)
  have e23 : hV H3 285 65 = hV H2 285 65 := uPlace f29 _ _ (iS (show n10 = ((330 : Nat) : Int) from f24) rfl)
  have e24 : hV H2 285 65 = hV H1 285 65 := uPlace f23 _ _ (iS (show n8 = ((329 : Nat) : Int) from f18) rfl)
  have e25 : hV H1 285 65 = hV H0 285 65 := uPlace f17 _ _ (iS (show n6 = ((328 : Nat) : Int) from f12) rfl)
  have e26 : n28 = hV H0 285 65 := (by rw [f10] at f72; exact f72 : n28 = hV H9 285 65).trans ((e17).trans ((e18).trans ((e19).trans ((e20).trans ((e21).trans ((e22).trans ((e23).trans ((e24).trans e25))))))))
  have e27 : hV H10 285 64 = hV H9 285 64 := uSlot f76 _ _ (iS (show n31 = ((65 : Nat) : Int) from f75) rfl)
  have e28 : hV H9 285 64 = hV H8 285 64 := uPlace f69 _ _ (iS (show n25 = ((338 : Nat) : Int) from f63) rfl)
  have e29 : n33 = hV H0 285 64 := (by rw [f10] at f81; exact f81 : n33 = hV H10 285 64).trans ((e27).trans ((e28).trans ((e15).trans ((e13).trans ((e11).trans ((e9).trans ((e7).trans ((e5).trans ((e3).trans e1)))))))))
  have e30 : hV H10 285 65 = n30 := uSame f76 _ _ f10.symm f75.symm
  have e31 : n34 = n30 := (by rw [f10] at f84; exact f84 : n34 = hV H10 285 65).trans (e30)
  have e32 : hV H11 285 64 = hV H10 285 64 := uPlace f85 _ _ (iS (show n32 = ((333 : Nat) : Int) from f77) rfl)
  have e33 : n35 = hV H0 285 64 := (by rw [f10] at f88; exact f88 : n35 = hV H11 285 64).trans ((e32).trans ((e27).trans ((e28).trans ((e15).trans ((e13).trans ((e11).trans ((e9).trans ((e7).trans ((e5).trans ((e3).trans e1))))))))))
  have e34 : (0 : Int) ≤ hV H0 285 64 ∧ hV H0 285 64 ≤ 20 := f11.1 285 64 _ _ (by decide +kernel)
  have e35 : (0 : Int) ≤ hV H0 285 65 ∧ hV H0 285 65 ≤ 2147483647 := f11.1 285 65 _ _ (by decide +kernel)
  have p0 := f11.2.1
  have p1 := f11.2.2.1
  have p2 := f11.2.2.2.1
  have p3 := f11.2.2.2.2.1
  have p4 := f11.2.2.2.2.2.1
  have p5 := f11.2.2.2.2.2.2.1
  have p6 := f11.2.2.2.2.2.2.2.1
  have p7 := f11.2.2.2.2.2.2.2.2
  clear f13 f16 f19 f22 f25 f28 f31 f34 f37 f40 f43 f46 f50 f53 f57 f60 f64 f67 f72 f78 f81 f84 f88 e1 e3 e5 e7 e9 e11 e13 e15 e17 e18 e19 e20 e21 e22 e23 e24 e25 e27 e28 e32
  subst e0
  subst e2
  subst e4
  subst e6
  subst e8
  subst e10
  subst e12
  subst e14
  subst e16
  subst e26
  subst e29
  subst e33
  unfold w32 at *
  try (have ix0 : n30 = hV H0 285 65 + 1 := (by omega); subst ix0)
  try (have ix1 : n37 = hV H0 285 64 + 1 := (by omega); subst ix1)
  omega
def g_252v_s_13 : vG := ([(1, [37, 35, 36], [], 0), (0, [36], [], 1), (20, [35, 0], [11], 64), (90, [35], [], 0), (91, [35], [], 20), (80, [32, 33, 34], [11, 10], 0), (20, [34, 0], [10], 65), (90, [34], [], 0), (91, [34], [], 2147483647), (20, [33, 0], [10], 64), (90, [33], [], 0), (91, [33], [], 20), (20, [32, 0], [10], 71), (0, [32], [], 333), (80, [0, 31, 30], [10, 9], 0), (0, [31], [], 65), (1, [30, 28, 29], [], 0), (0, [29], [], 1), (20, [28, 0], [9], 65), (90, [28], [], 0), (91, [28], [], 2147483647), (80, [25, 26, 27], [9, 8], 0), (0, [27], [], 0), (20, [26, 0], [8], 64), (90, [26], [], 0), (91, [26], [], 20), (20, [25, 0], [8], 76), (0, [25], [], 338), (80, [22, 23, 24], [8, 7], 0), (0, [24], [], -1), (20, [23, 0], [7], 64), (90, [23], [], 0), (91, [23], [], 20), (20, [22, 0], [7], 74), (0, [22], [], 336), (80, [19, 20, 21], [7, 6], 0), (0, [21], [], -1), (20, [20, 0], [6], 64), (90, [20], [], 0), (91, [20], [], 20), (20, [19, 0], [6], 73), (0, [19], [], 335), (80, [16, 17, 18], [6, 5], 0), (0, [18], [], 0), (20, [17, 0], [5], 64), (90, [17], [], 0), (91, [17], [], 20), (20, [16, 0], [5], 72), (0, [16], [], 334), (80, [14, 15, 5], [5, 4], 0), (20, [15, 0], [4], 64), (90, [15], [], 0), (91, [15], [], 20), (20, [14, 0], [4], 70), (0, [14], [], 332), (80, [12, 13, 4], [4, 3], 0), (20, [13, 0], [3], 64), (90, [13], [], 0), (91, [13], [], 20), (20, [12, 0], [3], 69), (0, [12], [], 331), (80, [10, 11, 3], [3, 2], 0), (20, [11, 0], [2], 64), (90, [11], [], 0), (91, [11], [], 20), (20, [10, 0], [2], 68), (0, [10], [], 330), (80, [8, 9, 2], [2, 1], 0), (20, [9, 0], [1], 64), (90, [9], [], 0), (91, [9], [], 20), (20, [8, 0], [1], 67), (0, [8], [], 329), (80, [6, 7, 1], [1, 0], 0), (20, [7, 0], [0], 64), (90, [7], [], 0), (91, [7], [], 20), (20, [6, 0], [0], 66), (0, [6], [], 328), (6000, [0, 1, 2, 3, 4, 5], [0], 0), (0, [0], [], 285), (90, [1], [], 0), (91, [1], [], 6), (90, [2], [], -1), (91, [2], [], 240), (90, [3], [], -2147483648), (91, [3], [], 2147483647), (90, [4], [], -2147483648), (91, [4], [], 2147483647), (90, [5], [], -1), (91, [5], [], 19)], (91, [37], [], 20))
theorem c_252v_s_13 : vOkm T0 (eP e_252v L_252v A_252v mu_252v none) 6 g_252v_s_13 := vOk_in fun ρ η h => by
  obtain ⟨f0, f1, f2, f3, f4, f5, f6, f7, f8, f9, f10, f11, f12, f13, f14, f15, f16, f17, f18, f19, f20, f21, f22, f23, f24, f25, f26, f27, f28, f29, f30, f31, f32, f33, f34, f35, f36, f37, f38, f39, f40, f41, f42, f43, f44, f45, f46, f47, f48, f49, f50, f51, f52, f53, f54, f55, f56, f57, f58, f59, f60, f61, f62, f63, f64, f65, f66, f67, f68, f69, f70, f71, f72, f73, f74, f75, f76, f77, f78, f79, f80, f81, f82, f83, f84, f85, f86, f87, f88, f89, f90, _⟩ := h
  exact q_252v_13 (n0 := ρ 5) (n1 := ρ 4) (n2 := ρ 3) (n3 := ρ 2) (n4 := ρ 1) (n5 := ρ 0) (n6 := ρ 6) (n7 := ρ 7) (n8 := ρ 8) (n9 := ρ 9) (n10 := ρ 10) (n11 := ρ 11) (n12 := ρ 12) (n13 := ρ 13) (n14 := ρ 14) (n15 := ρ 15) (n16 := ρ 16) (n17 := ρ 17) (n18 := ρ 18) (n19 := ρ 19) (n20 := ρ 20) (n21 := ρ 21) (n22 := ρ 22) (n23 := ρ 23) (n24 := ρ 24) (n25 := ρ 25) (n26 := ρ 26) (n27 := ρ 27) (n28 := ρ 28) (n29 := ρ 29) (n30 := ρ 30) (n31 := ρ 31) (n32 := ρ 32) (n33 := ρ 33) (n34 := ρ 34) (n35 := ρ 35) (n36 := ρ 36) (n37 := ρ 37) (H0 := η 0) (H1 := η 1) (H2 := η 2) (H3 := η 3) (H4 := η 4) (H5 := η 5) (H6 := η 6) (H7 := η 7) (H8 := η 8) (H9 := η 9) (H10 := η 10) (H11 := η 11) f90 f89 f88 f87 f86 f85 f84 f83 f82 f81 f80 f79 f78 f77 f76 f75 f74 f73 f72 f71 f70 f69 f68 f67 f66 f65 f64 f63 f62 f61 f60 f59 f58 f57 f56 f55 f54 f53 f52 f51 f50 f49 f48 f47 f46 f45 f44 f43 f42 f41 f40 f39 f38 f37 f36 f35 f34 f33 f32 f31 f30 f29 f28 f27 f26 f25 f24 f23 f22 f21 f20 f19 f18 f17 f16 f15 f14 f13 f12 f11 f10 f9 f8 f7 f6 f5 f4 f3 f2 f1 f0
theorem q_252v_14 {n0 n1 n2 n3 n4 n5 n6 n7 n8 n9 n10 n11 n12 n13 n14 n15 n16 n17 n18 n19 n20 n21 n22 n23 n24 n25 n26 n27 n28 n29 n30 n31 n32 n33 n34 n35 n36 n37 n38 n39 n40 n41 : Int} {H0 H1 H2 H3 H4 H5 H6 H7 H8 H9 H10 H11 H12 : gH} (f0 : n0 ≤ 19) (f1 : (-1) ≤ n0) (f2 : n1 ≤ 2147483647) (f3 : (-2147483648) ≤ n1) (f4 : n2 ≤ 2147483647) (f5 : (-2147483648) ≤ n2) (f6 : n3 ≤ 240) (f7 : (-1) ≤ n3) (f8 : n4 ≤ 6) (f9 : 0 ≤ n4) (f10 : n5 = 285) (f11 : hWt T0 H0 ∧ preb_252v n5 n4 n3 n2 n1 n0 H0) (f12 : n6 = 328) (f13 : n6 = hV H0 (n5).toNat 66) (f14 : n7 ≤ 20) (f15 : 0 ≤ n7) (f16 : n7 = hV H0 (n5).toNat 64) (f17 : hUpd H1 H0 n6 n7 n4) (f18 : n8 = 329) (f19 : n8 = hV H1 (n5).toNat 67) (f20 : n9 ≤ 20) (f21 : 0 ≤ n9) (f22 : n9 = hV H1 (n5).toNat 64) (f23 : hUpd H2 H1 n8 n9 n3) (f24 : n10 = 330) (f25 : n10 = hV H2 (n5).toNat 68) (f26 : n11 ≤ 20) (f27 : 0 ≤ n11) (f28 : n11 = hV H2 (n5).toNat 64) (f29 : hUpd H3 H2 n10 n11 n2) (f30 : n12 = 331) (f31 : n12 = hV H3 (n5).toNat 69) (f32 : n13 ≤ 20) (f33 : 0 ≤ n13) (f34 : n13 = hV H3 (n5).toNat 64) (f35 : hUpd H4 H3 n12 n13 n1) (f36 : n14 = 332) (f37 : n14 = hV H4 (n5).toNat 70) (f38 : n15 ≤ 20) (f39 : 0 ≤ n15) (f40 : n15 = hV H4 (n5).toNat 64) (f41 : hUpd H5 H4 n14 n15 n0) (f42 : n16 = 334) (f43 : n16 = hV H5 (n5).toNat 72) (f44 : n17 ≤ 20) (f45 : 0 ≤ n17) (f46 : n17 = hV H5 (n5).toNat 64) (f47 : n18 = 0) (f48 : hUpd H6 H5 n16 n17 n18) (f49 : n19 = 335) (f50 : n19 = hV H6 (n5).toNat 73) (f51 : n20 ≤ 20) (f52 : 0 ≤ n20) (f53 : n20 = hV H6 (n5).toNat 64) (f54 : n21 = (-1)) (f55 : hUpd H7 H6 n19 n20 n21) (f56 : n22 = 336) (f57 : n22 = hV H7 (n5).toNat 74) (f58 : n23 ≤ 20) (f59 : 0 ≤ n23) (f60 : n23 = hV H7 (n5).toNat 64) (f61 : n24 = (-1)) (f62 : hUpd H8 H7 n22 n23 n24) (f63 : n25 = 338) (f64 : n25 = hV H8 (n5).toNat 76) (f65 : n26 ≤ 20) (f66 : 0 ≤ n26) (f67 : n26 = hV H8 (n5).toNat 64) (f68 : n27 = 0) (f69 : hUpd H9 H8 n25 n26 n27) (f70 : n28 ≤ 2147483647) (f71 : 0 ≤ n28) (f72 : n28 = hV H9 (n5).toNat 65) (f73 : n29 = 1) (f74 : n30 = w32 (n28 + n29)) (f75 : n31 = 65) (f76 : hUpd H10 H9 n5 n31 n30) (f77 : n32 = 333) (f78 : n32 = hV H10 (n5).toNat 71) (f79 : n33 ≤ 20) (f80 : 0 ≤ n33) (f81 : n33 = hV H10 (n5).toNat 64) (f82 : n34 ≤ 2147483647) (f83 : 0 ≤ n34) (f84 : n34 = hV H10 (n5).toNat 65) (f85 : hUpd H11 H10 n32 n33 n34) (f86 : n35 ≤ 20) (f87 : 0 ≤ n35) (f88 : n35 = hV H11 (n5).toNat 64) (f89 : n36 = 1) (f90 : n37 = w32 (n35 + n36)) (f91 : n38 = 64) (f92 : hUpd H12 H11 n5 n38 n37) (f93 : n39 ≤ 20) (f94 : 0 ≤ n39) (f95 : n39 = hV H12 (n5).toNat 64) (f96 : n40 = 1) (f97 : n41 = w32 (n39 - n40)) : postb_252v n41 n5 n4 n3 n2 n1 n0 H0 H12 := by
  unfold preb_252v at f11
  unfold postb_252v
  have e0 : n7 = hV H0 285 64 := (by rw [f10] at f16; exact f16 : n7 = hV H0 285 64)
  have e1 : hV H1 285 64 = hV H0 285 64 := uPlace f17 _ _ (iS (show n6 = ((328 : Nat) : Int) from f12) rfl)
  have e2 : n9 = hV H0 285 64 := (by rw [f10] at f22; exact f22 : n9 = hV H1 285 64).trans (e1)
  have e3 : hV H2 285 64 = hV H1 285 64 := uPlace f23 _ _ (iS (show n8 = ((329 : Nat) : Int) from f18) rfl)
  have e4 : n11 = hV H0 285 64 := (by rw [f10] at f28; exact f28 : n11 = hV H2 285 64).trans ((e3).trans e1)
  have e5 : hV H3 285 64 = hV H2 285 64 := uPlace f29 _ _ (iS (show n10 = ((330 : Nat) : Int) from f24) rfl)
  have e6 : n13 = hV H0 285 64 := (by rw [f10] at f34; exact f34 : n13 = hV H3 285 64).trans ((e5).trans ((e3).trans e1))
  have e7 : hV H4 285 64 = hV H3 285 64 := uPlace f35 _ _ (iS (show n12 = ((331 : Nat) : Int) from f30) rfl)
  have e8 : n15 = hV H0 285 64 := (by rw [f10] at f40; exact f40 : n15 = hV H4 285 64).trans ((e7).trans ((e5).trans ((e3).trans e1)))
  have e9 : hV H5 285 64 = hV H4 285 64 := uPlace f41 _ _ (iS (show n14 = ((332 : Nat) : Int) from f36) rfl)
  have e10 : n17 = hV H0 285 64 := (by rw [f10] at f46; exact f46 : n17 = hV H5 285 64).trans ((e9).trans ((e7).trans ((e5).trans ((e3).trans e1))))
  have e11 : hV H6 285 64 = hV H5 285 64 := uPlace f48 _ _ (iS (show n16 = ((334 : Nat) : Int) from f42) rfl)
  have e12 : n20 = hV H0 285 64 := (by rw [f10] at f53; exact f53 : n20 = hV H6 285 64).trans ((e11).trans ((e9).trans ((e7).trans ((e5).trans ((e3).trans e1)))))
  have e13 : hV H7 285 64 = hV H6 285 64 := uPlace f55 _ _ (iS (show n19 = ((335 : Nat) : Int) from f49) rfl)
  have e14 : n23 = hV H0 285 64 := (by rw [f10] at f60; exact f60 : n23 = hV H7 285 64).trans ((e13).trans ((e11).trans ((e9).trans ((e7).trans ((e5).trans ((e3).trans e1))))))
  have e15 : hV H8 285 64 = hV H7 285 64 := uPlace f62 _ _ (iS (show n22 = ((336 : Nat) : Int) from f56) rfl)
  have e16 : n26 = hV H0 285 64 := (by rw [f10] at f67; exact f67 : n26 = hV H8 285 64).trans ((e15).trans ((e13).trans ((e11).trans ((e9).trans ((e7).trans ((e5).trans ((e3).trans e1)))))))
  have e17 : hV H9 285 65 = hV H8 285 65 := uPlace f69 _ _ (iS (show n25 = ((338 : Nat) : Int) from f63) rfl)
  have e18 : hV H8 285 65 = hV H7 285 65 := uPlace f62 _ _ (iS (show n22 = ((336 : Nat) : Int) from f56) rfl)
  have e19 : hV H7 285 65 = hV H6 285 65 := uPlace f55 _ _ (iS (show n19 = ((335 : Nat) : Int) from f49) rfl)
  have e20 : hV H6 285 65 = hV H5 285 65 := uPlace f48 _ _ (iS (show n16 = ((334 : Nat) : Int) from f42) rfl)
  have e21 : hV H5 285 65 = hV H4 285 65 := uPlace f41 _ _ (iS (show n14 = ((332 : Nat) : Int) from f36) rfl)
  have e22 : hV H4 285 65 = hV H3 285 65 := uPlace f35 _ _ (iS (show n12 = ((331 : Nat) : Int) from f30) rfl)
  have e23 : hV H3 285 65 = hV H2 285 65 := uPlace f29 _ _ (iS (show n10 = ((330 : Nat) : Int) from f24) rfl)
  have e24 : hV H2 285 65 = hV H1 285 65 := uPlace f23 _ _ (iS (show n8 = ((329 : Nat) : Int) from f18) rfl)
  have e25 : hV H1 285 65 = hV H0 285 65 := uPlace f17 _ _ (iS (show n6 = ((328 : Nat) : Int) from f12) rfl)
  have e26 : n28 = hV H0 285 65 := (by rw [f10] at f72; exact f72 : n28 = hV H9 285 65).trans ((e17).trans ((e18).trans ((e19).trans ((e20).trans ((e21).trans ((e22).trans ((e23).trans ((e24).trans e25))))))))
  have e27 : hV H10 285 64 = hV H9 285 64 := uSlot f76 _ _ (iS (show n31 = ((65 : Nat) : Int) from f75) rfl)
  have e28 : hV H9 285 64 = hV H8 285 64 := uPlace f69 _ _ (iS (show n25 = ((338 : Nat) : Int) from f63) rfl)
  have e29 : n33 = hV H0 285 64 := (by rw [f10] at f81; exact f81 : n33 = hV H10 285 64).trans ((e27).trans ((e28).trans ((e15).trans ((e13).trans ((e11).trans ((e9).trans ((e7).trans ((e5).trans ((e3).trans e1)))))))))
  have e30 : hV H10 285 65 = n30 := uSame f76 _ _ f10.symm f75.symm
  have e31 : n34 = n30 := (by rw [f10] at f84; exact f84 : n34 = hV H10 285 65).trans (e30)
  have e32 : hV H11 285 64 = hV H10 285 64 := uPlace f85 _ _ (iS (show n32 = ((333 : Nat) : Int) from f77) rfl)
  have e33 : n35 = hV H0 285 64 := (by rw [f10] at f88; exact f88 : n35 = hV H11 285 64).trans ((e32).trans ((e27).trans ((e28).trans ((e15).trans ((e13).trans ((e11).trans ((e9).trans ((e7).trans ((e5).trans ((e3).trans e1))))))))))
  have e34 : hV H12 285 64 = n37 := uSame f92 _ _ f10.symm f91.symm
  have e35 : n39 = n37 := (by rw [f10] at f95; exact f95 : n39 = hV H12 285 64).trans (e34)
  have e36 : hV H12 285 18 = hV H11 285 18 := uSlot f92 _ _ (iS (show n38 = ((64 : Nat) : Int) from f91) rfl)
  have e37 : hV H11 285 18 = hV H10 285 18 := uPlace f85 _ _ (iS (show n32 = ((333 : Nat) : Int) from f77) rfl)
  have e38 : hV H10 285 18 = hV H9 285 18 := uSlot f76 _ _ (iS (show n31 = ((65 : Nat) : Int) from f75) rfl)
  have e39 : hV H9 285 18 = hV H8 285 18 := uPlace f69 _ _ (iS (show n25 = ((338 : Nat) : Int) from f63) rfl)
  have e40 : hV H8 285 18 = hV H7 285 18 := uPlace f62 _ _ (iS (show n22 = ((336 : Nat) : Int) from f56) rfl)
  have e41 : hV H7 285 18 = hV H6 285 18 := uPlace f55 _ _ (iS (show n19 = ((335 : Nat) : Int) from f49) rfl)
  have e42 : hV H6 285 18 = hV H5 285 18 := uPlace f48 _ _ (iS (show n16 = ((334 : Nat) : Int) from f42) rfl)
  have e43 : hV H5 285 18 = hV H4 285 18 := uPlace f41 _ _ (iS (show n14 = ((332 : Nat) : Int) from f36) rfl)
  have e44 : hV H4 285 18 = hV H3 285 18 := uPlace f35 _ _ (iS (show n12 = ((331 : Nat) : Int) from f30) rfl)
  have e45 : hV H3 285 18 = hV H2 285 18 := uPlace f29 _ _ (iS (show n10 = ((330 : Nat) : Int) from f24) rfl)
  have e46 : hV H2 285 18 = hV H1 285 18 := uPlace f23 _ _ (iS (show n8 = ((329 : Nat) : Int) from f18) rfl)
  have e47 : hV H1 285 18 = hV H0 285 18 := uPlace f17 _ _ (iS (show n6 = ((328 : Nat) : Int) from f12) rfl)
  have e48 : hV H12 285 18 = hV H0 285 18 := (e36).trans ((e37).trans ((e38).trans ((e39).trans ((e40).trans ((e41).trans ((e42).trans ((e43).trans ((e44).trans ((e45).trans ((e46).trans e47))))))))))
  have e49 : hV H12 285 64 = n37 := e34
  have e50 : hV H12 285 65 = hV H11 285 65 := uSlot f92 _ _ (iS (show n38 = ((64 : Nat) : Int) from f91) rfl)
  have e51 : hV H11 285 65 = hV H10 285 65 := uPlace f85 _ _ (iS (show n32 = ((333 : Nat) : Int) from f77) rfl)
  have e52 : hV H12 285 65 = n30 := (e50).trans ((e51).trans e30)
  have e53 : hV H12 296 = hV H11 296 := uRowNe f92 _ (iS (show n5 = ((285 : Nat) : Int) from f10) rfl)
  have e54 : hV H11 296 = hV H10 296 := uRowNe f85 _ (iS (show n32 = ((333 : Nat) : Int) from f77) rfl)
  have e55 : hV H10 296 = hV H9 296 := uRowNe f76 _ (iS (show n5 = ((285 : Nat) : Int) from f10) rfl)
  have e56 : hV H9 296 = hV H8 296 := uRowNe f69 _ (iS (show n25 = ((338 : Nat) : Int) from f63) rfl)
  have e57 : hV H8 296 = hV H7 296 := uRowNe f62 _ (iS (show n22 = ((336 : Nat) : Int) from f56) rfl)
  have e58 : hV H7 296 = hV H6 296 := uRowNe f55 _ (iS (show n19 = ((335 : Nat) : Int) from f49) rfl)
  have e59 : hV H6 296 = hV H5 296 := uRowNe f48 _ (iS (show n16 = ((334 : Nat) : Int) from f42) rfl)
  have e60 : hV H5 296 = hV H4 296 := uRowNe f41 _ (iS (show n14 = ((332 : Nat) : Int) from f36) rfl)
  have e61 : hV H4 296 = hV H3 296 := uRowNe f35 _ (iS (show n12 = ((331 : Nat) : Int) from f30) rfl)
  have e62 : hV H3 296 = hV H2 296 := uRowNe f29 _ (iS (show n10 = ((330 : Nat) : Int) from f24) rfl)
  have e63 : hV H2 296 = hV H1 296 := uRowNe f23 _ (iS (show n8 = ((329 : Nat) : Int) from f18) rfl)
  have e64 : hV H1 296 = hV H0 296 := uRowNe f17 _ (iS (show n6 = ((328 : Nat) : Int) from f12) rfl)
  have e65 : hV H2 296 = hV H0 296 := e63.trans e64
  have e66 : hV H3 296 = hV H0 296 := e62.trans e65
  have e67 : hV H4 296 = hV H0 296 := e61.trans e66
  have e68 : hV H5 296 = hV H0 296 := e60.trans e67
  have e69 : hV H6 296 = hV H0 296 := e59.trans e68
  have e70 : hV H7 296 = hV H0 296 := e58.trans e69
  have e71 : hV H8 296 = hV H0 296 := e57.trans e70
  have e72 : hV H9 296 = hV H0 296 := e56.trans e71
  have e73 : hV H10 296 = hV H0 296 := e55.trans e72
  have e74 : hV H11 296 = hV H0 296 := e54.trans e73
  have e75 : hV H12 296 = hV H0 296 := e53.trans e74
  have e76 : hV H12 298 = hV H11 298 := uRowNe f92 _ (iS (show n5 = ((285 : Nat) : Int) from f10) rfl)
  have e77 : hV H11 298 = hV H10 298 := uRowNe f85 _ (iS (show n32 = ((333 : Nat) : Int) from f77) rfl)
  have e78 : hV H10 298 = hV H9 298 := uRowNe f76 _ (iS (show n5 = ((285 : Nat) : Int) from f10) rfl)
  have e79 : hV H9 298 = hV H8 298 := uRowNe f69 _ (iS (show n25 = ((338 : Nat) : Int) from f63) rfl)
  have e80 : hV H8 298 = hV H7 298 := uRowNe f62 _ (iS (show n22 = ((336 : Nat) : Int) from f56) rfl)
  have e81 : hV H7 298 = hV H6 298 := uRowNe f55 _ (iS (show n19 = ((335 : Nat) : Int) from f49) rfl)
  have e82 : hV H6 298 = hV H5 298 := uRowNe f48 _ (iS (show n16 = ((334 : Nat) : Int) from f42) rfl)
  have e83 : hV H5 298 = hV H4 298 := uRowNe f41 _ (iS (show n14 = ((332 : Nat) : Int) from f36) rfl)
  have e84 : hV H4 298 = hV H3 298 := uRowNe f35 _ (iS (show n12 = ((331 : Nat) : Int) from f30) rfl)
  have e85 : hV H3 298 = hV H2 298 := uRowNe f29 _ (iS (show n10 = ((330 : Nat) : Int) from f24) rfl)
  have e86 : hV H2 298 = hV H1 298 := uRowNe f23 _ (iS (show n8 = ((329 : Nat) : Int) from f18) rfl)
  have e87 : hV H1 298 = hV H0 298 := uRowNe f17 _ (iS (show n6 = ((328 : Nat) : Int) from f12) rfl)
  have e88 : hV H2 298 = hV H0 298 := e86.trans e87
  have e89 : hV H3 298 = hV H0 298 := e85.trans e88
  have e90 : hV H4 298 = hV H0 298 := e84.trans e89
  have e91 : hV H5 298 = hV H0 298 := e83.trans e90
  have e92 : hV H6 298 = hV H0 298 := e82.trans e91
  have e93 : hV H7 298 = hV H0 298 := e81.trans e92
  have e94 : hV H8 298 = hV H0 298 := e80.trans e93
  have e95 : hV H9 298 = hV H0 298 := e79.trans e94
  have e96 : hV H10 298 = hV H0 298 := e78.trans e95
  have e97 : hV H11 298 = hV H0 298 := e77.trans e96
  have e98 : hV H12 298 = hV H0 298 := e76.trans e97
  have e99 : hV H12 300 = hV H11 300 := uRowNe f92 _ (iS (show n5 = ((285 : Nat) : Int) from f10) rfl)
  have e100 : hV H11 300 = hV H10 300 := uRowNe f85 _ (iS (show n32 = ((333 : Nat) : Int) from f77) rfl)
  have e101 : hV H10 300 = hV H9 300 := uRowNe f76 _ (iS (show n5 = ((285 : Nat) : Int) from f10) rfl)
  have e102 : hV H9 300 = hV H8 300 := uRowNe f69 _ (iS (show n25 = ((338 : Nat) : Int) from f63) rfl)
  have e103 : hV H8 300 = hV H7 300 := uRowNe f62 _ (iS (show n22 = ((336 : Nat) : Int) from f56) rfl)
  have e104 : hV H7 300 = hV H6 300 := uRowNe f55 _ (iS (show n19 = ((335 : Nat) : Int) from f49) rfl)
  have e105 : hV H6 300 = hV H5 300 := uRowNe f48 _ (iS (show n16 = ((334 : Nat) : Int) from f42) rfl)
  have e106 : hV H5 300 = hV H4 300 := uRowNe f41 _ (iS (show n14 = ((332 : Nat) : Int) from f36) rfl)
  have e107 : hV H4 300 = hV H3 300 := uRowNe f35 _ (iS (show n12 = ((331 : Nat) : Int) from f30) rfl)
  have e108 : hV H3 300 = hV H2 300 := uRowNe f29 _ (iS (show n10 = ((330 : Nat) : Int) from f24) rfl)
  have e109 : hV H2 300 = hV H1 300 := uRowNe f23 _ (iS (show n8 = ((329 : Nat) : Int) from f18) rfl)
  have e110 : hV H1 300 = hV H0 300 := uRowNe f17 _ (iS (show n6 = ((328 : Nat) : Int) from f12) rfl)
  have e111 : hV H2 300 = hV H0 300 := e109.trans e110
  have e112 : hV H3 300 = hV H0 300 := e108.trans e111
  have e113 : hV H4 300 = hV H0 300 := e107.trans e112
  have e114 : hV H5 300 = hV H0 300 := e106.trans e113
  have e115 : hV H6 300 = hV H0 300 := e105.trans e114
  have e116 : hV H7 300 = hV H0 300 := e104.trans e115
  have e117 : hV H8 300 = hV H0 300 := e103.trans e116
  have e118 : hV H9 300 = hV H0 300 := e102.trans e117
  have e119 : hV H10 300 = hV H0 300 := e101.trans e118
  have e120 : hV H11 300 = hV H0 300 := e100.trans e119
  have e121 : hV H12 300 = hV H0 300 := e99.trans e120
  have e122 : hV H12 328 = hV H11 328 := uRowNe f92 _ (iS (show n5 = ((285 : Nat) : Int) from f10) rfl)
  have e123 : hV H11 328 = hV H10 328 := uRowNe f85 _ (iS (show n32 = ((333 : Nat) : Int) from f77) rfl)
  have e124 : hV H10 328 = hV H9 328 := uRowNe f76 _ (iS (show n5 = ((285 : Nat) : Int) from f10) rfl)
  have e125 : hV H9 328 = hV H8 328 := uRowNe f69 _ (iS (show n25 = ((338 : Nat) : Int) from f63) rfl)
  have e126 : hV H8 328 = hV H7 328 := uRowNe f62 _ (iS (show n22 = ((336 : Nat) : Int) from f56) rfl)
  have e127 : hV H7 328 = hV H6 328 := uRowNe f55 _ (iS (show n19 = ((335 : Nat) : Int) from f49) rfl)
  have e128 : hV H6 328 = hV H5 328 := uRowNe f48 _ (iS (show n16 = ((334 : Nat) : Int) from f42) rfl)
  have e129 : hV H5 328 = hV H4 328 := uRowNe f41 _ (iS (show n14 = ((332 : Nat) : Int) from f36) rfl)
  have e130 : hV H4 328 = hV H3 328 := uRowNe f35 _ (iS (show n12 = ((331 : Nat) : Int) from f30) rfl)
  have e131 : hV H3 328 = hV H2 328 := uRowNe f29 _ (iS (show n10 = ((330 : Nat) : Int) from f24) rfl)
  have e132 : hV H2 328 = hV H1 328 := uRowNe f23 _ (iS (show n8 = ((329 : Nat) : Int) from f18) rfl)
  have e133 : hV H1 328 = uF (hV H0 328) n7 n4 := uRow f17 _ f12.symm
  have e134 : hV H2 328 = (uF (hV H0 328) n7 n4) := e132.trans e133
  have e135 : hV H3 328 = (uF (hV H0 328) n7 n4) := e131.trans e134
  have e136 : hV H4 328 = (uF (hV H0 328) n7 n4) := e130.trans e135
  have e137 : hV H5 328 = (uF (hV H0 328) n7 n4) := e129.trans e136
  have e138 : hV H6 328 = (uF (hV H0 328) n7 n4) := e128.trans e137
  have e139 : hV H7 328 = (uF (hV H0 328) n7 n4) := e127.trans e138
  have e140 : hV H8 328 = (uF (hV H0 328) n7 n4) := e126.trans e139
  have e141 : hV H9 328 = (uF (hV H0 328) n7 n4) := e125.trans e140
  have e142 : hV H10 328 = (uF (hV H0 328) n7 n4) := e124.trans e141
  have e143 : hV H11 328 = (uF (hV H0 328) n7 n4) := e123.trans e142
  have e144 : hV H12 328 = (uF (hV H0 328) n7 n4) := e122.trans e143
  have e145 : hV H12 329 = hV H11 329 := uRowNe f92 _ (iS (show n5 = ((285 : Nat) : Int) from f10) rfl)
  have e146 : hV H11 329 = hV H10 329 := uRowNe f85 _ (iS (show n32 = ((333 : Nat) : Int) from f77) rfl)
  have e147 : hV H10 329 = hV H9 329 := uRowNe f76 _ (iS (show n5 = ((285 : Nat) : Int) from f10) rfl)
  have e148 : hV H9 329 = hV H8 329 := uRowNe f69 _ (iS (show n25 = ((338 : Nat) : Int) from f63) rfl)
  have e149 : hV H8 329 = hV H7 329 := uRowNe f62 _ (iS (show n22 = ((336 : Nat) : Int) from f56) rfl)
  have e150 : hV H7 329 = hV H6 329 := uRowNe f55 _ (iS (show n19 = ((335 : Nat) : Int) from f49) rfl)
  have e151 : hV H6 329 = hV H5 329 := uRowNe f48 _ (iS (show n16 = ((334 : Nat) : Int) from f42) rfl)
  have e152 : hV H5 329 = hV H4 329 := uRowNe f41 _ (iS (show n14 = ((332 : Nat) : Int) from f36) rfl)
  have e153 : hV H4 329 = hV H3 329 := uRowNe f35 _ (iS (show n12 = ((331 : Nat) : Int) from f30) rfl)
  have e154 : hV H3 329 = hV H2 329 := uRowNe f29 _ (iS (show n10 = ((330 : Nat) : Int) from f24) rfl)
  have e155 : hV H2 329 = uF (hV H1 329) n9 n3 := uRow f23 _ f18.symm
  have e156 : hV H1 329 = hV H0 329 := uRowNe f17 _ (iS (show n6 = ((328 : Nat) : Int) from f12) rfl)
  have e157 : hV H2 329 = (uF (hV H0 329) n9 n3) := e155.trans (congrArg (fun z => uF z n9 n3) e156)
  have e158 : hV H3 329 = (uF (hV H0 329) n9 n3) := e154.trans e157
  have e159 : hV H4 329 = (uF (hV H0 329) n9 n3) := e153.trans e158
  have e160 : hV H5 329 = (uF (hV H0 329) n9 n3) := e152.trans e159
  have e161 : hV H6 329 = (uF (hV H0 329) n9 n3) := e151.trans e160
  have e162 : hV H7 329 = (uF (hV H0 329) n9 n3) := e150.trans e161
  have e163 : hV H8 329 = (uF (hV H0 329) n9 n3) := e149.trans e162
  have e164 : hV H9 329 = (uF (hV H0 329) n9 n3) := e148.trans e163
  have e165 : hV H10 329 = (uF (hV H0 329) n9 n3) := e147.trans e164
  have e166 : hV H11 329 = (uF (hV H0 329) n9 n3) := e146.trans e165
  have e167 : hV H12 329 = (uF (hV H0 329) n9 n3) := e145.trans e166
  have e168 : hV H12 330 = hV H11 330 := uRowNe f92 _ (iS (show n5 = ((285 : Nat) : Int) from f10) rfl)
  have e169 : hV H11 330 = hV H10 330 := uRowNe f85 _ (iS (show n32 = ((333 : Nat) : Int) from f77) rfl)
  have e170 : hV H10 330 = hV H9 330 := uRowNe f76 _ (iS (show n5 = ((285 : Nat) : Int) from f10) rfl)
  have e171 : hV H9 330 = hV H8 330 := uRowNe f69 _ (iS (show n25 = ((338 : Nat) : Int) from f63) rfl)
  have e172 : hV H8 330 = hV H7 330 := uRowNe f62 _ (iS (show n22 = ((336 : Nat) : Int) from f56) rfl)
  have e173 : hV H7 330 = hV H6 330 := uRowNe f55 _ (iS (show n19 = ((335 : Nat) : Int) from f49) rfl)
  have e174 : hV H6 330 = hV H5 330 := uRowNe f48 _ (iS (show n16 = ((334 : Nat) : Int) from f42) rfl)
  have e175 : hV H5 330 = hV H4 330 := uRowNe f41 _ (iS (show n14 = ((332 : Nat) : Int) from f36) rfl)
  have e176 : hV H4 330 = hV H3 330 := uRowNe f35 _ (iS (show n12 = ((331 : Nat) : Int) from f30) rfl)
  have e177 : hV H3 330 = uF (hV H2 330) n11 n2 := uRow f29 _ f24.symm
  have e178 : hV H2 330 = hV H1 330 := uRowNe f23 _ (iS (show n8 = ((329 : Nat) : Int) from f18) rfl)
  have e179 : hV H1 330 = hV H0 330 := uRowNe f17 _ (iS (show n6 = ((328 : Nat) : Int) from f12) rfl)
  have e180 : hV H2 330 = hV H0 330 := e178.trans e179
  have e181 : hV H3 330 = (uF (hV H0 330) n11 n2) := e177.trans (congrArg (fun z => uF z n11 n2) e180)
  have e182 : hV H4 330 = (uF (hV H0 330) n11 n2) := e176.trans e181
  have e183 : hV H5 330 = (uF (hV H0 330) n11 n2) := e175.trans e182
  have e184 : hV H6 330 = (uF (hV H0 330) n11 n2) := e174.trans e183
  have e185 : hV H7 330 = (uF (hV H0 330) n11 n2) := e173.trans e184
  have e186 : hV H8 330 = (uF (hV H0 330) n11 n2) := e172.trans e185
  have e187 : hV H9 330 = (uF (hV H0 330) n11 n2) := e171.trans e186
  have e188 : hV H10 330 = (uF (hV H0 330) n11 n2) := e170.trans e187
  have e189 : hV H11 330 = (uF (hV H0 330) n11 n2) := e169.trans e188
  have e190 : hV H12 330 = (uF (hV H0 330) n11 n2) := e168.trans e189
  have e191 : hV H12 331 = hV H11 331 := uRowNe f92 _ (iS (show n5 = ((285 : Nat) : Int) from f10) rfl)
  have e192 : hV H11 331 = hV H10 331 := uRowNe f85 _ (iS (show n32 = ((333 : Nat) : Int) from f77) rfl)
  have e193 : hV H10 331 = hV H9 331 := uRowNe f76 _ (iS (show n5 = ((285 : Nat) : Int) from f10) rfl)
  have e194 : hV H9 331 = hV H8 331 := uRowNe f69 _ (iS (show n25 = ((338 : Nat) : Int) from f63) rfl)
  have e195 : hV H8 331 = hV H7 331 := uRowNe f62 _ (iS (show n22 = ((336 : Nat) : Int) from f56) rfl)
  have e196 : hV H7 331 = hV H6 331 := uRowNe f55 _ (iS (show n19 = ((335 : Nat) : Int) from f49) rfl)
  have e197 : hV H6 331 = hV H5 331 := uRowNe f48 _ (iS (show n16 = ((334 : Nat) : Int) from f42) rfl)
  have e198 : hV H5 331 = hV H4 331 := uRowNe f41 _ (iS (show n14 = ((332 : Nat) : Int) from f36) rfl)
  have e199 : hV H4 331 = uF (hV H3 331) n13 n1 := uRow f35 _ f30.symm
  have e200 : hV H3 331 = hV H2 331 := uRowNe f29 _ (iS (show n10 = ((330 : Nat) : Int) from f24) rfl)
  have e201 : hV H2 331 = hV H1 331 := uRowNe f23 _ (iS (show n8 = ((329 : Nat) : Int) from f18) rfl)
  have e202 : hV H1 331 = hV H0 331 := uRowNe f17 _ (iS (show n6 = ((328 : Nat) : Int) from f12) rfl)
  have e203 : hV H2 331 = hV H0 331 := e201.trans e202
  have e204 : hV H3 331 = hV H0 331 := e200.trans e203
  have e205 : hV H4 331 = (uF (hV H0 331) n13 n1) := e199.trans (congrArg (fun z => uF z n13 n1) e204)
  have e206 : hV H5 331 = (uF (hV H0 331) n13 n1) := e198.trans e205
  have e207 : hV H6 331 = (uF (hV H0 331) n13 n1) := e197.trans e206
  have e208 : hV H7 331 = (uF (hV H0 331) n13 n1) := e196.trans e207
  have e209 : hV H8 331 = (uF (hV H0 331) n13 n1) := e195.trans e208
  have e210 : hV H9 331 = (uF (hV H0 331) n13 n1) := e194.trans e209
  have e211 : hV H10 331 = (uF (hV H0 331) n13 n1) := e193.trans e210
  have e212 : hV H11 331 = (uF (hV H0 331) n13 n1) := e192.trans e211
  have e213 : hV H12 331 = (uF (hV H0 331) n13 n1) := e191.trans e212
  have e214 : hV H12 332 = hV H11 332 := uRowNe f92 _ (iS (show n5 = ((285 : Nat) : Int) from f10) rfl)
  have e215 : hV H11 332 = hV H10 332 := uRowNe f85 _ (iS (show n32 = ((333 : Nat) : Int) from f77) rfl)
  have e216 : hV H10 332 = hV H9 332 := uRowNe f76 _ (iS (show n5 = ((285 : Nat) : Int) from f10) rfl)
  have e217 : hV H9 332 = hV H8 332 := uRowNe f69 _ (iS (show n25 = ((338 : Nat) : Int) from f63) rfl)
  have e218 : hV H8 332 = hV H7 332 := uRowNe f62 _ (iS (show n22 = ((336 : Nat) : Int) from f56) rfl)
  have e219 : hV H7 332 = hV H6 332 := uRowNe f55 _ (iS (show n19 = ((335 : Nat) : Int) from f49) rfl)
  have e220 : hV H6 332 = hV H5 332 := uRowNe f48 _ (iS (show n16 = ((334 : Nat) : Int) from f42) rfl)
  have e221 : hV H5 332 = uF (hV H4 332) n15 n0 := uRow f41 _ f36.symm
  have e222 : hV H4 332 = hV H3 332 := uRowNe f35 _ (iS (show n12 = ((331 : Nat) : Int) from f30) rfl)
  have e223 : hV H3 332 = hV H2 332 := uRowNe f29 _ (iS (show n10 = ((330 : Nat) : Int) from f24) rfl)
  have e224 : hV H2 332 = hV H1 332 := uRowNe f23 _ (iS (show n8 = ((329 : Nat) : Int) from f18) rfl)
  have e225 : hV H1 332 = hV H0 332 := uRowNe f17 _ (iS (show n6 = ((328 : Nat) : Int) from f12) rfl)
  have e226 : hV H2 332 = hV H0 332 := e224.trans e225
  have e227 : hV H3 332 = hV H0 332 := e223.trans e226
  have e228 : hV H4 332 = hV H0 332 := e222.trans e227
  have e229 : hV H5 332 = (uF (hV H0 332) n15 n0) := e221.trans (congrArg (fun z => uF z n15 n0) e228)
  have e230 : hV H6 332 = (uF (hV H0 332) n15 n0) := e220.trans e229
  have e231 : hV H7 332 = (uF (hV H0 332) n15 n0) := e219.trans e230
  have e232 : hV H8 332 = (uF (hV H0 332) n15 n0) := e218.trans e231
  have e233 : hV H9 332 = (uF (hV H0 332) n15 n0) := e217.trans e232
  have e234 : hV H10 332 = (uF (hV H0 332) n15 n0) := e216.trans e233
  have e235 : hV H11 332 = (uF (hV H0 332) n15 n0) := e215.trans e234
  have e236 : hV H12 332 = (uF (hV H0 332) n15 n0) := e214.trans e235
  have e237 : hV H12 333 = hV H11 333 := uRowNe f92 _ (iS (show n5 = ((285 : Nat) : Int) from f10) rfl)
  have e238 : hV H11 333 = uF (hV H10 333) n33 n34 := uRow f85 _ f77.symm
  have e239 : hV H10 333 = hV H9 333 := uRowNe f76 _ (iS (show n5 = ((285 : Nat) : Int) from f10) rfl)
  have e240 : hV H9 333 = hV H8 333 := uRowNe f69 _ (iS (show n25 = ((338 : Nat) : Int) from f63) rfl)
  have e241 : hV H8 333 = hV H7 333 := uRowNe f62 _ (iS (show n22 = ((336 : Nat) : Int) from f56) rfl)
  have e242 : hV H7 333 = hV H6 333 := uRowNe f55 _ (iS (show n19 = ((335 : Nat) : Int) from f49) rfl)
  have e243 : hV H6 333 = hV H5 333 := uRowNe f48 _ (iS (show n16 = ((334 : Nat) : Int) from f42) rfl)
  have e244 : hV H5 333 = hV H4 333 := uRowNe f41 _ (iS (show n14 = ((332 : Nat) : Int) from f36) rfl)
  have e245 : hV H4 333 = hV H3 333 := uRowNe f35 _ (iS (show n12 = ((331 : Nat) : Int) from f30) rfl)
  have e246 : hV H3 333 = hV H2 333 := uRowNe f29 _ (iS (show n10 = ((330 : Nat) : Int) from f24) rfl)
  have e247 : hV H2 333 = hV H1 333 := uRowNe f23 _ (iS (show n8 = ((329 : Nat) : Int) from f18) rfl)
  have e248 : hV H1 333 = hV H0 333 := uRowNe f17 _ (iS (show n6 = ((328 : Nat) : Int) from f12) rfl)
  have e249 : hV H2 333 = hV H0 333 := e247.trans e248
  have e250 : hV H3 333 = hV H0 333 := e246.trans e249
  have e251 : hV H4 333 = hV H0 333 := e245.trans e250
  have e252 : hV H5 333 = hV H0 333 := e244.trans e251
  have e253 : hV H6 333 = hV H0 333 := e243.trans e252
  have e254 : hV H7 333 = hV H0 333 := e242.trans e253
  have e255 : hV H8 333 = hV H0 333 := e241.trans e254
  have e256 : hV H9 333 = hV H0 333 := e240.trans e255
  have e257 : hV H10 333 = hV H0 333 := e239.trans e256
  have e258 : hV H11 333 = (uF (hV H0 333) n33 n34) := e238.trans (congrArg (fun z => uF z n33 n34) e257)
  have e259 : hV H12 333 = (uF (hV H0 333) n33 n34) := e237.trans e258
  have e260 : hV H12 334 = hV H11 334 := uRowNe f92 _ (iS (show n5 = ((285 : Nat) : Int) from f10) rfl)
  have e261 : hV H11 334 = hV H10 334 := uRowNe f85 _ (iS (show n32 = ((333 : Nat) : Int) from f77) rfl)
  have e262 : hV H10 334 = hV H9 334 := uRowNe f76 _ (iS (show n5 = ((285 : Nat) : Int) from f10) rfl)
  have e263 : hV H9 334 = hV H8 334 := uRowNe f69 _ (iS (show n25 = ((338 : Nat) : Int) from f63) rfl)
  have e264 : hV H8 334 = hV H7 334 := uRowNe f62 _ (iS (show n22 = ((336 : Nat) : Int) from f56) rfl)
  have e265 : hV H7 334 = hV H6 334 := uRowNe f55 _ (iS (show n19 = ((335 : Nat) : Int) from f49) rfl)
  have e266 : hV H6 334 = uF (hV H5 334) n17 n18 := uRow f48 _ f42.symm
  have e267 : hV H5 334 = hV H4 334 := uRowNe f41 _ (iS (show n14 = ((332 : Nat) : Int) from f36) rfl)
  have e268 : hV H4 334 = hV H3 334 := uRowNe f35 _ (iS (show n12 = ((331 : Nat) : Int) from f30) rfl)
  have e269 : hV H3 334 = hV H2 334 := uRowNe f29 _ (iS (show n10 = ((330 : Nat) : Int) from f24) rfl)
  have e270 : hV H2 334 = hV H1 334 := uRowNe f23 _ (iS (show n8 = ((329 : Nat) : Int) from f18) rfl)
  have e271 : hV H1 334 = hV H0 334 := uRowNe f17 _ (iS (show n6 = ((328 : Nat) : Int) from f12) rfl)
  have e272 : hV H2 334 = hV H0 334 := e270.trans e271
  have e273 : hV H3 334 = hV H0 334 := e269.trans e272
  have e274 : hV H4 334 = hV H0 334 := e268.trans e273
  have e275 : hV H5 334 = hV H0 334 := e267.trans e274
  have e276 : hV H6 334 = (uF (hV H0 334) n17 n18) := e266.trans (congrArg (fun z => uF z n17 n18) e275)
  have e277 : hV H7 334 = (uF (hV H0 334) n17 n18) := e265.trans e276
  have e278 : hV H8 334 = (uF (hV H0 334) n17 n18) := e264.trans e277
  have e279 : hV H9 334 = (uF (hV H0 334) n17 n18) := e263.trans e278
  have e280 : hV H10 334 = (uF (hV H0 334) n17 n18) := e262.trans e279
  have e281 : hV H11 334 = (uF (hV H0 334) n17 n18) := e261.trans e280
  have e282 : hV H12 334 = (uF (hV H0 334) n17 n18) := e260.trans e281
  have e283 : hV H12 335 = hV H11 335 := uRowNe f92 _ (iS (show n5 = ((285 : Nat) : Int) from f10) rfl)
  have e284 : hV H11 335 = hV H10 335 := uRowNe f85 _ (iS (show n32 = ((333 : Nat) : Int) from f77) rfl)
  have e285 : hV H10 335 = hV H9 335 := uRowNe f76 _ (iS (show n5 = ((285 : Nat) : Int) from f10) rfl)
  have e286 : hV H9 335 = hV H8 335 := uRowNe f69 _ (iS (show n25 = ((338 : Nat) : Int) from f63) rfl)
  have e287 : hV H8 335 = hV H7 335 := uRowNe f62 _ (iS (show n22 = ((336 : Nat) : Int) from f56) rfl)
  have e288 : hV H7 335 = uF (hV H6 335) n20 n21 := uRow f55 _ f49.symm
  have e289 : hV H6 335 = hV H5 335 := uRowNe f48 _ (iS (show n16 = ((334 : Nat) : Int) from f42) rfl)
  have e290 : hV H5 335 = hV H4 335 := uRowNe f41 _ (iS (show n14 = ((332 : Nat) : Int) from f36) rfl)
  have e291 : hV H4 335 = hV H3 335 := uRowNe f35 _ (iS (show n12 = ((331 : Nat) : Int) from f30) rfl)
  have e292 : hV H3 335 = hV H2 335 := uRowNe f29 _ (iS (show n10 = ((330 : Nat) : Int) from f24) rfl)
  have e293 : hV H2 335 = hV H1 335 := uRowNe f23 _ (iS (show n8 = ((329 : Nat) : Int) from f18) rfl)
  have e294 : hV H1 335 = hV H0 335 := uRowNe f17 _ (iS (show n6 = ((328 : Nat) : Int) from f12) rfl)
  have e295 : hV H2 335 = hV H0 335 := e293.trans e294
  have e296 : hV H3 335 = hV H0 335 := e292.trans e295
  have e297 : hV H4 335 = hV H0 335 := e291.trans e296
  have e298 : hV H5 335 = hV H0 335 := e290.trans e297
  have e299 : hV H6 335 = hV H0 335 := e289.trans e298
  have e300 : hV H7 335 = (uF (hV H0 335) n20 n21) := e288.trans (congrArg (fun z => uF z n20 n21) e299)
  have e301 : hV H8 335 = (uF (hV H0 335) n20 n21) := e287.trans e300
  have e302 : hV H9 335 = (uF (hV H0 335) n20 n21) := e286.trans e301
  have e303 : hV H10 335 = (uF (hV H0 335) n20 n21) := e285.trans e302
  have e304 : hV H11 335 = (uF (hV H0 335) n20 n21) := e284.trans e303
  have e305 : hV H12 335 = (uF (hV H0 335) n20 n21) := e283.trans e304
  have e306 : hV H12 336 = hV H11 336 := uRowNe f92 _ (iS (show n5 = ((285 : Nat) : Int) from f10) rfl)
  have e307 : hV H11 336 = hV H10 336 := uRowNe f85 _ (iS (show n32 = ((333 : Nat) : Int) from f77) rfl)
  have e308 : hV H10 336 = hV H9 336 := uRowNe f76 _ (iS (show n5 = ((285 : Nat) : Int) from f10) rfl)
  have e309 : hV H9 336 = hV H8 336 := uRowNe f69 _ (iS (show n25 = ((338 : Nat) : Int) from f63) rfl)
  have e310 : hV H8 336 = uF (hV H7 336) n23 n24 := uRow f62 _ f56.symm
  have e311 : hV H7 336 = hV H6 336 := uRowNe f55 _ (iS (show n19 = ((335 : Nat) : Int) from f49) rfl)
  have e312 : hV H6 336 = hV H5 336 := uRowNe f48 _ (iS (show n16 = ((334 : Nat) : Int) from f42) rfl)
  have e313 : hV H5 336 = hV H4 336 := uRowNe f41 _ (iS (show n14 = ((332 : Nat) : Int) from f36) rfl)
  have e314 : hV H4 336 = hV H3 336 := uRowNe f35 _ (iS (show n12 = ((331 : Nat) : Int) from f30) rfl)
  have e315 : hV H3 336 = hV H2 336 := uRowNe f29 _ (iS (show n10 = ((330 : Nat) : Int) from f24) rfl)
  have e316 : hV H2 336 = hV H1 336 := uRowNe f23 _ (iS (show n8 = ((329 : Nat) : Int) from f18) rfl)
  have e317 : hV H1 336 = hV H0 336 := uRowNe f17 _ (iS (show n6 = ((328 : Nat) : Int) from f12) rfl)
  have e318 : hV H2 336 = hV H0 336 := e316.trans e317
  have e319 : hV H3 336 = hV H0 336 := e315.trans e318
  have e320 : hV H4 336 = hV H0 336 := e314.trans e319
  have e321 : hV H5 336 = hV H0 336 := e313.trans e320
  have e322 : hV H6 336 = hV H0 336 := e312.trans e321
  have e323 : hV H7 336 = hV H0 336 := e311.trans e322
  have e324 : hV H8 336 = (uF (hV H0 336) n23 n24) := e310.trans (congrArg (fun z => uF z n23 n24) e323)
  have e325 : hV H9 336 = (uF (hV H0 336) n23 n24) := e309.trans e324
  have e326 : hV H10 336 = (uF (hV H0 336) n23 n24) := e308.trans e325
  have e327 : hV H11 336 = (uF (hV H0 336) n23 n24) := e307.trans e326
  have e328 : hV H12 336 = (uF (hV H0 336) n23 n24) := e306.trans e327
  have e329 : hV H12 338 = hV H11 338 := uRowNe f92 _ (iS (show n5 = ((285 : Nat) : Int) from f10) rfl)
  have e330 : hV H11 338 = hV H10 338 := uRowNe f85 _ (iS (show n32 = ((333 : Nat) : Int) from f77) rfl)
  have e331 : hV H10 338 = hV H9 338 := uRowNe f76 _ (iS (show n5 = ((285 : Nat) : Int) from f10) rfl)
  have e332 : hV H9 338 = uF (hV H8 338) n26 n27 := uRow f69 _ f63.symm
  have e333 : hV H8 338 = hV H7 338 := uRowNe f62 _ (iS (show n22 = ((336 : Nat) : Int) from f56) rfl)
  have e334 : hV H7 338 = hV H6 338 := uRowNe f55 _ (iS (show n19 = ((335 : Nat) : Int) from f49) rfl)
  have e335 : hV H6 338 = hV H5 338 := uRowNe f48 _ (iS (show n16 = ((334 : Nat) : Int) from f42) rfl)
  have e336 : hV H5 338 = hV H4 338 := uRowNe f41 _ (iS (show n14 = ((332 : Nat) : Int) from f36) rfl)
  have e337 : hV H4 338 = hV H3 338 := uRowNe f35 _ (iS (show n12 = ((331 : Nat) : Int) from f30) rfl)
  have e338 : hV H3 338 = hV H2 338 := uRowNe f29 _ (iS (show n10 = ((330 : Nat) : Int) from f24) rfl)
  have e339 : hV H2 338 = hV H1 338 := uRowNe f23 _ (iS (show n8 = ((329 : Nat) : Int) from f18) rfl)
  have e340 : hV H1 338 = hV H0 338 := uRowNe f17 _ (iS (show n6 = ((328 : Nat) : Int) from f12) rfl)
  have e341 : hV H2 338 = hV H0 338 := e339.trans e340
  have e342 : hV H3 338 = hV H0 338 := e338.trans e341
  have e343 : hV H4 338 = hV H0 338 := e337.trans e342
  have e344 : hV H5 338 = hV H0 338 := e336.trans e343
  have e345 : hV H6 338 = hV H0 338 := e335.trans e344
  have e346 : hV H7 338 = hV H0 338 := e334.trans e345
  have e347 : hV H8 338 = hV H0 338 := e333.trans e346
  have e348 : hV H9 338 = (uF (hV H0 338) n26 n27) := e332.trans (congrArg (fun z => uF z n26 n27) e347)
  have e349 : hV H10 338 = (uF (hV H0 338) n26 n27) := e331.trans e348
  have e350 : hV H11 338 = (uF (hV H0 338) n26 n27) := e330.trans e349
  have e351 : hV H12 338 = (uF (hV H0 338) n26 n27) := e329.trans e350
  have e352 : hV H12 341 = hV H11 341 := uRowNe f92 _ (iS (show n5 = ((285 : Nat) : Int) from f10) rfl)
  have e353 : hV H11 341 = hV H10 341 := uRowNe f85 _ (iS (show n32 = ((333 : Nat) : Int) from f77) rfl)
  have e354 : hV H10 341 = hV H9 341 := uRowNe f76 _ (iS (show n5 = ((285 : Nat) : Int) from f10) rfl)
  have e355 : hV H9 341 = hV H8 341 := uRowNe f69 _ (iS (show n25 = ((338 : Nat) : Int) from f63) rfl)
  have e356 : hV H8 341 = hV H7 341 := uRowNe f62 _ (iS (show n22 = ((336 : Nat) : Int) from f56) rfl)
  have e357 : hV H7 341 = hV H6 341 := uRowNe f55 _ (iS (show n19 = ((335 : Nat) : Int) from f49) rfl)
  have e358 : hV H6 341 = hV H5 341 := uRowNe f48 _ (iS (show n16 = ((334 : Nat) : Int) from f42) rfl)
  have e359 : hV H5 341 = hV H4 341 := uRowNe f41 _ (iS (show n14 = ((332 : Nat) : Int) from f36) rfl)
  have e360 : hV H4 341 = hV H3 341 := uRowNe f35 _ (iS (show n12 = ((331 : Nat) : Int) from f30) rfl)
  have e361 : hV H3 341 = hV H2 341 := uRowNe f29 _ (iS (show n10 = ((330 : Nat) : Int) from f24) rfl)
  have e362 : hV H2 341 = hV H1 341 := uRowNe f23 _ (iS (show n8 = ((329 : Nat) : Int) from f18) rfl)
  have e363 : hV H1 341 = hV H0 341 := uRowNe f17 _ (iS (show n6 = ((328 : Nat) : Int) from f12) rfl)
  have e364 : hV H2 341 = hV H0 341 := e362.trans e363
  have e365 : hV H3 341 = hV H0 341 := e361.trans e364
  have e366 : hV H4 341 = hV H0 341 := e360.trans e365
  have e367 : hV H5 341 = hV H0 341 := e359.trans e366
  have e368 : hV H6 341 = hV H0 341 := e358.trans e367
  have e369 : hV H7 341 = hV H0 341 := e357.trans e368
  have e370 : hV H8 341 = hV H0 341 := e356.trans e369
  have e371 : hV H9 341 = hV H0 341 := e355.trans e370
  have e372 : hV H10 341 = hV H0 341 := e354.trans e371
  have e373 : hV H11 341 = hV H0 341 := e353.trans e372
  have e374 : hV H12 341 = hV H0 341 := e352.trans e373
  have e375 : (0 : Int) ≤ hV H0 285 18 ∧ hV H0 285 18 ≤ 8 := f11.1 285 18 _ _ (by decide +kernel)
  have e376 : (0 : Int) ≤ hV H0 285 64 ∧ hV H0 285 64 ≤ 20 := f11.1 285 64 _ _ (by decide +kernel)
  have e377 : (0 : Int) ≤ hV H0 285 65 ∧ hV H0 285 65 ≤ 2147483647 := f11.1 285 65 _ _ (by decide +kernel)
  try simp only [SO] at *
  try simp only [SS] at *
  try simp only [AC] at *
  try simp only [e48, e49, e52, e75, e98, e121, e144, e167, e190, e213, e236, e259, e282, e305, e328, e351, e374] at f11
  try simp only [e48, e49, e52, e75, e98, e121, e144, e167, e190, e213, e236, e259, e282, e305, e328, e351, e374] at e375
  try simp only [e48, e49, e52, e75, e98, e121, e144, e167, e190, e213, e236, e259, e282, e305, e328, e351, e374] at e376
  try simp only [e48, e49, e52, e75, e98, e121, e144, e167, e190, e213, e236, e259, e282, e305, e328, e351, e374] at e377
  try simp only [e48, e49, e52, e75, e98, e121, e144, e167, e190, e213, e236, e259, e282, e305, e328, e351, e374]
  have p0 := f11.2.1
  have p1 := f11.2.2.1
  have p2 := f11.2.2.2.1
  have p3 := f11.2.2.2.2.1
  have p4 := f11.2.2.2.2.2.1
  have p5 := f11.2.2.2.2.2.2.1
  have p6 := f11.2.2.2.2.2.2.2.1
  have p7 := f11.2.2.2.2.2.2.2.2
  try simp only [e48, e49, e52, e75, e98, e121, e144, e167, e190, e213, e236, e259, e282, e305, e328, e351, e374] at p0
  try simp only [e48, e49, e52, e75, e98, e121, e144, e167, e190, e213, e236, e259, e282, e305, e328, e351, e374] at p1
  try simp only [e48, e49, e52, e75, e98, e121, e144, e167, e190, e213, e236, e259, e282, e305, e328, e351, e374] at p2
  try simp only [e48, e49, e52, e75, e98, e121, e144, e167, e190, e213, e236, e259, e282, e305, e328, e351, e374] at p3
  try simp only [e48, e49, e52, e75, e98, e121, e144, e167, e190, e213, e236, e259, e282, e305, e328, e351, e374] at p4
  try simp only [e48, e49, e52, e75, e98, e121, e144, e167, e190, e213, e236, e259, e282, e305, e328, e351, e374] at p5
  try simp only [e48, e49, e52, e75, e98, e121, e144, e167, e190, e213, e236, e259, e282, e305, e328, e351, e374] at p6
  try simp only [e48, e49, e52, e75, e98, e121, e144, e167, e190, e213, e236, e259, e282, e305, e328, e351, e374] at p7
  clear f13 f16 f19 f22 f25 f28 f31 f34 f37 f40 f43 f46 f50 f53 f57 f60 f64 f67 f72 f78 f81 f84 f88 f95 e1 e3 e5 e7 e9 e11 e13 e15 e17 e18 e19 e20 e21 e22 e23 e24 e25 e27 e28 e32 e36 e37 e38 e39 e40 e41 e42 e43 e44 e45 e46 e47 e48 e50 e51 e53 e54 e55 e56 e57 e58 e59 e60 e61 e62 e63 e64 e65 e66 e67 e68 e69 e70 e71 e72 e73 e74 e75 e76 e77 e78 e79 e80 e81 e82 e83 e84 e85 e86 e87 e88 e89 e90 e91 e92 e93 e94 e95 e96 e97 e98 e99 e100 e101 e102 e103 e104 e105 e106 e107 e108 e109 e110 e111 e112 e113 e114 e115 e116 e117 e118 e119 e120 e121 e122 e123 e124 e125 e126 e127 e128 e129 e130 e131 e132 e134 e135 e136 e137 e138 e139 e140 e141 e142 e143 e144 e145 e146 e147 e148 e149 e150 e151 e152 e153 e154 e156 e157 e158 e159 e160 e161 e162 e163 e164 e165 e166 e167 e168 e169 e170 e171 e172 e173 e174 e175 e176 e178 e179 e180 e181 e182 e183 e184 e185 e186 e187 e188 e189 e190 e191 e192 e193 e194 e195 e196 e197 e198 e200 e201 e202 e203 e204 e205 e206 e207 e208 e209 e210 e211 e212 e213 e214 e215 e216 e217 e218 e219 e220 e222 e223 e224 e225 e226 e227 e228 e229 e230 e231 e232 e233 e234 e235 e236 e237 e239 e240 e241 e242 e243 e244 e245 e246 e247 e248 e249 e250 e251 e252 e253 e254 e255 e256 e257 e258 e259 e260 e261 e262 e263 e264 e265 e267 e268 e269 e270 e271 e272 e273 e274 e275 e276 e277 e278 e279 e280 e281 e282 e283 e284 e285 e286 e287 e289 e290 e291 e292 e293 e294 e295 e296 e297 e298 e299 e300 e301 e302 e303 e304 e305 e306 e307 e308 e309 e311 e312 e313 e314 e315 e316 e317 e318 e319 e320 e321 e322 e323 e324 e325 e326 e327 e328 e329 e330 e331 e333 e334 e335 e336 e337 e338 e339 e340 e341 e342 e343 e344 e345 e346 e347 e348 e349 e350 e351 e352 e353 e354 e355 e356 e357 e358 e359 e360 e361 e362 e363 e364 e365 e366 e367 e368 e369 e370 e371 e372 e373 e374
  subst e0
  subst e2
  subst e4
  subst e6
  subst e8
  subst e10
  subst e12
  subst e14
  subst e16
  subst e26
  subst e29
  subst e33
  unfold w32 at *
  try (have ix0 : n30 = hV H0 285 65 + 1 := (by omega); subst ix0)
  try (have ix1 : n37 = hV H0 285 64 + 1 := (by omega); subst ix1)
  try (have ix2 : n41 = n39 - 1 := (by omega); subst ix2)

  obtain ⟨p1, p2, p3, p4, p5, p6, p7, p8⟩ := f11.2
  refine ⟨SOp_add p6 (by omega) (by omega) (by omega) (by omega) (by omega), SSp_add p7 (by omega) (by omega) (by omega), ACp_add p8 (by omega) (by omega) (by omega) (by omega) (by omega), ?_, ?_, ?_, ?_, ?_, ?_⟩ <;> first | rfl | omega | (congr 1; omega) | (congr 1 <;> omega)
def g_252v_s_14 : vG := ([(2, [41, 39, 40], [], 0), (0, [40], [], 1), (20, [39, 0], [12], 64), (90, [39], [], 0), (91, [39], [], 20), (80, [0, 38, 37], [12, 11], 0), (0, [38], [], 64), (1, [37, 35, 36], [], 0), (0, [36], [], 1), (20, [35, 0], [11], 64), (90, [35], [], 0), (91, [35], [], 20), (80, [32, 33, 34], [11, 10], 0), (20, [34, 0], [10], 65), (90, [34], [], 0), (91, [34], [], 2147483647), (20, [33, 0], [10], 64), (90, [33], [], 0), (91, [33], [], 20), (20, [32, 0], [10], 71), (0, [32], [], 333), (80, [0, 31, 30], [10, 9], 0), (0, [31], [], 65), (1, [30, 28, 29], [], 0), (0, [29], [], 1), (20, [28, 0], [9], 65), (90, [28], [], 0), (91, [28], [], 2147483647), (80, [25, 26, 27], [9, 8], 0), (0, [27], [], 0), (20, [26, 0], [8], 64), (90, [26], [], 0), (91, [26], [], 20), (20, [25, 0], [8], 76), (0, [25], [], 338), (80, [22, 23, 24], [8, 7], 0), (0, [24], [], -1), (20, [23, 0], [7], 64), (90, [23], [], 0), (91, [23], [], 20), (20, [22, 0], [7], 74), (0, [22], [], 336), (80, [19, 20, 21], [7, 6], 0), (0, [21], [], -1), (20, [20, 0], [6], 64), (90, [20], [], 0), (91, [20], [], 20), (20, [19, 0], [6], 73), (0, [19], [], 335), (80, [16, 17, 18], [6, 5], 0), (0, [18], [], 0), (20, [17, 0], [5], 64), (90, [17], [], 0), (91, [17], [], 20), (20, [16, 0], [5], 72), (0, [16], [], 334), (80, [14, 15, 5], [5, 4], 0), (20, [15, 0], [4], 64), (90, [15], [], 0), (91, [15], [], 20), (20, [14, 0], [4], 70), (0, [14], [], 332), (80, [12, 13, 4], [4, 3], 0), (20, [13, 0], [3], 64), (90, [13], [], 0), (91, [13], [], 20), (20, [12, 0], [3], 69), (0, [12], [], 331), (80, [10, 11, 3], [3, 2], 0), (20, [11, 0], [2], 64), (90, [11], [], 0), (91, [11], [], 20), (20, [10, 0], [2], 68), (0, [10], [], 330), (80, [8, 9, 2], [2, 1], 0), (20, [9, 0], [1], 64), (90, [9], [], 0), (91, [9], [], 20), (20, [8, 0], [1], 67), (0, [8], [], 329), (80, [6, 7, 1], [1, 0], 0), (20, [7, 0], [0], 64), (90, [7], [], 0), (91, [7], [], 20), (20, [6, 0], [0], 66), (0, [6], [], 328), (6000, [0, 1, 2, 3, 4, 5], [0], 0), (0, [0], [], 285), (90, [1], [], 0), (91, [1], [], 6), (90, [2], [], -1), (91, [2], [], 240), (90, [3], [], -2147483648), (91, [3], [], 2147483647), (90, [4], [], -2147483648), (91, [4], [], 2147483647), (90, [5], [], -1), (91, [5], [], 19)], (3000, [41], [12], 131))
theorem c_252v_s_14 : vOkm T0 (eP e_252v L_252v A_252v mu_252v none) 6 g_252v_s_14 := vOk_in fun ρ η h => by
  obtain ⟨f0, f1, f2, f3, f4, f5, f6, f7, f8, f9, f10, f11, f12, f13, f14, f15, f16, f17, f18, f19, f20, f21, f22, f23, f24, f25, f26, f27, f28, f29, f30, f31, f32, f33, f34, f35, f36, f37, f38, f39, f40, f41, f42, f43, f44, f45, f46, f47, f48, f49, f50, f51, f52, f53, f54, f55, f56, f57, f58, f59, f60, f61, f62, f63, f64, f65, f66, f67, f68, f69, f70, f71, f72, f73, f74, f75, f76, f77, f78, f79, f80, f81, f82, f83, f84, f85, f86, f87, f88, f89, f90, f91, f92, f93, f94, f95, f96, f97, _⟩ := h
  exact q_252v_14 (n0 := ρ 5) (n1 := ρ 4) (n2 := ρ 3) (n3 := ρ 2) (n4 := ρ 1) (n5 := ρ 0) (n6 := ρ 6) (n7 := ρ 7) (n8 := ρ 8) (n9 := ρ 9) (n10 := ρ 10) (n11 := ρ 11) (n12 := ρ 12) (n13 := ρ 13) (n14 := ρ 14) (n15 := ρ 15) (n16 := ρ 16) (n17 := ρ 17) (n18 := ρ 18) (n19 := ρ 19) (n20 := ρ 20) (n21 := ρ 21) (n22 := ρ 22) (n23 := ρ 23) (n24 := ρ 24) (n25 := ρ 25) (n26 := ρ 26) (n27 := ρ 27) (n28 := ρ 28) (n29 := ρ 29) (n30 := ρ 30) (n31 := ρ 31) (n32 := ρ 32) (n33 := ρ 33) (n34 := ρ 34) (n35 := ρ 35) (n36 := ρ 36) (n37 := ρ 37) (n38 := ρ 38) (n39 := ρ 39) (n40 := ρ 40) (n41 := ρ 41) (H0 := η 0) (H1 := η 1) (H2 := η 2) (H3 := η 3) (H4 := η 4) (H5 := η 5) (H6 := η 6) (H7 := η 7) (H8 := η 8) (H9 := η 9) (H10 := η 10) (H11 := η 11) (H12 := η 12) f97 f96 f95 f94 f93 f92 f91 f90 f89 f88 f87 f86 f85 f84 f83 f82 f81 f80 f79 f78 f77 f76 f75 f74 f73 f72 f71 f70 f69 f68 f67 f66 f65 f64 f63 f62 f61 f60 f59 f58 f57 f56 f55 f54 f53 f52 f51 f50 f49 f48 f47 f46 f45 f44 f43 f42 f41 f40 f39 f38 f37 f36 f35 f34 f33 f32 f31 f30 f29 f28 f27 f26 f25 f24 f23 f22 f21 f20 f19 f18 f17 f16 f15 f14 f13 f12 f11 f10 f9 f8 f7 f6 f5 f4 f3 f2 f1 f0
def p_252v_s : List vG := [g_252v_s_0,
  g_252v_s_1,
  g_252v_s_2,
  g_252v_s_3,
  g_252v_s_4,
  g_252v_s_5,
  g_252v_s_6,
  g_252v_s_7,
  g_252v_s_8,
  g_252v_s_9,
  g_252v_s_10,
  g_252v_s_11,
  g_252v_s_12,
  g_252v_s_13,
  g_252v_s_14]
theorem r_252v_s : vCovO false (eR0 e_252v L_252v cs_252v 2000) p_252v_s = true := by decide +kernel
theorem m_252v (d : Nat) : eC e_252v (d + 1) := eC_ok (e := e_252v) (L := L_252v) (cs := cs_252v) (n := 2000) (d := d + 0) (A := A_252v) (μ := mu_252v) (tp := false) (p0 := p_252v_s) rfl trivial rfl (.inl rfl) (by decide +kernel) (fun z => nomatch z) r_252v_s (allC c_252v_s_0 (allC c_252v_s_1 (allC c_252v_s_2 (allC c_252v_s_3 (allC c_252v_s_4 (allC c_252v_s_5 (allC c_252v_s_6 (allC c_252v_s_7 (allC c_252v_s_8 (allC c_252v_s_9 (allC c_252v_s_10 (allC c_252v_s_11 (allC c_252v_s_12 (allC c_252v_s_13 (allC c_252v_s_14 allN))))))))))))))) allN
