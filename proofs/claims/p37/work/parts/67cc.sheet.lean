/-! CONTRACTS of methods told more fully. -/
/- MixStage.trim (III)I -/
noncomputable def s_166v : vM := ([(3, 11, 7, 0), (0, -2147483648, 2147483647, 0), (0, -2147483648, 2147483647, 0), (0, -2147483648, 2147483647, 0)], (0, -2147483648, 2147483647, 0), 0, 1, [(0, 1), (0, 2), (7, 8), (105, 0)])
def postb_166v (r a0 a1 a2 a3 : Int) (h0 h : gH) : Prop := (h.length : Int) ≤ h0.length + 3 * (hV h 23 1 - hV h0 23 1) ∧ (((0 ≤ a1 ∧ a1 < hV h0 23 1 ∧ 0 ≤ a2 ∧ a2 < a3 ∧ a3 ≤ 240 ∧ 0 ≤ hV h0 24 ((a1).toNat)) ∧ ADDp r 4 0 h0 h) ∨ (¬ ((0 ≤ a1 ∧ a1 < hV h0 23 1 ∧ 0 ≤ a2 ∧ a2 < a3 ∧ a3 ≤ 240 ∧ 0 ≤ hV h0 24 ((a1).toNat))) ∧ r = -1 ∧ SAMEp h0 h)) ∧ ADS r a2 a3 h0 h ∧ ADQ r a1 h
def post_166v : List Int → gH → gH → Prop := fun xs h0 h => match xs with
  | [r, a0, a1, a2, a3] => postb_166v r a0 a1 a2 a3 h0 h
  | _ => True
noncomputable def e_166v : vE := (166, s_166v, pre0, post_166v)
noncomputable def L_166v : List vE := [e_2v, e_4v]
def cs_166v : List vC := []
def A_166v : Int → List Int → gH → gH → Prop := fun c xs h0 h => True
def mu_166v : Int → List Int → gH → gH → Nat := fun c xs h0 h => 0
theorem q_166v_0 {n0 n1 n2 n3 n4 n5 n6 : Int} {H0 H1 : gH} (f0 : n0 ≤ 2147483647) (f1 : (-2147483648) ≤ n0) (f2 : n1 ≤ 2147483647) (f3 : (-2147483648) ≤ n1) (f4 : n2 ≤ 2147483647) (f5 : (-2147483648) ≤ n2) (f6 : n3 = 7) (f7 : hWt T0 H0 ∧ True) (f8 : n4 = 23) (f9 : n4 = hV H0 (n3).toNat 7) (f10 : (hLe T0 H0 H1 ∧ hFr s_2v.2.2.2.2 H0 H1 ∧ ((0 : Int) = 0 → H1.length = H0.length) ∧ hWt T0 H1) ∧ postb_2v n5 n4 n2 H0 H1) (f11 : n5 = -1) (f12 : n6 = (-1)) : postb_166v n6 n3 n2 n1 n0 H0 H1 := by
  unfold postb_2v at f10
  unfold postb_166v
  have e0 : hV H1 23 1 = hV H0 23 1 := f10.1.2.1.1 23 1 (by decide +kernel)
  have e1 : hV H1 23 1 = hV H0 23 1 := e0
  have l10 := f10.1.2.2.1 rfl
  try simp only [e1] at f10
  try simp only [e1]

  refine ⟨by omega, .inr ⟨by omega, by omega, ⟨f10.1.2.1.1 23 1 (by decide +kernel), fRow f10.1.2.1 24 (by decide +kernel)⟩⟩, .inl (by omega), .inl (by omega)⟩
theorem c_166v_s_0 : vOkm T0 (eP e_166v L_166v A_166v mu_166v none) 4 ([(0, [6], [], -1), (50, [5], [], 0), (1002, [5, 4, 1], [0, 1], 0), (20, [4, 0], [0], 7), (0, [4], [], 23), (6000, [0, 1, 2, 3], [0], 0), (0, [0], [], 7), (90, [1], [], -2147483648), (91, [1], [], 2147483647), (90, [2], [], -2147483648), (91, [2], [], 2147483647), (90, [3], [], -2147483648), (91, [3], [], 2147483647)], (3000, [6], [1], 28)) := vOk_in fun ρ η h => by
  obtain ⟨f0, f1, f2, f3, f4, f5, f6, f7, f8, f9, f10, f11, f12, _⟩ := h
  exact q_166v_0 (n0 := ρ 3) (n1 := ρ 2) (n2 := ρ 1) (n3 := ρ 0) (n4 := ρ 4) (n5 := ρ 5) (n6 := ρ 6) (H0 := η 0) (H1 := η 1) f12 f11 f10 f9 f8 f7 f6 f5 f4 f3 f2 f1 f0
theorem q_166v_1 {n0 n1 n2 n3 n4 n5 n6 : Int} {H0 H1 : gH} (f0 : n0 ≤ 2147483647) (f1 : (-2147483648) ≤ n0) (f2 : n1 ≤ 2147483647) (f3 : (-2147483648) ≤ n1) (f4 : n2 ≤ 2147483647) (f5 : (-2147483648) ≤ n2) (f6 : n3 = 7) (f7 : hWt T0 H0 ∧ True) (f8 : n4 = 23) (f9 : n4 = hV H0 (n3).toNat 7) (f10 : (hLe T0 H0 H1 ∧ hFr s_2v.2.2.2.2 H0 H1 ∧ ((0 : Int) = 0 → H1.length = H0.length) ∧ hWt T0 H1) ∧ postb_2v n5 n4 n2 H0 H1) (f11 : 0 ≤ n5) (f12 : n1 < 0) (f13 : n6 = (-1)) : postb_166v n6 n3 n2 n1 n0 H0 H1 := by
  unfold postb_2v at f10
  unfold postb_166v
  have e0 : hV H1 23 1 = hV H0 23 1 := f10.1.2.1.1 23 1 (by decide +kernel)
  have e1 : hV H1 23 1 = hV H0 23 1 := e0
  have l10 := f10.1.2.2.1 rfl
  try simp only [e1] at f10
  try simp only [e1]

  refine ⟨by omega, .inr ⟨by omega, by omega, ⟨f10.1.2.1.1 23 1 (by decide +kernel), fRow f10.1.2.1 24 (by decide +kernel)⟩⟩, .inl (by omega), .inl (by omega)⟩
theorem c_166v_s_1 : vOkm T0 (eP e_166v L_166v A_166v mu_166v none) 4 ([(0, [6], [], -1), (32, [2], [], 0), (51, [5], [], 0), (1002, [5, 4, 1], [0, 1], 0), (20, [4, 0], [0], 7), (0, [4], [], 23), (6000, [0, 1, 2, 3], [0], 0), (0, [0], [], 7), (90, [1], [], -2147483648), (91, [1], [], 2147483647), (90, [2], [], -2147483648), (91, [2], [], 2147483647), (90, [3], [], -2147483648), (91, [3], [], 2147483647)], (3000, [6], [1], 28)) := vOk_in fun ρ η h => by
  obtain ⟨f0, f1, f2, f3, f4, f5, f6, f7, f8, f9, f10, f11, f12, f13, _⟩ := h
  exact q_166v_1 (n0 := ρ 3) (n1 := ρ 2) (n2 := ρ 1) (n3 := ρ 0) (n4 := ρ 4) (n5 := ρ 5) (n6 := ρ 6) (H0 := η 0) (H1 := η 1) f13 f12 f11 f10 f9 f8 f7 f6 f5 f4 f3 f2 f1 f0
theorem q_166v_2 {n0 n1 n2 n3 n4 n5 n6 : Int} {H0 H1 : gH} (f0 : n0 ≤ 2147483647) (f1 : (-2147483648) ≤ n0) (f2 : n1 ≤ 2147483647) (f3 : (-2147483648) ≤ n1) (f4 : n2 ≤ 2147483647) (f5 : (-2147483648) ≤ n2) (f6 : n3 = 7) (f7 : hWt T0 H0 ∧ True) (f8 : n4 = 23) (f9 : n4 = hV H0 (n3).toNat 7) (f10 : (hLe T0 H0 H1 ∧ hFr s_2v.2.2.2.2 H0 H1 ∧ ((0 : Int) = 0 → H1.length = H0.length) ∧ hWt T0 H1) ∧ postb_2v n5 n4 n2 H0 H1) (f11 : 0 ≤ n5) (f12 : 0 ≤ n1) (f13 : n0 ≤ n1) (f14 : n6 = (-1)) : postb_166v n6 n3 n2 n1 n0 H0 H1 := by
  unfold postb_2v at f10
  unfold postb_166v
  have e0 : hV H1 23 1 = hV H0 23 1 := f10.1.2.1.1 23 1 (by decide +kernel)
  have e1 : hV H1 23 1 = hV H0 23 1 := e0
  have l10 := f10.1.2.2.1 rfl
  try simp only [e1] at f10
  try simp only [e1]

  refine ⟨by omega, .inr ⟨by omega, by omega, ⟨f10.1.2.1.1 23 1 (by decide +kernel), fRow f10.1.2.1 24 (by decide +kernel)⟩⟩, .inl (by omega), .inl (by omega)⟩
theorem c_166v_s_2 : vOkm T0 (eP e_166v L_166v A_166v mu_166v none) 4 ([(0, [6], [], -1), (45, [3, 2], [], 0), (33, [2], [], 0), (51, [5], [], 0), (1002, [5, 4, 1], [0, 1], 0), (20, [4, 0], [0], 7), (0, [4], [], 23), (6000, [0, 1, 2, 3], [0], 0), (0, [0], [], 7), (90, [1], [], -2147483648), (91, [1], [], 2147483647), (90, [2], [], -2147483648), (91, [2], [], 2147483647), (90, [3], [], -2147483648), (91, [3], [], 2147483647)], (3000, [6], [1], 28)) := vOk_in fun ρ η h => by
  obtain ⟨f0, f1, f2, f3, f4, f5, f6, f7, f8, f9, f10, f11, f12, f13, f14, _⟩ := h
  exact q_166v_2 (n0 := ρ 3) (n1 := ρ 2) (n2 := ρ 1) (n3 := ρ 0) (n4 := ρ 4) (n5 := ρ 5) (n6 := ρ 6) (H0 := η 0) (H1 := η 1) f14 f13 f12 f11 f10 f9 f8 f7 f6 f5 f4 f3 f2 f1 f0
theorem q_166v_3 {n0 n1 n2 n3 n4 n5 n6 n7 n8 n9 : Int} {H0 H1 : gH} (f0 : n0 ≤ 2147483647) (f1 : (-2147483648) ≤ n0) (f2 : n1 ≤ 2147483647) (f3 : (-2147483648) ≤ n1) (f4 : n2 ≤ 2147483647) (f5 : (-2147483648) ≤ n2) (f6 : n3 = 7) (f7 : hWt T0 H0 ∧ True) (f8 : n4 = 23) (f9 : n4 = hV H0 (n3).toNat 7) (f10 : (hLe T0 H0 H1 ∧ hFr s_2v.2.2.2.2 H0 H1 ∧ ((0 : Int) = 0 → H1.length = H0.length) ∧ hWt T0 H1) ∧ postb_2v n5 n4 n2 H0 H1) (f11 : 0 ≤ n5) (f12 : 0 ≤ n1) (f13 : n1 < n0) (f14 : n6 = 240) (f15 : n0 ≤ n6) (f16 : n7 = 23) (f17 : n7 = hV H1 (n3).toNat 7) (f18 : n8 = 4) (f19 : n9 = 0) : preb_4v n7 n8 n1 n0 n2 n9 H1 := by
  unfold postb_2v at f10
  unfold preb_4v
  have e0 : hV H1 7 7 = hV H0 7 7 := f10.1.2.1.1 7 7 (by decide +kernel)
  have l10 := f10.1.2.2.1 rfl
  first | trivial | omega
theorem c_166v_s_3 : vOkm T0 (eP e_166v L_166v A_166v mu_166v none) 4 ([(0, [9], [], 0), (0, [8], [], 4), (20, [7, 0], [1], 7), (0, [7], [], 23), (45, [3, 6], [], 0), (0, [6], [], 240), (44, [3, 2], [], 0), (33, [2], [], 0), (51, [5], [], 0), (1002, [5, 4, 1], [0, 1], 0), (20, [4, 0], [0], 7), (0, [4], [], 23), (6000, [0, 1, 2, 3], [0], 0), (0, [0], [], 7), (90, [1], [], -2147483648), (91, [1], [], 2147483647), (90, [2], [], -2147483648), (91, [2], [], 2147483647), (90, [3], [], -2147483648), (91, [3], [], 2147483647)], (2004, [7, 8, 2, 3, 1, 9], [1], 0)) := vOk_in fun ρ η h => by
  obtain ⟨f0, f1, f2, f3, f4, f5, f6, f7, f8, f9, f10, f11, f12, f13, f14, f15, f16, f17, f18, f19, _⟩ := h
  exact q_166v_3 (n0 := ρ 3) (n1 := ρ 2) (n2 := ρ 1) (n3 := ρ 0) (n4 := ρ 4) (n5 := ρ 5) (n6 := ρ 6) (n7 := ρ 7) (n8 := ρ 8) (n9 := ρ 9) (H0 := η 0) (H1 := η 1) f19 f18 f17 f16 f15 f14 f13 f12 f11 f10 f9 f8 f7 f6 f5 f4 f3 f2 f1 f0
theorem q_166v_4 {n0 n1 n2 n3 n4 n5 n6 n7 n8 n9 n10 : Int} {H0 H1 H2 : gH} (f0 : n0 ≤ 2147483647) (f1 : (-2147483648) ≤ n0) (f2 : n1 ≤ 2147483647) (f3 : (-2147483648) ≤ n1) (f4 : n2 ≤ 2147483647) (f5 : (-2147483648) ≤ n2) (f6 : n3 = 7) (f7 : hWt T0 H0 ∧ True) (f8 : n4 = 23) (f9 : n4 = hV H0 (n3).toNat 7) (f10 : (hLe T0 H0 H1 ∧ hFr s_2v.2.2.2.2 H0 H1 ∧ ((0 : Int) = 0 → H1.length = H0.length) ∧ hWt T0 H1) ∧ postb_2v n5 n4 n2 H0 H1) (f11 : 0 ≤ n5) (f12 : 0 ≤ n1) (f13 : n1 < n0) (f14 : n6 = 240) (f15 : n0 ≤ n6) (f16 : n7 = 23) (f17 : n7 = hV H1 (n3).toNat 7) (f18 : n8 = 4) (f19 : n9 = 0) (f20 : n10 ≤ 2147483647) (f21 : (-2147483648) ≤ n10) (f22 : (hLe T0 H1 H2 ∧ hFr s_4v.2.2.2.2 H1 H2 ∧ ((1 : Int) = 0 → H2.length = H1.length) ∧ hWt T0 H2) ∧ postb_4v n10 n7 n8 n1 n0 n2 n9 H1 H2) : postb_166v n10 n3 n2 n1 n0 H0 H2 := by
  unfold postb_2v at f10
  unfold postb_4v at f22
  unfold postb_166v
  have e0 : hV H1 7 7 = hV H0 7 7 := f10.1.2.1.1 7 7 (by decide +kernel)
  have e1 : hV H1 23 1 = hV H0 23 1 := f10.1.2.1.1 23 1 (by decide +kernel)
  have e2 : hV H1 23 1 = hV H0 23 1 := e1
  have l10 := f10.1.2.2.1 rfl
  try simp only [e2] at f10
  try simp only [e2] at f22
  try simp only [e2]

  have ad := f22.2.2.1
  rw [f18] at ad
  rw [f19] at ad
  have ad := ADDp_from (f10.1.2.1.1 23 1 (by decide +kernel)) (fRow f10.1.2.1 24 (by decide +kernel)) (l10) ad
  refine ⟨by omega, .inl ⟨by omega, ad⟩, (ADS_from l10 f22.2.2.2.1), f22.2.2.2.2⟩
theorem c_166v_s_4 : vOkm T0 (eP e_166v L_166v A_166v mu_166v none) 4 ([(1004, [10, 7, 8, 2, 3, 1, 9], [1, 2], 1), (90, [10], [], -2147483648), (91, [10], [], 2147483647), (0, [9], [], 0), (0, [8], [], 4), (20, [7, 0], [1], 7), (0, [7], [], 23), (45, [3, 6], [], 0), (0, [6], [], 240), (44, [3, 2], [], 0), (33, [2], [], 0), (51, [5], [], 0), (1002, [5, 4, 1], [0, 1], 0), (20, [4, 0], [0], 7), (0, [4], [], 23), (6000, [0, 1, 2, 3], [0], 0), (0, [0], [], 7), (90, [1], [], -2147483648), (91, [1], [], 2147483647), (90, [2], [], -2147483648), (91, [2], [], 2147483647), (90, [3], [], -2147483648), (91, [3], [], 2147483647)], (3000, [10], [2], 41)) := vOk_in fun ρ η h => by
  obtain ⟨f0, f1, f2, f3, f4, f5, f6, f7, f8, f9, f10, f11, f12, f13, f14, f15, f16, f17, f18, f19, f20, f21, f22, _⟩ := h
  exact q_166v_4 (n0 := ρ 3) (n1 := ρ 2) (n2 := ρ 1) (n3 := ρ 0) (n4 := ρ 4) (n5 := ρ 5) (n6 := ρ 6) (n7 := ρ 7) (n8 := ρ 8) (n9 := ρ 9) (n10 := ρ 10) (H0 := η 0) (H1 := η 1) (H2 := η 2) f22 f21 f20 f19 f18 f17 f16 f15 f14 f13 f12 f11 f10 f9 f8 f7 f6 f5 f4 f3 f2 f1 f0
theorem q_166v_5 {n0 n1 n2 n3 n4 n5 n6 n7 : Int} {H0 H1 : gH} (f0 : n0 ≤ 2147483647) (f1 : (-2147483648) ≤ n0) (f2 : n1 ≤ 2147483647) (f3 : (-2147483648) ≤ n1) (f4 : n2 ≤ 2147483647) (f5 : (-2147483648) ≤ n2) (f6 : n3 = 7) (f7 : hWt T0 H0 ∧ True) (f8 : n4 = 23) (f9 : n4 = hV H0 (n3).toNat 7) (f10 : (hLe T0 H0 H1 ∧ hFr s_2v.2.2.2.2 H0 H1 ∧ ((0 : Int) = 0 → H1.length = H0.length) ∧ hWt T0 H1) ∧ postb_2v n5 n4 n2 H0 H1) (f11 : 0 ≤ n5) (f12 : 0 ≤ n1) (f13 : n1 < n0) (f14 : n6 = 240) (f15 : n6 < n0) (f16 : n7 = (-1)) : postb_166v n7 n3 n2 n1 n0 H0 H1 := by
  unfold postb_2v at f10
  unfold postb_166v
  have e0 : hV H1 23 1 = hV H0 23 1 := f10.1.2.1.1 23 1 (by decide +kernel)
  have e1 : hV H1 23 1 = hV H0 23 1 := e0
  have l10 := f10.1.2.2.1 rfl
  try simp only [e1] at f10
  try simp only [e1]

  refine ⟨by omega, .inr ⟨by omega, by omega, ⟨f10.1.2.1.1 23 1 (by decide +kernel), fRow f10.1.2.1 24 (by decide +kernel)⟩⟩, .inl (by omega), .inl (by omega)⟩
theorem c_166v_s_5 : vOkm T0 (eP e_166v L_166v A_166v mu_166v none) 4 ([(0, [7], [], -1), (44, [3, 6], [], 0), (0, [6], [], 240), (44, [3, 2], [], 0), (33, [2], [], 0), (51, [5], [], 0), (1002, [5, 4, 1], [0, 1], 0), (20, [4, 0], [0], 7), (0, [4], [], 23), (6000, [0, 1, 2, 3], [0], 0), (0, [0], [], 7), (90, [1], [], -2147483648), (91, [1], [], 2147483647), (90, [2], [], -2147483648), (91, [2], [], 2147483647), (90, [3], [], -2147483648), (91, [3], [], 2147483647)], (3000, [7], [1], 28)) := vOk_in fun ρ η h => by
  obtain ⟨f0, f1, f2, f3, f4, f5, f6, f7, f8, f9, f10, f11, f12, f13, f14, f15, f16, _⟩ := h
  exact q_166v_5 (n0 := ρ 3) (n1 := ρ 2) (n2 := ρ 1) (n3 := ρ 0) (n4 := ρ 4) (n5 := ρ 5) (n6 := ρ 6) (n7 := ρ 7) (H0 := η 0) (H1 := η 1) f16 f15 f14 f13 f12 f11 f10 f9 f8 f7 f6 f5 f4 f3 f2 f1 f0
def p_166v_s : List vG := [([(0, [6], [], -1), (50, [5], [], 0), (1002, [5, 4, 1], [0, 1], 0), (20, [4, 0], [0], 7), (0, [4], [], 23), (6000, [0, 1, 2, 3], [0], 0), (0, [0], [], 7), (90, [1], [], -2147483648), (91, [1], [], 2147483647), (90, [2], [], -2147483648), (91, [2], [], 2147483647), (90, [3], [], -2147483648), (91, [3], [], 2147483647)], (3000, [6], [1], 28)),
  ([(0, [6], [], -1), (32, [2], [], 0), (51, [5], [], 0), (1002, [5, 4, 1], [0, 1], 0), (20, [4, 0], [0], 7), (0, [4], [], 23), (6000, [0, 1, 2, 3], [0], 0), (0, [0], [], 7), (90, [1], [], -2147483648), (91, [1], [], 2147483647), (90, [2], [], -2147483648), (91, [2], [], 2147483647), (90, [3], [], -2147483648), (91, [3], [], 2147483647)], (3000, [6], [1], 28)),
  ([(0, [6], [], -1), (45, [3, 2], [], 0), (33, [2], [], 0), (51, [5], [], 0), (1002, [5, 4, 1], [0, 1], 0), (20, [4, 0], [0], 7), (0, [4], [], 23), (6000, [0, 1, 2, 3], [0], 0), (0, [0], [], 7), (90, [1], [], -2147483648), (91, [1], [], 2147483647), (90, [2], [], -2147483648), (91, [2], [], 2147483647), (90, [3], [], -2147483648), (91, [3], [], 2147483647)], (3000, [6], [1], 28)),
  ([(0, [9], [], 0), (0, [8], [], 4), (20, [7, 0], [1], 7), (0, [7], [], 23), (45, [3, 6], [], 0), (0, [6], [], 240), (44, [3, 2], [], 0), (33, [2], [], 0), (51, [5], [], 0), (1002, [5, 4, 1], [0, 1], 0), (20, [4, 0], [0], 7), (0, [4], [], 23), (6000, [0, 1, 2, 3], [0], 0), (0, [0], [], 7), (90, [1], [], -2147483648), (91, [1], [], 2147483647), (90, [2], [], -2147483648), (91, [2], [], 2147483647), (90, [3], [], -2147483648), (91, [3], [], 2147483647)], (2004, [7, 8, 2, 3, 1, 9], [1], 0)),
  ([(1004, [10, 7, 8, 2, 3, 1, 9], [1, 2], 1), (90, [10], [], -2147483648), (91, [10], [], 2147483647), (0, [9], [], 0), (0, [8], [], 4), (20, [7, 0], [1], 7), (0, [7], [], 23), (45, [3, 6], [], 0), (0, [6], [], 240), (44, [3, 2], [], 0), (33, [2], [], 0), (51, [5], [], 0), (1002, [5, 4, 1], [0, 1], 0), (20, [4, 0], [0], 7), (0, [4], [], 23), (6000, [0, 1, 2, 3], [0], 0), (0, [0], [], 7), (90, [1], [], -2147483648), (91, [1], [], 2147483647), (90, [2], [], -2147483648), (91, [2], [], 2147483647), (90, [3], [], -2147483648), (91, [3], [], 2147483647)], (3000, [10], [2], 41)),
  ([(0, [7], [], -1), (44, [3, 6], [], 0), (0, [6], [], 240), (44, [3, 2], [], 0), (33, [2], [], 0), (51, [5], [], 0), (1002, [5, 4, 1], [0, 1], 0), (20, [4, 0], [0], 7), (0, [4], [], 23), (6000, [0, 1, 2, 3], [0], 0), (0, [0], [], 7), (90, [1], [], -2147483648), (91, [1], [], 2147483647), (90, [2], [], -2147483648), (91, [2], [], 2147483647), (90, [3], [], -2147483648), (91, [3], [], 2147483647)], (3000, [7], [1], 28))]
theorem r_166v_s : vCovO false (eR0 e_166v L_166v cs_166v 2000) p_166v_s = true := by decide +kernel
theorem m_166v (d : Nat) : eC e_166v (d + 3) := eC_ok (e := e_166v) (L := L_166v) (cs := cs_166v) (n := 2000) (d := d + 2) (A := A_166v) (μ := mu_166v) (tp := false) (p0 := p_166v_s) rfl ⟨m_2v (d + 1), ⟨m_4v d, trivial⟩⟩ rfl (.inr pre0_ok) (by decide +kernel) (fun z => nomatch z) r_166v_s (allC c_166v_s_0 (allC c_166v_s_1 (allC c_166v_s_2 (allC c_166v_s_3 (allC c_166v_s_4 (allC c_166v_s_5 allN)))))) allN
/- MixStage.mute (I)I -/
noncomputable def s_167v : vM := ([(3, 11, 7, 0), (0, -2147483648, 2147483647, 0)], (0, -2147483648, 2147483647, 0), 0, 1, [(0, 1), (0, 2), (7, 8), (105, 0)])
def postb_167v (r a0 a1 : Int) (h0 h : gH) : Prop := (h.length : Int) ≤ h0.length + 3 * (hV h 23 1 - hV h0 23 1) ∧ (((0 ≤ a1 ∧ a1 < hV h0 23 1 ∧ 0 ≤ hV h0 24 ((a1).toNat) ∧ KV h0 a1 = 2) ∧ ADDp r 5 0 h0 h) ∨ (¬ ((0 ≤ a1 ∧ a1 < hV h0 23 1 ∧ 0 ≤ hV h0 24 ((a1).toNat) ∧ KV h0 a1 = 2)) ∧ r = -1 ∧ SAMEp h0 h)) ∧ ADS r 0 0 h0 h ∧ ADQ r a1 h
def post_167v : List Int → gH → gH → Prop := fun xs h0 h => match xs with
  | [r, a0, a1] => postb_167v r a0 a1 h0 h
  | _ => True
noncomputable def e_167v : vE := (167, s_167v, pre0, post_167v)
noncomputable def L_167v : List vE := [e_3v, e_4v]
def cs_167v : List vC := []
def A_167v : Int → List Int → gH → gH → Prop := fun c xs h0 h => True
def mu_167v : Int → List Int → gH → gH → Nat := fun c xs h0 h => 0
theorem q_167v_0 {n0 n1 n2 n3 n4 n5 : Int} {H0 H1 : gH} (f0 : n0 ≤ 2147483647) (f1 : (-2147483648) ≤ n0) (f2 : n1 = 7) (f3 : hWt T0 H0 ∧ True) (f4 : n2 = 23) (f5 : n2 = hV H0 (n1).toNat 7) (f6 : n3 = 2) (f7 : (hLe T0 H0 H1 ∧ hFr s_3v.2.2.2.2 H0 H1 ∧ ((0 : Int) = 0 → H1.length = H0.length) ∧ hWt T0 H1) ∧ postb_3v n4 n2 n0 n3 H0 H1) (f8 : n4 = -1) (f9 : n5 = (-1)) : postb_167v n5 n1 n0 H0 H1 := by
  unfold postb_3v at f7
  unfold postb_167v
  have e0 : hV H1 23 1 = hV H0 23 1 := f7.1.2.1.1 23 1 (by decide +kernel)
  have e1 : hV H1 23 1 = hV H0 23 1 := e0
  have l7 := f7.1.2.2.1 rfl
  try simp only [e1] at f7
  try simp only [e1]

  refine ⟨by omega, .inr ⟨by omega, by omega, ⟨f7.1.2.1.1 23 1 (by decide +kernel), fRow f7.1.2.1 24 (by decide +kernel)⟩⟩, .inl (by omega), .inl (by omega)⟩
theorem c_167v_s_0 : vOkm T0 (eP e_167v L_167v A_167v mu_167v none) 2 ([(0, [5], [], -1), (50, [4], [], 0), (1003, [4, 2, 1, 3], [0, 1], 0), (0, [3], [], 2), (20, [2, 0], [0], 7), (0, [2], [], 23), (6000, [0, 1], [0], 0), (0, [0], [], 7), (90, [1], [], -2147483648), (91, [1], [], 2147483647)], (3000, [5], [1], 28)) := vOk_in fun ρ η h => by
  obtain ⟨f0, f1, f2, f3, f4, f5, f6, f7, f8, f9, _⟩ := h
  exact q_167v_0 (n0 := ρ 1) (n1 := ρ 0) (n2 := ρ 2) (n3 := ρ 3) (n4 := ρ 4) (n5 := ρ 5) (H0 := η 0) (H1 := η 1) f9 f8 f7 f6 f5 f4 f3 f2 f1 f0
theorem q_167v_1 {n0 n1 n2 n3 n4 n5 n6 n7 n8 n9 : Int} {H0 H1 : gH} (f0 : n0 ≤ 2147483647) (f1 : (-2147483648) ≤ n0) (f2 : n1 = 7) (f3 : hWt T0 H0 ∧ True) (f4 : n2 = 23) (f5 : n2 = hV H0 (n1).toNat 7) (f6 : n3 = 2) (f7 : (hLe T0 H0 H1 ∧ hFr s_3v.2.2.2.2 H0 H1 ∧ ((0 : Int) = 0 → H1.length = H0.length) ∧ hWt T0 H1) ∧ postb_3v n4 n2 n0 n3 H0 H1) (f8 : 0 ≤ n4) (f9 : n5 = 23) (f10 : n5 = hV H1 (n1).toNat 7) (f11 : n6 = 5) (f12 : n7 = 0) (f13 : n8 = 0) (f14 : n9 = 0) : preb_4v n5 n6 n7 n8 n0 n9 H1 := by
  unfold postb_3v at f7
  unfold preb_4v
  have e0 : hV H1 7 7 = hV H0 7 7 := f7.1.2.1.1 7 7 (by decide +kernel)
  have l7 := f7.1.2.2.1 rfl
  first | trivial | omega
theorem c_167v_s_1 : vOkm T0 (eP e_167v L_167v A_167v mu_167v none) 2 ([(0, [9], [], 0), (0, [8], [], 0), (0, [7], [], 0), (0, [6], [], 5), (20, [5, 0], [1], 7), (0, [5], [], 23), (51, [4], [], 0), (1003, [4, 2, 1, 3], [0, 1], 0), (0, [3], [], 2), (20, [2, 0], [0], 7), (0, [2], [], 23), (6000, [0, 1], [0], 0), (0, [0], [], 7), (90, [1], [], -2147483648), (91, [1], [], 2147483647)], (2004, [5, 6, 7, 8, 1, 9], [1], 0)) := vOk_in fun ρ η h => by
  obtain ⟨f0, f1, f2, f3, f4, f5, f6, f7, f8, f9, f10, f11, f12, f13, f14, _⟩ := h
  exact q_167v_1 (n0 := ρ 1) (n1 := ρ 0) (n2 := ρ 2) (n3 := ρ 3) (n4 := ρ 4) (n5 := ρ 5) (n6 := ρ 6) (n7 := ρ 7) (n8 := ρ 8) (n9 := ρ 9) (H0 := η 0) (H1 := η 1) f14 f13 f12 f11 f10 f9 f8 f7 f6 f5 f4 f3 f2 f1 f0
theorem q_167v_2 {n0 n1 n2 n3 n4 n5 n6 n7 n8 n9 n10 : Int} {H0 H1 H2 : gH} (f0 : n0 ≤ 2147483647) (f1 : (-2147483648) ≤ n0) (f2 : n1 = 7) (f3 : hWt T0 H0 ∧ True) (f4 : n2 = 23) (f5 : n2 = hV H0 (n1).toNat 7) (f6 : n3 = 2) (f7 : (hLe T0 H0 H1 ∧ hFr s_3v.2.2.2.2 H0 H1 ∧ ((0 : Int) = 0 → H1.length = H0.length) ∧ hWt T0 H1) ∧ postb_3v n4 n2 n0 n3 H0 H1) (f8 : 0 ≤ n4) (f9 : n5 = 23) (f10 : n5 = hV H1 (n1).toNat 7) (f11 : n6 = 5) (f12 : n7 = 0) (f13 : n8 = 0) (f14 : n9 = 0) (f15 : n10 ≤ 2147483647) (f16 : (-2147483648) ≤ n10) (f17 : (hLe T0 H1 H2 ∧ hFr s_4v.2.2.2.2 H1 H2 ∧ ((1 : Int) = 0 → H2.length = H1.length) ∧ hWt T0 H2) ∧ postb_4v n10 n5 n6 n7 n8 n0 n9 H1 H2) : postb_167v n10 n1 n0 H0 H2 := by
  unfold postb_3v at f7
  unfold postb_4v at f17
  unfold postb_167v
  have e0 : hV H1 7 7 = hV H0 7 7 := f7.1.2.1.1 7 7 (by decide +kernel)
  have e1 : hV H1 23 1 = hV H0 23 1 := f7.1.2.1.1 23 1 (by decide +kernel)
  have e2 : hV H1 23 1 = hV H0 23 1 := e1
  have l7 := f7.1.2.2.1 rfl
  try simp only [e2] at f7
  try simp only [e2] at f17
  try simp only [e2]

  have ad := f17.2.2.1
  rw [f11] at ad
  rw [f14] at ad
  have ad := ADDp_from (f7.1.2.1.1 23 1 (by decide +kernel)) (fRow f7.1.2.1 24 (by decide +kernel)) (l7) ad
  refine ⟨by omega, .inl ⟨by omega, ad⟩, (by have w := (ADS_from l7 f17.2.2.2.1); rw [f12, f13] at w; exact w), f17.2.2.2.2⟩
theorem c_167v_s_2 : vOkm T0 (eP e_167v L_167v A_167v mu_167v none) 2 ([(1004, [10, 5, 6, 7, 8, 1, 9], [1, 2], 1), (90, [10], [], -2147483648), (91, [10], [], 2147483647), (0, [9], [], 0), (0, [8], [], 0), (0, [7], [], 0), (0, [6], [], 5), (20, [5, 0], [1], 7), (0, [5], [], 23), (51, [4], [], 0), (1003, [4, 2, 1, 3], [0, 1], 0), (0, [3], [], 2), (20, [2, 0], [0], 7), (0, [2], [], 23), (6000, [0, 1], [0], 0), (0, [0], [], 7), (90, [1], [], -2147483648), (91, [1], [], 2147483647)], (3000, [10], [2], 28)) := vOk_in fun ρ η h => by
  obtain ⟨f0, f1, f2, f3, f4, f5, f6, f7, f8, f9, f10, f11, f12, f13, f14, f15, f16, f17, _⟩ := h
  exact q_167v_2 (n0 := ρ 1) (n1 := ρ 0) (n2 := ρ 2) (n3 := ρ 3) (n4 := ρ 4) (n5 := ρ 5) (n6 := ρ 6) (n7 := ρ 7) (n8 := ρ 8) (n9 := ρ 9) (n10 := ρ 10) (H0 := η 0) (H1 := η 1) (H2 := η 2) f17 f16 f15 f14 f13 f12 f11 f10 f9 f8 f7 f6 f5 f4 f3 f2 f1 f0
def p_167v_s : List vG := [([(0, [5], [], -1), (50, [4], [], 0), (1003, [4, 2, 1, 3], [0, 1], 0), (0, [3], [], 2), (20, [2, 0], [0], 7), (0, [2], [], 23), (6000, [0, 1], [0], 0), (0, [0], [], 7), (90, [1], [], -2147483648), (91, [1], [], 2147483647)], (3000, [5], [1], 28)),
  ([(0, [9], [], 0), (0, [8], [], 0), (0, [7], [], 0), (0, [6], [], 5), (20, [5, 0], [1], 7), (0, [5], [], 23), (51, [4], [], 0), (1003, [4, 2, 1, 3], [0, 1], 0), (0, [3], [], 2), (20, [2, 0], [0], 7), (0, [2], [], 23), (6000, [0, 1], [0], 0), (0, [0], [], 7), (90, [1], [], -2147483648), (91, [1], [], 2147483647)], (2004, [5, 6, 7, 8, 1, 9], [1], 0)),
  ([(1004, [10, 5, 6, 7, 8, 1, 9], [1, 2], 1), (90, [10], [], -2147483648), (91, [10], [], 2147483647), (0, [9], [], 0), (0, [8], [], 0), (0, [7], [], 0), (0, [6], [], 5), (20, [5, 0], [1], 7), (0, [5], [], 23), (51, [4], [], 0), (1003, [4, 2, 1, 3], [0, 1], 0), (0, [3], [], 2), (20, [2, 0], [0], 7), (0, [2], [], 23), (6000, [0, 1], [0], 0), (0, [0], [], 7), (90, [1], [], -2147483648), (91, [1], [], 2147483647)], (3000, [10], [2], 28))]
theorem r_167v_s : vCovO false (eR0 e_167v L_167v cs_167v 2000) p_167v_s = true := by decide +kernel
theorem m_167v (d : Nat) : eC e_167v (d + 3) := eC_ok (e := e_167v) (L := L_167v) (cs := cs_167v) (n := 2000) (d := d + 2) (A := A_167v) (μ := mu_167v) (tp := false) (p0 := p_167v_s) rfl ⟨m_3v d, ⟨m_4v d, trivial⟩⟩ rfl (.inr pre0_ok) (by decide +kernel) (fun z => nomatch z) r_167v_s (allC c_167v_s_0 (allC c_167v_s_1 (allC c_167v_s_2 allN))) allN
/- MixStage.mixed ()I -/
noncomputable def s_168v : vM := ([(3, 11, 7, 0)], (0, -2147483648, 2147483647, 0), 0, 1, [(0, 1), (0, 2), (7, 8), (105, 0)])
def postb_168v (r a0 : Int) (h0 h : gH) : Prop := (h.length : Int) ≤ h0.length + 3 * (hV h 23 1 - hV h0 23 1) ∧ ADDp r 6 0 h0 h ∧ ADS r 0 0 h0 h ∧ ADQ r (-1) h
def post_168v : List Int → gH → gH → Prop := fun xs h0 h => match xs with
  | [r, a0] => postb_168v r a0 h0 h
  | _ => True
noncomputable def e_168v : vE := (168, s_168v, pre0, post_168v)
noncomputable def L_168v : List vE := [e_4v]
def cs_168v : List vC := []
def A_168v : Int → List Int → gH → gH → Prop := fun c xs h0 h => True
def mu_168v : Int → List Int → gH → gH → Nat := fun c xs h0 h => 0
theorem q_168v_0 {n0 n1 n2 n3 n4 n5 n6 : Int} {H0 : gH} (f0 : n0 = 7) (f1 : hWt T0 H0 ∧ True) (f2 : n1 = 23) (f3 : n1 = hV H0 (n0).toNat 7) (f4 : n2 = 6) (f5 : n3 = 0) (f6 : n4 = 0) (f7 : n5 = (-1)) (f8 : n6 = 0) : preb_4v n1 n2 n3 n4 n5 n6 H0 := by
  unfold preb_4v
  first | trivial | omega
theorem c_168v_s_0 : vOkm T0 (eP e_168v L_168v A_168v mu_168v none) 1 ([(0, [6], [], 0), (0, [5], [], -1), (0, [4], [], 0), (0, [3], [], 0), (0, [2], [], 6), (20, [1, 0], [0], 7), (0, [1], [], 23), (6000, [0], [0], 0), (0, [0], [], 7)], (2004, [1, 2, 3, 4, 5, 6], [0], 0)) := vOk_in fun ρ η h => by
  obtain ⟨f0, f1, f2, f3, f4, f5, f6, f7, f8, _⟩ := h
  exact q_168v_0 (n0 := ρ 0) (n1 := ρ 1) (n2 := ρ 2) (n3 := ρ 3) (n4 := ρ 4) (n5 := ρ 5) (n6 := ρ 6) (H0 := η 0) f8 f7 f6 f5 f4 f3 f2 f1 f0
theorem q_168v_1 {n0 n1 n2 n3 n4 n5 n6 n7 : Int} {H0 H1 : gH} (f0 : n0 = 7) (f1 : hWt T0 H0 ∧ True) (f2 : n1 = 23) (f3 : n1 = hV H0 (n0).toNat 7) (f4 : n2 = 6) (f5 : n3 = 0) (f6 : n4 = 0) (f7 : n5 = (-1)) (f8 : n6 = 0) (f9 : n7 ≤ 2147483647) (f10 : (-2147483648) ≤ n7) (f11 : (hLe T0 H0 H1 ∧ hFr s_4v.2.2.2.2 H0 H1 ∧ ((1 : Int) = 0 → H1.length = H0.length) ∧ hWt T0 H1) ∧ postb_4v n7 n1 n2 n3 n4 n5 n6 H0 H1) : postb_168v n7 n0 H0 H1 := by
  unfold postb_4v at f11
  unfold postb_168v

  have ad := f11.2.2.1
  rw [f4] at ad
  rw [f8] at ad
  exact ⟨by omega, ad, (by have w := (ADS_from rfl f11.2.2.2.1); rw [f5, f6] at w; exact w), (by have w := f11.2.2.2.2; rw [f7] at w; exact w)⟩
theorem c_168v_s_1 : vOkm T0 (eP e_168v L_168v A_168v mu_168v none) 1 ([(1004, [7, 1, 2, 3, 4, 5, 6], [0, 1], 1), (90, [7], [], -2147483648), (91, [7], [], 2147483647), (0, [6], [], 0), (0, [5], [], -1), (0, [4], [], 0), (0, [3], [], 0), (0, [2], [], 6), (20, [1, 0], [0], 7), (0, [1], [], 23), (6000, [0], [0], 0), (0, [0], [], 7)], (3000, [7], [1], 13)) := vOk_in fun ρ η h => by
  obtain ⟨f0, f1, f2, f3, f4, f5, f6, f7, f8, f9, f10, f11, _⟩ := h
  exact q_168v_1 (n0 := ρ 0) (n1 := ρ 1) (n2 := ρ 2) (n3 := ρ 3) (n4 := ρ 4) (n5 := ρ 5) (n6 := ρ 6) (n7 := ρ 7) (H0 := η 0) (H1 := η 1) f11 f10 f9 f8 f7 f6 f5 f4 f3 f2 f1 f0
def p_168v_s : List vG := [([(0, [6], [], 0), (0, [5], [], -1), (0, [4], [], 0), (0, [3], [], 0), (0, [2], [], 6), (20, [1, 0], [0], 7), (0, [1], [], 23), (6000, [0], [0], 0), (0, [0], [], 7)], (2004, [1, 2, 3, 4, 5, 6], [0], 0)),
  ([(1004, [7, 1, 2, 3, 4, 5, 6], [0, 1], 1), (90, [7], [], -2147483648), (91, [7], [], 2147483647), (0, [6], [], 0), (0, [5], [], -1), (0, [4], [], 0), (0, [3], [], 0), (0, [2], [], 6), (20, [1, 0], [0], 7), (0, [1], [], 23), (6000, [0], [0], 0), (0, [0], [], 7)], (3000, [7], [1], 13))]
theorem r_168v_s : vCovO false (eR0 e_168v L_168v cs_168v 2000) p_168v_s = true := by decide +kernel
theorem m_168v (d : Nat) : eC e_168v (d + 3) := eC_ok (e := e_168v) (L := L_168v) (cs := cs_168v) (n := 2000) (d := d + 2) (A := A_168v) (μ := mu_168v) (tp := false) (p0 := p_168v_s) rfl ⟨m_4v d, trivial⟩ rfl (.inr pre0_ok) (by decide +kernel) (fun z => nomatch z) r_168v_s (allC c_168v_s_0 (allC c_168v_s_1 allN)) allN
/- MixStage.mouth (II)I -/
noncomputable def s_171v : vM := ([(3, 11, 7, 0), (0, -2147483648, 2147483647, 0), (0, -2147483648, 2147483647, 0)], (0, -2147483648, 2147483647, 0), 0, 0, [(7, 7), (788, 0)])
def postb_171v (r a0 a1 a2 : Int) (h0 h : gH) : Prop := ((0 ≤ a1 ∧ a1 < hV h0 23 1 ∧ 0 ≤ hV h0 24 ((a1).toNat) ∧ KV h0 a1 = 2 ∧ 0 ≤ a2 ∧ a2 ≤ 59 ∧ MV h0 a1 ≤ 7) ∧ r = MV h0 a1 + 1 ∧ MOXp (hV h0 24 ((a1).toNat)) r h0 h) ∨ (¬ (0 ≤ a1 ∧ a1 < hV h0 23 1 ∧ 0 ≤ hV h0 24 ((a1).toNat) ∧ KV h0 a1 = 2 ∧ 0 ≤ a2 ∧ a2 ≤ 59 ∧ MV h0 a1 ≤ 7) ∧ r = -1 ∧ MOSp h0 h)
def post_171v : List Int → gH → gH → Prop := fun xs h0 h => match xs with
  | [r, a0, a1, a2] => postb_171v r a0 a1 a2 h0 h
  | _ => True
noncomputable def e_171v : vE := (171, s_171v, pre0, post_171v)
noncomputable def L_171v : List vE := [e_3v, e_201k788]
def cs_171v : List vC := []
def A_171v : Int → List Int → gH → gH → Prop := fun c xs h0 h => True
def mu_171v : Int → List Int → gH → gH → Nat := fun c xs h0 h => 0
theorem q_171v_0 {n0 n1 n2 n3 n4 n5 n6 : Int} {H0 H1 : gH} (f0 : n0 ≤ 2147483647) (f1 : (-2147483648) ≤ n0) (f2 : n1 ≤ 2147483647) (f3 : (-2147483648) ≤ n1) (f4 : n2 = 7) (f5 : hWt T0 H0 ∧ True) (f6 : n3 = 23) (f7 : n3 = hV H0 (n2).toNat 7) (f8 : n4 = 2) (f9 : (hLe T0 H0 H1 ∧ hFr s_3v.2.2.2.2 H0 H1 ∧ ((0 : Int) = 0 → H1.length = H0.length) ∧ hWt T0 H1) ∧ postb_3v n5 n3 n1 n4 H0 H1) (f10 : n5 = -1) (f11 : n6 = (-1)) : postb_171v n6 n2 n1 n0 H0 H1 := by
  unfold postb_3v at f9
  unfold postb_171v

  have mv : 0 ≤ n5 → MV H0 n1 = hV H1 (n5).toNat 7 := fun z => by
    have zz := f9.2
    have z1 : hV H0 24 (n1).toNat = n5 ∧ hK H0 (n5).toNat = 7 := by
      rcases zz with zz | zz
      · exact ⟨zz.2.2.2.1.symm, zz.2.2.2.2.2⟩
      · omega
    unfold MV
    rw [z1.1]
    exact (f9.1.2.1.2.2 _ 7 z1.2 rfl 7 (by decide +kernel)).symm
  refine .inr ⟨by omega, by omega, fun o ho => f9.1.2.1.2.2 _ 7 ho rfl 7 (by decide +kernel)⟩
theorem c_171v_s_0 : vOkm T0 (eP e_171v L_171v A_171v mu_171v none) 3 ([(0, [6], [], -1), (50, [5], [], 0), (1003, [5, 3, 1, 4], [0, 1], 0), (0, [4], [], 2), (20, [3, 0], [0], 7), (0, [3], [], 23), (6000, [0, 1, 2], [0], 0), (0, [0], [], 7), (90, [1], [], -2147483648), (91, [1], [], 2147483647), (90, [2], [], -2147483648), (91, [2], [], 2147483647)], (3000, [6], [1], 34)) := vOk_in fun ρ η h => by
  obtain ⟨f0, f1, f2, f3, f4, f5, f6, f7, f8, f9, f10, f11, _⟩ := h
  exact q_171v_0 (n0 := ρ 2) (n1 := ρ 1) (n2 := ρ 0) (n3 := ρ 3) (n4 := ρ 4) (n5 := ρ 5) (n6 := ρ 6) (H0 := η 0) (H1 := η 1) f11 f10 f9 f8 f7 f6 f5 f4 f3 f2 f1 f0
theorem q_171v_1 {n0 n1 n2 n3 n4 n5 n6 n7 n8 : Int} {H0 H1 : gH} (f0 : n0 ≤ 2147483647) (f1 : (-2147483648) ≤ n0) (f2 : n1 ≤ 2147483647) (f3 : (-2147483648) ≤ n1) (f4 : n2 = 7) (f5 : hWt T0 H0 ∧ True) (f6 : n3 = 23) (f7 : n3 = hV H0 (n2).toNat 7) (f8 : n4 = 2) (f9 : (hLe T0 H0 H1 ∧ hFr s_3v.2.2.2.2 H0 H1 ∧ ((0 : Int) = 0 → H1.length = H0.length) ∧ hWt T0 H1) ∧ postb_3v n5 n3 n1 n4 H0 H1) (f10 : 0 ≤ n5) (f11 : n6 ≤ 2147483647) (f12 : (-2147483648) ≤ n6) (f13 : hK H1 (n5).toNat = 7) (f14 : n6 = hV H1 (n5).toNat 7) (f15 : n7 = 8) (f16 : n7 ≤ n6) (f17 : n8 = (-1)) : postb_171v n8 n2 n1 n0 H0 H1 := by
  unfold postb_3v at f9
  unfold postb_171v
  have e0 : n6 = hV H1 (n5).toNat 7 := f14

  have mv : 0 ≤ n5 → MV H0 n1 = hV H1 (n5).toNat 7 := fun z => by
    have zz := f9.2
    have z1 : hV H0 24 (n1).toNat = n5 ∧ hK H0 (n5).toNat = 7 := by
      rcases zz with zz | zz
      · exact ⟨zz.2.2.2.1.symm, zz.2.2.2.2.2⟩
      · omega
    unfold MV
    rw [z1.1]
    exact (f9.1.2.1.2.2 _ 7 z1.2 rfl 7 (by decide +kernel)).symm
  refine .inr ⟨by omega, by omega, fun o ho => f9.1.2.1.2.2 _ 7 ho rfl 7 (by decide +kernel)⟩
theorem c_171v_s_1 : vOkm T0 (eP e_171v L_171v A_171v mu_171v none) 3 ([(0, [8], [], -1), (43, [6, 7], [], 0), (0, [7], [], 8), (20, [6, 5], [1], 7), (23, [5], [1], 7), (90, [6], [], -2147483648), (91, [6], [], 2147483647), (51, [5], [], 0), (1003, [5, 3, 1, 4], [0, 1], 0), (0, [4], [], 2), (20, [3, 0], [0], 7), (0, [3], [], 23), (6000, [0, 1, 2], [0], 0), (0, [0], [], 7), (90, [1], [], -2147483648), (91, [1], [], 2147483647), (90, [2], [], -2147483648), (91, [2], [], 2147483647)], (3000, [8], [1], 34)) := vOk_in fun ρ η h => by
  obtain ⟨f0, f1, f2, f3, f4, f5, f6, f7, f8, f9, f10, f11, f12, f13, f14, f15, f16, f17, _⟩ := h
  exact q_171v_1 (n0 := ρ 2) (n1 := ρ 1) (n2 := ρ 0) (n3 := ρ 3) (n4 := ρ 4) (n5 := ρ 5) (n6 := ρ 6) (n7 := ρ 7) (n8 := ρ 8) (H0 := η 0) (H1 := η 1) f17 f16 f15 f14 f13 f12 f11 f10 f9 f8 f7 f6 f5 f4 f3 f2 f1 f0
theorem q_171v_2 {n0 n1 n2 n3 n4 n5 n6 n7 n8 : Int} {H0 H1 : gH} (f0 : n0 ≤ 2147483647) (f1 : (-2147483648) ≤ n0) (f2 : n1 ≤ 2147483647) (f3 : (-2147483648) ≤ n1) (f4 : n2 = 7) (f5 : hWt T0 H0 ∧ True) (f6 : n3 = 23) (f7 : n3 = hV H0 (n2).toNat 7) (f8 : n4 = 2) (f9 : (hLe T0 H0 H1 ∧ hFr s_3v.2.2.2.2 H0 H1 ∧ ((0 : Int) = 0 → H1.length = H0.length) ∧ hWt T0 H1) ∧ postb_3v n5 n3 n1 n4 H0 H1) (f10 : 0 ≤ n5) (f11 : n6 ≤ 2147483647) (f12 : (-2147483648) ≤ n6) (f13 : hK H1 (n5).toNat = 7) (f14 : n6 = hV H1 (n5).toNat 7) (f15 : n7 = 8) (f16 : n6 < n7) (f17 : n0 < 0) (f18 : n8 = (-1)) : postb_171v n8 n2 n1 n0 H0 H1 := by
  unfold postb_3v at f9
  unfold postb_171v
  have e0 : n6 = hV H1 (n5).toNat 7 := f14

  have mv : 0 ≤ n5 → MV H0 n1 = hV H1 (n5).toNat 7 := fun z => by
    have zz := f9.2
    have z1 : hV H0 24 (n1).toNat = n5 ∧ hK H0 (n5).toNat = 7 := by
      rcases zz with zz | zz
      · exact ⟨zz.2.2.2.1.symm, zz.2.2.2.2.2⟩
      · omega
    unfold MV
    rw [z1.1]
    exact (f9.1.2.1.2.2 _ 7 z1.2 rfl 7 (by decide +kernel)).symm
  refine .inr ⟨by omega, by omega, fun o ho => f9.1.2.1.2.2 _ 7 ho rfl 7 (by decide +kernel)⟩
theorem c_171v_s_2 : vOkm T0 (eP e_171v L_171v A_171v mu_171v none) 3 ([(0, [8], [], -1), (32, [2], [], 0), (42, [6, 7], [], 0), (0, [7], [], 8), (20, [6, 5], [1], 7), (23, [5], [1], 7), (90, [6], [], -2147483648), (91, [6], [], 2147483647), (51, [5], [], 0), (1003, [5, 3, 1, 4], [0, 1], 0), (0, [4], [], 2), (20, [3, 0], [0], 7), (0, [3], [], 23), (6000, [0, 1, 2], [0], 0), (0, [0], [], 7), (90, [1], [], -2147483648), (91, [1], [], 2147483647), (90, [2], [], -2147483648), (91, [2], [], 2147483647)], (3000, [8], [1], 34)) := vOk_in fun ρ η h => by
  obtain ⟨f0, f1, f2, f3, f4, f5, f6, f7, f8, f9, f10, f11, f12, f13, f14, f15, f16, f17, f18, _⟩ := h
  exact q_171v_2 (n0 := ρ 2) (n1 := ρ 1) (n2 := ρ 0) (n3 := ρ 3) (n4 := ρ 4) (n5 := ρ 5) (n6 := ρ 6) (n7 := ρ 7) (n8 := ρ 8) (H0 := η 0) (H1 := η 1) f18 f17 f16 f15 f14 f13 f12 f11 f10 f9 f8 f7 f6 f5 f4 f3 f2 f1 f0
theorem q_171v_3 {n0 n1 n2 n3 n4 n5 n6 n7 n8 n9 n10 n11 n12 n13 n14 n15 : Int} {H0 H1 H2 H3 : gH} (f0 : n0 ≤ 2147483647) (f1 : (-2147483648) ≤ n0) (f2 : n1 ≤ 2147483647) (f3 : (-2147483648) ≤ n1) (f4 : n2 = 7) (f5 : hWt T0 H0 ∧ True) (f6 : n3 = 23) (f7 : n3 = hV H0 (n2).toNat 7) (f8 : n4 = 2) (f9 : (hLe T0 H0 H1 ∧ hFr s_3v.2.2.2.2 H0 H1 ∧ ((0 : Int) = 0 → H1.length = H0.length) ∧ hWt T0 H1) ∧ postb_3v n5 n3 n1 n4 H0 H1) (f10 : 0 ≤ n5) (f11 : n6 ≤ 2147483647) (f12 : (-2147483648) ≤ n6) (f13 : hK H1 (n5).toNat = 7) (f14 : n6 = hV H1 (n5).toNat 7) (f15 : n7 = 8) (f16 : n6 < n7) (f17 : 0 ≤ n0) (f18 : n8 = 60) (f19 : n0 < n8) (f20 : 0 ≤ n9) (f21 : hK H1 (n5).toNat = 7) (f22 : n9 = hV H1 (n5).toNat 5) (f23 : n10 ≤ 2147483647) (f24 : (-2147483648) ≤ n10) (f25 : hK H1 (n5).toNat = 7) (f26 : n10 = hV H1 (n5).toNat 7) (f27 : (hLe T0 H1 H2 ∧ hFr s_201k788.2.2.2.2 H1 H2 ∧ ((0 : Int) = 0 → H2.length = H1.length) ∧ hWt T0 H2) ∧ True) (f28 : n11 ≤ 2147483647) (f29 : (-2147483648) ≤ n11) (f30 : hK H2 (n5).toNat = 7) (f31 : n11 = hV H2 (n5).toNat 7) (f32 : n12 = 1) (f33 : n13 = w32 (n11 + n12)) (f34 : hK H2 (n5).toNat = 7) (f35 : n14 = 7) (f36 : hUpd H3 H2 n5 n14 n13) (f37 : n15 ≤ 2147483647) (f38 : (-2147483648) ≤ n15) (f39 : hK H3 (n5).toNat = 7) (f40 : n15 = hV H3 (n5).toNat 7) : postb_171v n15 n2 n1 n0 H0 H3 := by
  unfold postb_3v at f9
  unfold postb_171v
  have e0 : n6 = hV H1 (n5).toNat 7 := f14
  have e1 : n9 = hV H1 (n5).toNat 5 := f22
  have e2 : n10 = hV H1 (n5).toNat 7 := f26
  have e3 : hV H2 (n5).toNat 7 = hV H1 (n5).toNat 7 := f27.1.2.1.2.2 _ _ f13 rfl 7 (by decide +kernel)
  have e4 : n11 = hV H1 (n5).toNat 7 := f31.trans (e3)
  have e5 : hV H3 (n5).toNat 7 = n13 := uSame f36 _ _ (Int.toNat_of_nonneg (by omega)) f35.symm
  have e6 : n15 = n13 := f40.trans (e5)
  unfold w32 at *

  have mv : 0 ≤ n5 → MV H0 n1 = hV H1 (n5).toNat 7 := fun z => by
    have zz := f9.2
    have z1 : hV H0 24 (n1).toNat = n5 ∧ hK H0 (n5).toNat = 7 := by
      rcases zz with zz | zz
      · exact ⟨zz.2.2.2.1.symm, zz.2.2.2.2.2⟩
      · omega
    unfold MV
    rw [z1.1]
    exact (f9.1.2.1.2.2 _ 7 z1.2 rfl 7 (by decide +kernel)).symm
  have zz : 0 ≤ n5 ∧ hV H0 24 (n1).toNat = n5 ∧ hK H0 (n5).toNat = 7 := by
    rcases f9.2 with zz | zz
    · exact ⟨zz.2.2.1, zz.2.2.2.1.symm, zz.2.2.2.2.2⟩
    · omega
  have m1 : ∀ o : Nat, hK H0 o = 7 → hV H2 o 7 = hV H0 o 7 := fun o ho => (f27.1.2.1.2.2 _ 7 (kLe f9.1.1 ho rfl) rfl 7 (by decide +kernel)).trans (f9.1.2.1.2.2 _ 7 ho rfl 7 (by decide +kernel))
  have m2 := m1 (n5).toNat zz.2.2
  have m3 : MV H0 n1 = hV H0 (n5).toNat 7 := by
    unfold MV
    rw [zz.2.1]
  have m4 : hV H3 (n5).toNat 7 = n13 := uSame f36 _ _ (Int.toNat_of_nonneg zz.1) f35.symm
  refine .inl ⟨by omega, by omega, ?_, fun o ho hn => (uPlace f36 _ _ ?_).trans (m1 o ho)⟩
  · rw [zz.2.1, m4]
    omega
  · rw [zz.2.1] at hn
    exact hn
theorem c_171v_s_3 : vOkm T0 (eP e_171v L_171v A_171v mu_171v none) 3 ([(20, [15, 5], [3], 7), (23, [5], [3], 7), (90, [15], [], -2147483648), (91, [15], [], 2147483647), (80, [5, 14, 13], [3, 2], 0), (0, [14], [], 7), (23, [5], [2], 7), (1, [13, 11, 12], [], 0), (0, [12], [], 1), (20, [11, 5], [2], 7), (23, [5], [2], 7), (90, [11], [], -2147483648), (91, [11], [], 2147483647), (1201, [9, 10, 2], [1, 2], 0), (20, [10, 5], [1], 7), (23, [5], [1], 7), (90, [10], [], -2147483648), (91, [10], [], 2147483647), (20, [9, 5], [1], 5), (23, [5], [1], 7), (51, [9], [], 0), (42, [2, 8], [], 0), (0, [8], [], 60), (33, [2], [], 0), (42, [6, 7], [], 0), (0, [7], [], 8), (20, [6, 5], [1], 7), (23, [5], [1], 7), (90, [6], [], -2147483648), (91, [6], [], 2147483647), (51, [5], [], 0), (1003, [5, 3, 1, 4], [0, 1], 0), (0, [4], [], 2), (20, [3, 0], [0], 7), (0, [3], [], 23), (6000, [0, 1, 2], [0], 0), (0, [0], [], 7), (90, [1], [], -2147483648), (91, [1], [], 2147483647), (90, [2], [], -2147483648), (91, [2], [], 2147483647)], (3000, [15], [3], 61)) := vOk_in fun ρ η h => by
  obtain ⟨f0, f1, f2, f3, f4, f5, f6, f7, f8, f9, f10, f11, f12, f13, f14, f15, f16, f17, f18, f19, f20, f21, f22, f23, f24, f25, f26, f27, f28, f29, f30, f31, f32, f33, f34, f35, f36, f37, f38, f39, f40, _⟩ := h
  exact q_171v_3 (n0 := ρ 2) (n1 := ρ 1) (n2 := ρ 0) (n3 := ρ 3) (n4 := ρ 4) (n5 := ρ 5) (n6 := ρ 6) (n7 := ρ 7) (n8 := ρ 8) (n9 := ρ 9) (n10 := ρ 10) (n11 := ρ 11) (n12 := ρ 12) (n13 := ρ 13) (n14 := ρ 14) (n15 := ρ 15) (H0 := η 0) (H1 := η 1) (H2 := η 2) (H3 := η 3) f40 f39 f38 f37 f36 f35 f34 f33 f32 f31 f30 f29 f28 f27 f26 f25 f24 f23 f22 f21 f20 f19 f18 f17 f16 f15 f14 f13 f12 f11 f10 f9 f8 f7 f6 f5 f4 f3 f2 f1 f0
theorem q_171v_4 {n0 n1 n2 n3 n4 n5 n6 n7 n8 n9 : Int} {H0 H1 : gH} (f0 : n0 ≤ 2147483647) (f1 : (-2147483648) ≤ n0) (f2 : n1 ≤ 2147483647) (f3 : (-2147483648) ≤ n1) (f4 : n2 = 7) (f5 : hWt T0 H0 ∧ True) (f6 : n3 = 23) (f7 : n3 = hV H0 (n2).toNat 7) (f8 : n4 = 2) (f9 : (hLe T0 H0 H1 ∧ hFr s_3v.2.2.2.2 H0 H1 ∧ ((0 : Int) = 0 → H1.length = H0.length) ∧ hWt T0 H1) ∧ postb_3v n5 n3 n1 n4 H0 H1) (f10 : 0 ≤ n5) (f11 : n6 ≤ 2147483647) (f12 : (-2147483648) ≤ n6) (f13 : hK H1 (n5).toNat = 7) (f14 : n6 = hV H1 (n5).toNat 7) (f15 : n7 = 8) (f16 : n6 < n7) (f17 : 0 ≤ n0) (f18 : n8 = 60) (f19 : n8 ≤ n0) (f20 : n9 = (-1)) : postb_171v n9 n2 n1 n0 H0 H1 := by
  unfold postb_3v at f9
  unfold postb_171v
  have e0 : n6 = hV H1 (n5).toNat 7 := f14

  have mv : 0 ≤ n5 → MV H0 n1 = hV H1 (n5).toNat 7 := fun z => by
    have zz := f9.2
    have z1 : hV H0 24 (n1).toNat = n5 ∧ hK H0 (n5).toNat = 7 := by
      rcases zz with zz | zz
      · exact ⟨zz.2.2.2.1.symm, zz.2.2.2.2.2⟩
      · omega
    unfold MV
    rw [z1.1]
    exact (f9.1.2.1.2.2 _ 7 z1.2 rfl 7 (by decide +kernel)).symm
  refine .inr ⟨by omega, by omega, fun o ho => f9.1.2.1.2.2 _ 7 ho rfl 7 (by decide +kernel)⟩
theorem c_171v_s_4 : vOkm T0 (eP e_171v L_171v A_171v mu_171v none) 3 ([(0, [9], [], -1), (43, [2, 8], [], 0), (0, [8], [], 60), (33, [2], [], 0), (42, [6, 7], [], 0), (0, [7], [], 8), (20, [6, 5], [1], 7), (23, [5], [1], 7), (90, [6], [], -2147483648), (91, [6], [], 2147483647), (51, [5], [], 0), (1003, [5, 3, 1, 4], [0, 1], 0), (0, [4], [], 2), (20, [3, 0], [0], 7), (0, [3], [], 23), (6000, [0, 1, 2], [0], 0), (0, [0], [], 7), (90, [1], [], -2147483648), (91, [1], [], 2147483647), (90, [2], [], -2147483648), (91, [2], [], 2147483647)], (3000, [9], [1], 34)) := vOk_in fun ρ η h => by
  obtain ⟨f0, f1, f2, f3, f4, f5, f6, f7, f8, f9, f10, f11, f12, f13, f14, f15, f16, f17, f18, f19, f20, _⟩ := h
  exact q_171v_4 (n0 := ρ 2) (n1 := ρ 1) (n2 := ρ 0) (n3 := ρ 3) (n4 := ρ 4) (n5 := ρ 5) (n6 := ρ 6) (n7 := ρ 7) (n8 := ρ 8) (n9 := ρ 9) (H0 := η 0) (H1 := η 1) f20 f19 f18 f17 f16 f15 f14 f13 f12 f11 f10 f9 f8 f7 f6 f5 f4 f3 f2 f1 f0
def p_171v_s : List vG := [([(0, [6], [], -1), (50, [5], [], 0), (1003, [5, 3, 1, 4], [0, 1], 0), (0, [4], [], 2), (20, [3, 0], [0], 7), (0, [3], [], 23), (6000, [0, 1, 2], [0], 0), (0, [0], [], 7), (90, [1], [], -2147483648), (91, [1], [], 2147483647), (90, [2], [], -2147483648), (91, [2], [], 2147483647)], (3000, [6], [1], 34)),
  ([(0, [8], [], -1), (43, [6, 7], [], 0), (0, [7], [], 8), (20, [6, 5], [1], 7), (23, [5], [1], 7), (90, [6], [], -2147483648), (91, [6], [], 2147483647), (51, [5], [], 0), (1003, [5, 3, 1, 4], [0, 1], 0), (0, [4], [], 2), (20, [3, 0], [0], 7), (0, [3], [], 23), (6000, [0, 1, 2], [0], 0), (0, [0], [], 7), (90, [1], [], -2147483648), (91, [1], [], 2147483647), (90, [2], [], -2147483648), (91, [2], [], 2147483647)], (3000, [8], [1], 34)),
  ([(0, [8], [], -1), (32, [2], [], 0), (42, [6, 7], [], 0), (0, [7], [], 8), (20, [6, 5], [1], 7), (23, [5], [1], 7), (90, [6], [], -2147483648), (91, [6], [], 2147483647), (51, [5], [], 0), (1003, [5, 3, 1, 4], [0, 1], 0), (0, [4], [], 2), (20, [3, 0], [0], 7), (0, [3], [], 23), (6000, [0, 1, 2], [0], 0), (0, [0], [], 7), (90, [1], [], -2147483648), (91, [1], [], 2147483647), (90, [2], [], -2147483648), (91, [2], [], 2147483647)], (3000, [8], [1], 34)),
  ([(20, [15, 5], [3], 7), (23, [5], [3], 7), (90, [15], [], -2147483648), (91, [15], [], 2147483647), (80, [5, 14, 13], [3, 2], 0), (0, [14], [], 7), (23, [5], [2], 7), (1, [13, 11, 12], [], 0), (0, [12], [], 1), (20, [11, 5], [2], 7), (23, [5], [2], 7), (90, [11], [], -2147483648), (91, [11], [], 2147483647), (1201, [9, 10, 2], [1, 2], 0), (20, [10, 5], [1], 7), (23, [5], [1], 7), (90, [10], [], -2147483648), (91, [10], [], 2147483647), (20, [9, 5], [1], 5), (23, [5], [1], 7), (51, [9], [], 0), (42, [2, 8], [], 0), (0, [8], [], 60), (33, [2], [], 0), (42, [6, 7], [], 0), (0, [7], [], 8), (20, [6, 5], [1], 7), (23, [5], [1], 7), (90, [6], [], -2147483648), (91, [6], [], 2147483647), (51, [5], [], 0), (1003, [5, 3, 1, 4], [0, 1], 0), (0, [4], [], 2), (20, [3, 0], [0], 7), (0, [3], [], 23), (6000, [0, 1, 2], [0], 0), (0, [0], [], 7), (90, [1], [], -2147483648), (91, [1], [], 2147483647), (90, [2], [], -2147483648), (91, [2], [], 2147483647)], (3000, [15], [3], 61)),
  ([(0, [9], [], -1), (43, [2, 8], [], 0), (0, [8], [], 60), (33, [2], [], 0), (42, [6, 7], [], 0), (0, [7], [], 8), (20, [6, 5], [1], 7), (23, [5], [1], 7), (90, [6], [], -2147483648), (91, [6], [], 2147483647), (51, [5], [], 0), (1003, [5, 3, 1, 4], [0, 1], 0), (0, [4], [], 2), (20, [3, 0], [0], 7), (0, [3], [], 23), (6000, [0, 1, 2], [0], 0), (0, [0], [], 7), (90, [1], [], -2147483648), (91, [1], [], 2147483647), (90, [2], [], -2147483648), (91, [2], [], 2147483647)], (3000, [9], [1], 34))]
theorem r_171v_s : vCovO false (eR0 e_171v L_171v cs_171v 2000) p_171v_s = true := by decide +kernel
theorem m_171v (d : Nat) : eC e_171v (d + 3) := eC_ok (e := e_171v) (L := L_171v) (cs := cs_171v) (n := 2000) (d := d + 2) (A := A_171v) (μ := mu_171v) (tp := false) (p0 := p_171v_s) rfl ⟨m_3v d, ⟨m_201k788 (d + 1), trivial⟩⟩ rfl (.inr pre0_ok) (by decide +kernel) (fun z => nomatch z) r_171v_s (allC c_171v_s_0 (allC c_171v_s_1 (allC c_171v_s_2 (allC c_171v_s_3 (allC c_171v_s_4 allN))))) allN
