/-! CONTRACTS of methods told more fully. -/
/-! CONTRACTS of the reference, sizes coupled (printed by wip/gen/fam17.py). -/
/- MixStageModel.isOwn (I)Z -/
noncomputable def s_257v : vM := ([(3, 12, 285, 0), (0, -2147483648, 2147483647, 0)], (0, 0, 1, 0), 0, 0, [])
def postb_257v (r a0 a1 : Int) (h0 h : gH) : Prop := (r = 1 ∧ 0 ≤ a1 ∧ a1 < hV h 285 64 ∧ hV h 328 ((a1).toNat) < 4 ∧ ¬ hV h 329 ((a1).toNat) = -1 ∧ 0 ≤ hV h 329 ((a1).toNat)) ∨ (r = 0 ∧ ¬ (0 ≤ a1 ∧ a1 < hV h 285 64 ∧ hV h 328 ((a1).toNat) < 4 ∧ ¬ hV h 329 ((a1).toNat) = -1))
def post_257v : List Int → gH → gH → Prop := fun xs h0 h => match xs with
  | [r, a0, a1] => postb_257v r a0 a1 h0 h
  | _ => True
noncomputable def e_257v : vE := (257, s_257v, pre0, post_257v)
noncomputable def L_257v : List vE := [e_250]
def cs_257v : List vC := []
def A_257v : Int → List Int → gH → gH → Prop := fun c xs h0 h => True
def mu_257v : Int → List Int → gH → gH → Nat := fun c xs h0 h => 0
theorem q_257v_0 {n0 n1 n2 n3 : Int} {H0 H1 : gH} (f0 : n0 ≤ 2147483647) (f1 : (-2147483648) ≤ n0) (f2 : n1 = 285) (f3 : hWt T0 H0 ∧ True) (f4 : n2 ≤ 1) (f5 : 0 ≤ n2) (f6 : (hLe T0 H0 H1 ∧ hFr s_250.2.2.2.2 H0 H1 ∧ ((0 : Int) = 0 → H1.length = H0.length) ∧ hWt T0 H1) ∧ postb_250 n2 n1 n0 H0 H1) (f7 : n2 = 0) (f8 : n3 = 0) : postb_257v n3 n1 n0 H0 H1 := by
  unfold postb_250 at f6
  unfold postb_257v
  have e0 : hV H1 285 64 = hV H0 285 64 := f6.1.2.1.1 285 64 (by decide +kernel)
  have e1 : hV H1 285 64 = hV H0 285 64 := e0
  have e2 : hV H1 328 = hV H0 328 := fRow f6.1.2.1 328 (by decide +kernel)
  have e3 : hV H1 329 = hV H0 329 := fRow f6.1.2.1 329 (by decide +kernel)
  have e4 : (0 : Int) ≤ hV H1 285 64 ∧ hV H1 285 64 ≤ 20 := f6.1.2.2.2 285 64 _ _ (by decide +kernel)
  have e5 : (0 : Int) ≤ hV H0 285 64 ∧ hV H0 285 64 ≤ 20 := f3.1 285 64 _ _ (by decide +kernel)
  try simp only [e1, e2, e3] at f6
  try simp only [e1, e2, e3] at e4
  try simp only [e1, e2, e3] at e5
  try simp only [e1, e2, e3]
  have r0_0 := f6.2
  try simp only [e1, e2, e3] at r0_0
  clear e0 e1 e2 e3
  first | assumption | omega | trivial
def g_257v_s_0 : vG := ([(0, [3], [], 0), (30, [2], [], 0), (1250, [2, 0, 1], [0, 1], 0), (90, [2], [], 0), (91, [2], [], 1), (6000, [0, 1], [0], 0), (0, [0], [], 285), (90, [1], [], -2147483648), (91, [1], [], 2147483647)], (3000, [3], [1], 33))
theorem c_257v_s_0 : vOkm T0 (eP e_257v L_257v A_257v mu_257v none) 2 g_257v_s_0 := vOk_in fun ρ η h => by
  obtain ⟨f0, f1, f2, f3, f4, f5, f6, f7, f8, _⟩ := h
  exact q_257v_0 (n0 := ρ 1) (n1 := ρ 0) (n2 := ρ 2) (n3 := ρ 3) (H0 := η 0) (H1 := η 1) f8 f7 f6 f5 f4 f3 f2 f1 f0
theorem q_257v_1 {n0 n1 n2 : Int} {H0 H1 : gH} (f0 : n0 ≤ 2147483647) (f1 : (-2147483648) ≤ n0) (f2 : n1 = 285) (f3 : hWt T0 H0 ∧ True) (f4 : n2 ≤ 1) (f5 : 0 ≤ n2) (f6 : (hLe T0 H0 H1 ∧ hFr s_250.2.2.2.2 H0 H1 ∧ ((0 : Int) = 0 → H1.length = H0.length) ∧ hWt T0 H1) ∧ postb_250 n2 n1 n0 H0 H1) (f7 : n2 ≠ 0) : 0 ≤ n0 ∧ n0 < 20 := by
  unfold postb_250 at f6
  have e0 : hV H1 285 64 = hV H0 285 64 := f6.1.2.1.1 285 64 (by decide +kernel)
  have e1 : hV H1 285 64 = hV H0 285 64 := e0
  have e2 : (0 : Int) ≤ hV H1 285 64 ∧ hV H1 285 64 ≤ 20 := f6.1.2.2.2 285 64 _ _ (by decide +kernel)
  have e3 : (0 : Int) ≤ hV H0 285 64 ∧ hV H0 285 64 ≤ 20 := f3.1 285 64 _ _ (by decide +kernel)
  try simp only [e1] at f6
  try simp only [e1] at e2
  try simp only [e1] at e3
  try simp only [e1]
  have r0_0 := f6.2
  try simp only [e1] at r0_0
  clear e0 e1
  omega
def g_257v_s_1 : vG := ([(31, [2], [], 0), (1250, [2, 0, 1], [0, 1], 0), (90, [2], [], 0), (91, [2], [], 1), (6000, [0, 1], [0], 0), (0, [0], [], 285), (90, [1], [], -2147483648), (91, [1], [], 2147483647)], (70, [1], [], 20))
theorem c_257v_s_1 : vOkm T0 (eP e_257v L_257v A_257v mu_257v none) 2 g_257v_s_1 := vOk_in fun ρ η h => by
  obtain ⟨f0, f1, f2, f3, f4, f5, f6, f7, _⟩ := h
  exact q_257v_1 (n0 := ρ 1) (n1 := ρ 0) (n2 := ρ 2) (H0 := η 0) (H1 := η 1) f7 f6 f5 f4 f3 f2 f1 f0
theorem q_257v_2 {n0 n1 n2 n3 n4 n5 n6 : Int} {H0 H1 : gH} (f0 : n0 ≤ 2147483647) (f1 : (-2147483648) ≤ n0) (f2 : n1 = 285) (f3 : hWt T0 H0 ∧ True) (f4 : n2 ≤ 1) (f5 : 0 ≤ n2) (f6 : (hLe T0 H0 H1 ∧ hFr s_250.2.2.2.2 H0 H1 ∧ ((0 : Int) = 0 → H1.length = H0.length) ∧ hWt T0 H1) ∧ postb_250 n2 n1 n0 H0 H1) (f7 : n2 ≠ 0) (f8 : n3 = 328) (f9 : n3 = hV H1 (n1).toNat 66) (f10 : n4 ≤ 6) (f11 : 0 ≤ n4) (f12 : n4 = hV H1 (n3).toNat (n0).toNat) (f13 : n5 = 4) (f14 : n5 ≤ n4) (f15 : n6 = 0) : postb_257v n6 n1 n0 H0 H1 := by
  unfold postb_250 at f6
  unfold postb_257v
  have e0 : hV H1 328 = hV H0 328 := fRow f6.1.2.1 328 (by decide +kernel)
  have e1 : n4 = hV H0 328 (n0).toNat := (by rw [f8] at f12; exact f12 : n4 = hV H1 328 (n0).toNat).trans ((congrFun e0 _))
  have e2 : hV H1 285 64 = hV H0 285 64 := f6.1.2.1.1 285 64 (by decide +kernel)
  have e3 : hV H1 285 64 = hV H0 285 64 := e2
  have e4 : hV H1 329 = hV H0 329 := fRow f6.1.2.1 329 (by decide +kernel)
  have e5 : (0 : Int) ≤ hV H1 285 64 ∧ hV H1 285 64 ≤ 20 := f6.1.2.2.2 285 64 _ _ (by decide +kernel)
  have e6 : (0 : Int) ≤ hV H0 285 64 ∧ hV H0 285 64 ≤ 20 := f3.1 285 64 _ _ (by decide +kernel)
  try simp only [e3, e0, e4] at f6
  try simp only [e3, e0, e4] at e5
  try simp only [e3, e0, e4] at e6
  try simp only [e3, e0, e4]
  have r0_0 := f6.2
  try simp only [e3, e0, e4] at r0_0
  clear f9 f12 e0 e2 e3 e4
  subst e1
  first | assumption | omega | trivial
def g_257v_s_2 : vG := ([(0, [6], [], 0), (43, [4, 5], [], 0), (0, [5], [], 4), (22, [4, 3, 1], [1], 0), (90, [4], [], 0), (91, [4], [], 6), (20, [3, 0], [1], 66), (0, [3], [], 328), (31, [2], [], 0), (1250, [2, 0, 1], [0, 1], 0), (90, [2], [], 0), (91, [2], [], 1), (6000, [0, 1], [0], 0), (0, [0], [], 285), (90, [1], [], -2147483648), (91, [1], [], 2147483647)], (3000, [6], [1], 33))
theorem c_257v_s_2 : vOkm T0 (eP e_257v L_257v A_257v mu_257v none) 2 g_257v_s_2 := vOk_in fun ρ η h => by
  obtain ⟨f0, f1, f2, f3, f4, f5, f6, f7, f8, f9, f10, f11, f12, f13, f14, f15, _⟩ := h
  exact q_257v_2 (n0 := ρ 1) (n1 := ρ 0) (n2 := ρ 2) (n3 := ρ 3) (n4 := ρ 4) (n5 := ρ 5) (n6 := ρ 6) (H0 := η 0) (H1 := η 1) f15 f14 f13 f12 f11 f10 f9 f8 f7 f6 f5 f4 f3 f2 f1 f0
def g_257v_s_3 : vG := ([(31, [2], [], 0), (1250, [2, 0, 1], [0, 1], 0), (90, [2], [], 0), (91, [2], [], 1), (6000, [0, 1], [0], 0), (0, [0], [], 285), (90, [1], [], -2147483648), (91, [1], [], 2147483647)], (70, [1], [], 20))
theorem c_257v_s_3 : vOkm T0 (eP e_257v L_257v A_257v mu_257v none) 2 g_257v_s_3 := vOk_in fun ρ η h => by
  obtain ⟨f0, f1, f2, f3, f4, f5, f6, f7, _⟩ := h
  exact q_257v_1 (n0 := ρ 1) (n1 := ρ 0) (n2 := ρ 2) (H0 := η 0) (H1 := η 1) f7 f6 f5 f4 f3 f2 f1 f0
theorem q_257v_3 {n0 n1 n2 n3 n4 n5 n6 n7 n8 n9 : Int} {H0 H1 : gH} (f0 : n0 ≤ 2147483647) (f1 : (-2147483648) ≤ n0) (f2 : n1 = 285) (f3 : hWt T0 H0 ∧ True) (f4 : n2 ≤ 1) (f5 : 0 ≤ n2) (f6 : (hLe T0 H0 H1 ∧ hFr s_250.2.2.2.2 H0 H1 ∧ ((0 : Int) = 0 → H1.length = H0.length) ∧ hWt T0 H1) ∧ postb_250 n2 n1 n0 H0 H1) (f7 : n2 ≠ 0) (f8 : n3 = 328) (f9 : n3 = hV H1 (n1).toNat 66) (f10 : n4 ≤ 6) (f11 : 0 ≤ n4) (f12 : n4 = hV H1 (n3).toNat (n0).toNat) (f13 : n5 = 4) (f14 : n4 < n5) (f15 : n6 = 329) (f16 : n6 = hV H1 (n1).toNat 67) (f17 : n7 ≤ 240) (f18 : (-1) ≤ n7) (f19 : n7 = hV H1 (n6).toNat (n0).toNat) (f20 : n8 = (-1)) (f21 : n7 = n8) (f22 : n9 = 0) : postb_257v n9 n1 n0 H0 H1 := by
  unfold postb_250 at f6
  unfold postb_257v
  have e0 : hV H1 328 = hV H0 328 := fRow f6.1.2.1 328 (by decide +kernel)
  have e1 : n4 = hV H0 328 (n0).toNat := (by rw [f8] at f12; exact f12 : n4 = hV H1 328 (n0).toNat).trans ((congrFun e0 _))
  have e2 : hV H1 329 = hV H0 329 := fRow f6.1.2.1 329 (by decide +kernel)
  have e3 : n7 = hV H0 329 (n0).toNat := (by rw [f15] at f19; exact f19 : n7 = hV H1 329 (n0).toNat).trans ((congrFun e2 _))
  have e4 : hV H1 285 64 = hV H0 285 64 := f6.1.2.1.1 285 64 (by decide +kernel)
  have e5 : hV H1 285 64 = hV H0 285 64 := e4
  have e6 : (0 : Int) ≤ hV H1 285 64 ∧ hV H1 285 64 ≤ 20 := f6.1.2.2.2 285 64 _ _ (by decide +kernel)
  have e7 : (0 : Int) ≤ hV H0 285 64 ∧ hV H0 285 64 ≤ 20 := f3.1 285 64 _ _ (by decide +kernel)
  try simp only [e5, e0, e2] at f6
  try simp only [e5, e0, e2] at e6
  try simp only [e5, e0, e2] at e7
  try simp only [e5, e0, e2]
  have r0_0 := f6.2
  try simp only [e5, e0, e2] at r0_0
  clear f9 f12 f16 f19 e0 e2 e4 e5
  subst e1
  subst e3
  first | assumption | omega | trivial
def g_257v_s_4 : vG := ([(0, [9], [], 0), (40, [7, 8], [], 0), (0, [8], [], -1), (22, [7, 6, 1], [1], 0), (90, [7], [], -1), (91, [7], [], 240), (20, [6, 0], [1], 67), (0, [6], [], 329), (42, [4, 5], [], 0), (0, [5], [], 4), (22, [4, 3, 1], [1], 0), (90, [4], [], 0), (91, [4], [], 6), (20, [3, 0], [1], 66), (0, [3], [], 328), (31, [2], [], 0), (1250, [2, 0, 1], [0, 1], 0), (90, [2], [], 0), (91, [2], [], 1), (6000, [0, 1], [0], 0), (0, [0], [], 285), (90, [1], [], -2147483648), (91, [1], [], 2147483647)], (3000, [9], [1], 33))
theorem c_257v_s_4 : vOkm T0 (eP e_257v L_257v A_257v mu_257v none) 2 g_257v_s_4 := vOk_in fun ρ η h => by
  obtain ⟨f0, f1, f2, f3, f4, f5, f6, f7, f8, f9, f10, f11, f12, f13, f14, f15, f16, f17, f18, f19, f20, f21, f22, _⟩ := h
  exact q_257v_3 (n0 := ρ 1) (n1 := ρ 0) (n2 := ρ 2) (n3 := ρ 3) (n4 := ρ 4) (n5 := ρ 5) (n6 := ρ 6) (n7 := ρ 7) (n8 := ρ 8) (n9 := ρ 9) (H0 := η 0) (H1 := η 1) f22 f21 f20 f19 f18 f17 f16 f15 f14 f13 f12 f11 f10 f9 f8 f7 f6 f5 f4 f3 f2 f1 f0
theorem q_257v_4 {n0 n1 n2 n3 n4 n5 n6 n7 n8 n9 : Int} {H0 H1 : gH} (f0 : n0 ≤ 2147483647) (f1 : (-2147483648) ≤ n0) (f2 : n1 = 285) (f3 : hWt T0 H0 ∧ True) (f4 : n2 ≤ 1) (f5 : 0 ≤ n2) (f6 : (hLe T0 H0 H1 ∧ hFr s_250.2.2.2.2 H0 H1 ∧ ((0 : Int) = 0 → H1.length = H0.length) ∧ hWt T0 H1) ∧ postb_250 n2 n1 n0 H0 H1) (f7 : n2 ≠ 0) (f8 : n3 = 328) (f9 : n3 = hV H1 (n1).toNat 66) (f10 : n4 ≤ 6) (f11 : 0 ≤ n4) (f12 : n4 = hV H1 (n3).toNat (n0).toNat) (f13 : n5 = 4) (f14 : n4 < n5) (f15 : n6 = 329) (f16 : n6 = hV H1 (n1).toNat 67) (f17 : n7 ≤ 240) (f18 : (-1) ≤ n7) (f19 : n7 = hV H1 (n6).toNat (n0).toNat) (f20 : n8 = (-1)) (f21 : n7 ≠ n8) (f22 : n9 = 1) : postb_257v n9 n1 n0 H0 H1 := by
  unfold postb_250 at f6
  unfold postb_257v
  have e0 : hV H1 328 = hV H0 328 := fRow f6.1.2.1 328 (by decide +kernel)
  have e1 : n4 = hV H0 328 (n0).toNat := (by rw [f8] at f12; exact f12 : n4 = hV H1 328 (n0).toNat).trans ((congrFun e0 _))
  have e2 : hV H1 329 = hV H0 329 := fRow f6.1.2.1 329 (by decide +kernel)
  have e3 : n7 = hV H0 329 (n0).toNat := (by rw [f15] at f19; exact f19 : n7 = hV H1 329 (n0).toNat).trans ((congrFun e2 _))
  have e4 : hV H1 285 64 = hV H0 285 64 := f6.1.2.1.1 285 64 (by decide +kernel)
  have e5 : hV H1 285 64 = hV H0 285 64 := e4
  have e6 : (0 : Int) ≤ hV H1 285 64 ∧ hV H1 285 64 ≤ 20 := f6.1.2.2.2 285 64 _ _ (by decide +kernel)
  have e7 : (0 : Int) ≤ hV H0 285 64 ∧ hV H0 285 64 ≤ 20 := f3.1 285 64 _ _ (by decide +kernel)
  try simp only [e5, e0, e2] at f6
  try simp only [e5, e0, e2] at e6
  try simp only [e5, e0, e2] at e7
  try simp only [e5, e0, e2]
  have r0_0 := f6.2
  try simp only [e5, e0, e2] at r0_0
  clear f9 f12 f16 f19 e0 e2 e4 e5
  subst e1
  subst e3
  first | assumption | omega | trivial
def g_257v_s_5 : vG := ([(0, [9], [], 1), (41, [7, 8], [], 0), (0, [8], [], -1), (22, [7, 6, 1], [1], 0), (90, [7], [], -1), (91, [7], [], 240), (20, [6, 0], [1], 67), (0, [6], [], 329), (42, [4, 5], [], 0), (0, [5], [], 4), (22, [4, 3, 1], [1], 0), (90, [4], [], 0), (91, [4], [], 6), (20, [3, 0], [1], 66), (0, [3], [], 328), (31, [2], [], 0), (1250, [2, 0, 1], [0, 1], 0), (90, [2], [], 0), (91, [2], [], 1), (6000, [0, 1], [0], 0), (0, [0], [], 285), (90, [1], [], -2147483648), (91, [1], [], 2147483647)], (3000, [9], [1], 33))
theorem c_257v_s_5 : vOkm T0 (eP e_257v L_257v A_257v mu_257v none) 2 g_257v_s_5 := vOk_in fun ρ η h => by
  obtain ⟨f0, f1, f2, f3, f4, f5, f6, f7, f8, f9, f10, f11, f12, f13, f14, f15, f16, f17, f18, f19, f20, f21, f22, _⟩ := h
  exact q_257v_4 (n0 := ρ 1) (n1 := ρ 0) (n2 := ρ 2) (n3 := ρ 3) (n4 := ρ 4) (n5 := ρ 5) (n6 := ρ 6) (n7 := ρ 7) (n8 := ρ 8) (n9 := ρ 9) (H0 := η 0) (H1 := η 1) f22 f21 f20 f19 f18 f17 f16 f15 f14 f13 f12 f11 f10 f9 f8 f7 f6 f5 f4 f3 f2 f1 f0
def p_257v_s : List vG := [g_257v_s_0,
  g_257v_s_1,
  g_257v_s_2,
  g_257v_s_3,
  g_257v_s_4,
  g_257v_s_5]
theorem r_257v_s : vCovO false (eR0 e_257v L_257v cs_257v 2000) p_257v_s = true := by decide +kernel
theorem m_257v (d : Nat) : eC e_257v (d + 2) := eC_ok (e := e_257v) (L := L_257v) (cs := cs_257v) (n := 2000) (d := d + 1) (A := A_257v) (μ := mu_257v) (tp := false) (p0 := p_257v_s) rfl ⟨m_250 d, trivial⟩ rfl (.inr pre0_ok) (by decide +kernel) (fun z => nomatch z) r_257v_s (allC c_257v_s_0 (allC c_257v_s_1 (allC c_257v_s_2 (allC c_257v_s_3 (allC c_257v_s_4 (allC c_257v_s_5 allN)))))) allN
/- MixStageModel.sample (III)Z -/
noncomputable def s_260v : vM := ([(3, 12, 285, 0), (0, -2147483648, 2147483647, 0), (0, -2147483648, 2147483647, 0), (0, -2147483648, 2147483647, 0)], (0, 0, 1, 0), 1, 0, [(12, 65), (492, 0), (524, 0)])
def preb_260v (a0 a1 a2 a3 : Int) (h : gH) : Prop := hV h 285 65 ≤ 20000 ∧ SO h ∧ SS h
def pre_260v : List Int → gH → Prop := fun xs h => match xs with
  | [a0, a1, a2, a3] => preb_260v a0 a1 a2 a3 h
  | _ => False
def postb_260v (r a0 a1 a2 a3 : Int) (h0 h : gH) : Prop := SO h ∧ SS h ∧ hV h 285 65 ≤ hV h0 285 65 + 1 ∧ (((0 ≤ a1 ∧ a1 < hV h0 285 64 ∧ hV h0 328 ((a1).toNat) < 4 ∧ ¬ hV h0 329 ((a1).toNat) = -1 ∧ 0 ≤ a2 ∧ a2 < hV h0 329 ((a1).toNat) ∧ -9999 ≤ a3 ∧ a3 ≤ 9999) ∧ r = 1) ∨ (¬ (0 ≤ a1 ∧ a1 < hV h0 285 64 ∧ hV h0 328 ((a1).toNat) < 4 ∧ ¬ hV h0 329 ((a1).toNat) = -1 ∧ 0 ≤ a2 ∧ a2 < hV h0 329 ((a1).toNat) ∧ -9999 ≤ a3 ∧ a3 ≤ 9999) ∧ r = 0))
def post_260v : List Int → gH → gH → Prop := fun xs h0 h => match xs with
  | [r, a0, a1, a2, a3] => postb_260v r a0 a1 a2 a3 h0 h
  | _ => True
noncomputable def e_260v : vE := (260, s_260v, pre_260v, post_260v)
noncomputable def L_260v : List vE := [e_251, e_257v, e_258]
def cs_260v : List vC := []
def A_260v : Int → List Int → gH → gH → Prop := fun c xs h0 h => True
def mu_260v : Int → List Int → gH → gH → Nat := fun c xs h0 h => 0
theorem q_260v_0 {n0 n1 n2 n3 n4 n5 : Int} {H0 H1 : gH} (f0 : n0 ≤ 2147483647) (f1 : (-2147483648) ≤ n0) (f2 : n1 ≤ 2147483647) (f3 : (-2147483648) ≤ n1) (f4 : n2 ≤ 2147483647) (f5 : (-2147483648) ≤ n2) (f6 : n3 = 285) (f7 : hWt T0 H0 ∧ preb_260v n3 n2 n1 n0 H0) (f8 : n4 ≤ 1) (f9 : 0 ≤ n4) (f10 : (hLe T0 H0 H1 ∧ hFr s_257v.2.2.2.2 H0 H1 ∧ ((0 : Int) = 0 → H1.length = H0.length) ∧ hWt T0 H1) ∧ postb_257v n4 n3 n2 H0 H1) (f11 : n4 = 0) (f12 : n5 = 0) : postb_260v n5 n3 n2 n1 n0 H0 H1 := by
  unfold preb_260v at f7
  unfold postb_257v at f10
  unfold postb_260v
  have e0 : hV H1 285 64 = hV H0 285 64 := f10.1.2.1.1 285 64 (by decide +kernel)
  have e1 : hV H1 285 64 = hV H0 285 64 := e0
  have e2 : hV H1 285 65 = hV H0 285 65 := f10.1.2.1.1 285 65 (by decide +kernel)
  have e3 : hV H1 285 65 = hV H0 285 65 := e2
  have e4 : hV H1 328 = hV H0 328 := fRow f10.1.2.1 328 (by decide +kernel)
  have e5 : hV H1 329 = hV H0 329 := fRow f10.1.2.1 329 (by decide +kernel)
  have e6 : SO H1 = SO H0 := SO_fr f10.1.2.1 (by decide +kernel)
  have e7 : SS H1 = SS H0 := SS_fr f10.1.2.1 (by decide +kernel)
  have e8 : (0 : Int) ≤ hV H0 285 64 ∧ hV H0 285 64 ≤ 20 := f7.1 285 64 _ _ (by decide +kernel)
  have e9 : (0 : Int) ≤ hV H0 285 65 ∧ hV H0 285 65 ≤ 2147483647 := f7.1 285 65 _ _ (by decide +kernel)
  have e10 : (0 : Int) ≤ hV H1 285 64 ∧ hV H1 285 64 ≤ 20 := f10.1.2.2.2 285 64 _ _ (by decide +kernel)
  have e11 : (0 : Int) ≤ hV H1 285 65 ∧ hV H1 285 65 ≤ 2147483647 := f10.1.2.2.2 285 65 _ _ (by decide +kernel)
  try simp only [e1, e3, e4, e5, e6, e7] at f7
  try simp only [e1, e3, e4, e5, e6, e7] at f10
  try simp only [e1, e3, e4, e5, e6, e7] at e8
  try simp only [e1, e3, e4, e5, e6, e7] at e9
  try simp only [e1, e3, e4, e5, e6, e7] at e10
  try simp only [e1, e3, e4, e5, e6, e7] at e11
  try simp only [e1, e3, e4, e5, e6, e7]
  have p0 := f7.2.1
  have p1 := f7.2.2.1
  have p2 := f7.2.2.2
  have r0_0 := f10.2
  try simp only [e1, e3, e4, e5, e6, e7] at p0
  try simp only [e1, e3, e4, e5, e6, e7] at p1
  try simp only [e1, e3, e4, e5, e6, e7] at p2
  try simp only [e1, e3, e4, e5, e6, e7] at r0_0
  clear e0 e1 e2 e3 e4 e5 e6 e7
  refine ⟨?_, ?_, ?_, ?_⟩ <;> first | assumption | omega | trivial
def g_260v_s_0 : vG := ([(0, [5], [], 0), (30, [4], [], 0), (1257, [4, 0, 1], [0, 1], 0), (90, [4], [], 0), (91, [4], [], 1), (6000, [0, 1, 2, 3], [0], 0), (0, [0], [], 285), (90, [1], [], -2147483648), (91, [1], [], 2147483647), (90, [2], [], -2147483648), (91, [2], [], 2147483647), (90, [3], [], -2147483648), (91, [3], [], 2147483647)], (3000, [5], [1], 36))
theorem c_260v_s_0 : vOkm T0 (eP e_260v L_260v A_260v mu_260v none) 4 g_260v_s_0 := vOk_in fun ρ η h => by
  obtain ⟨f0, f1, f2, f3, f4, f5, f6, f7, f8, f9, f10, f11, f12, _⟩ := h
  exact q_260v_0 (n0 := ρ 3) (n1 := ρ 2) (n2 := ρ 1) (n3 := ρ 0) (n4 := ρ 4) (n5 := ρ 5) (H0 := η 0) (H1 := η 1) f12 f11 f10 f9 f8 f7 f6 f5 f4 f3 f2 f1 f0
theorem q_260v_1 {n0 n1 n2 n3 n4 n5 : Int} {H0 H1 : gH} (f0 : n0 ≤ 2147483647) (f1 : (-2147483648) ≤ n0) (f2 : n1 ≤ 2147483647) (f3 : (-2147483648) ≤ n1) (f4 : n2 ≤ 2147483647) (f5 : (-2147483648) ≤ n2) (f6 : n3 = 285) (f7 : hWt T0 H0 ∧ preb_260v n3 n2 n1 n0 H0) (f8 : n4 ≤ 1) (f9 : 0 ≤ n4) (f10 : (hLe T0 H0 H1 ∧ hFr s_257v.2.2.2.2 H0 H1 ∧ ((0 : Int) = 0 → H1.length = H0.length) ∧ hWt T0 H1) ∧ postb_257v n4 n3 n2 H0 H1) (f11 : n4 ≠ 0) (f12 : n1 < 0) (f13 : n5 = 0) : postb_260v n5 n3 n2 n1 n0 H0 H1 := by
  unfold preb_260v at f7
  unfold postb_257v at f10
  unfold postb_260v
  have e0 : hV H1 285 64 = hV H0 285 64 := f10.1.2.1.1 285 64 (by decide +kernel)
  have e1 : hV H1 285 64 = hV H0 285 64 := e0
  have e2 : hV H1 285 65 = hV H0 285 65 := f10.1.2.1.1 285 65 (by decide +kernel)
  have e3 : hV H1 285 65 = hV H0 285 65 := e2
  have e4 : hV H1 328 = hV H0 328 := fRow f10.1.2.1 328 (by decide +kernel)
  have e5 : hV H1 329 = hV H0 329 := fRow f10.1.2.1 329 (by decide +kernel)
  have e6 : SO H1 = SO H0 := SO_fr f10.1.2.1 (by decide +kernel)
  have e7 : SS H1 = SS H0 := SS_fr f10.1.2.1 (by decide +kernel)
  have e8 : (0 : Int) ≤ hV H0 285 64 ∧ hV H0 285 64 ≤ 20 := f7.1 285 64 _ _ (by decide +kernel)
  have e9 : (0 : Int) ≤ hV H0 285 65 ∧ hV H0 285 65 ≤ 2147483647 := f7.1 285 65 _ _ (by decide +kernel)
  have e10 : (0 : Int) ≤ hV H1 285 64 ∧ hV H1 285 64 ≤ 20 := f10.1.2.2.2 285 64 _ _ (by decide +kernel)
  have e11 : (0 : Int) ≤ hV H1 285 65 ∧ hV H1 285 65 ≤ 2147483647 := f10.1.2.2.2 285 65 _ _ (by decide +kernel)
  try simp only [e1, e3, e4, e5, e6, e7] at f7
  try simp only [e1, e3, e4, e5, e6, e7] at f10
  try simp only [e1, e3, e4, e5, e6, e7] at e8
  try simp only [e1, e3, e4, e5, e6, e7] at e9
  try simp only [e1, e3, e4, e5, e6, e7] at e10
  try simp only [e1, e3, e4, e5, e6, e7] at e11
  try simp only [e1, e3, e4, e5, e6, e7]
  have p0 := f7.2.1
  have p1 := f7.2.2.1
  have p2 := f7.2.2.2
  have r0_0 := f10.2
  try simp only [e1, e3, e4, e5, e6, e7] at p0
  try simp only [e1, e3, e4, e5, e6, e7] at p1
  try simp only [e1, e3, e4, e5, e6, e7] at p2
  try simp only [e1, e3, e4, e5, e6, e7] at r0_0
  clear e0 e1 e2 e3 e4 e5 e6 e7
  refine ⟨?_, ?_, ?_, ?_⟩ <;> first | assumption | omega | trivial
def g_260v_s_1 : vG := ([(0, [5], [], 0), (32, [2], [], 0), (31, [4], [], 0), (1257, [4, 0, 1], [0, 1], 0), (90, [4], [], 0), (91, [4], [], 1), (6000, [0, 1, 2, 3], [0], 0), (0, [0], [], 285), (90, [1], [], -2147483648), (91, [1], [], 2147483647), (90, [2], [], -2147483648), (91, [2], [], 2147483647), (90, [3], [], -2147483648), (91, [3], [], 2147483647)], (3000, [5], [1], 36))
theorem c_260v_s_1 : vOkm T0 (eP e_260v L_260v A_260v mu_260v none) 4 g_260v_s_1 := vOk_in fun ρ η h => by
  obtain ⟨f0, f1, f2, f3, f4, f5, f6, f7, f8, f9, f10, f11, f12, f13, _⟩ := h
  exact q_260v_1 (n0 := ρ 3) (n1 := ρ 2) (n2 := ρ 1) (n3 := ρ 0) (n4 := ρ 4) (n5 := ρ 5) (H0 := η 0) (H1 := η 1) f13 f12 f11 f10 f9 f8 f7 f6 f5 f4 f3 f2 f1 f0
theorem q_260v_2 {n0 n1 n2 n3 n4 : Int} {H0 H1 : gH} (f0 : n0 ≤ 2147483647) (f1 : (-2147483648) ≤ n0) (f2 : n1 ≤ 2147483647) (f3 : (-2147483648) ≤ n1) (f4 : n2 ≤ 2147483647) (f5 : (-2147483648) ≤ n2) (f6 : n3 = 285) (f7 : hWt T0 H0 ∧ preb_260v n3 n2 n1 n0 H0) (f8 : n4 ≤ 1) (f9 : 0 ≤ n4) (f10 : (hLe T0 H0 H1 ∧ hFr s_257v.2.2.2.2 H0 H1 ∧ ((0 : Int) = 0 → H1.length = H0.length) ∧ hWt T0 H1) ∧ postb_257v n4 n3 n2 H0 H1) (f11 : n4 ≠ 0) (f12 : 0 ≤ n1) : 0 ≤ n2 ∧ n2 < 20 := by
  unfold preb_260v at f7
  unfold postb_257v at f10
  have e0 : hV H1 285 64 = hV H0 285 64 := f10.1.2.1.1 285 64 (by decide +kernel)
  have e1 : hV H1 285 64 = hV H0 285 64 := e0
  have e2 : hV H1 328 = hV H0 328 := fRow f10.1.2.1 328 (by decide +kernel)
  have e3 : hV H1 329 = hV H0 329 := fRow f10.1.2.1 329 (by decide +kernel)
  have e4 : (0 : Int) ≤ hV H0 285 65 ∧ hV H0 285 65 ≤ 2147483647 := f7.1 285 65 _ _ (by decide +kernel)
  have e5 : (0 : Int) ≤ hV H1 285 64 ∧ hV H1 285 64 ≤ 20 := f10.1.2.2.2 285 64 _ _ (by decide +kernel)
  have e6 : (0 : Int) ≤ hV H0 285 64 ∧ hV H0 285 64 ≤ 20 := f7.1 285 64 _ _ (by decide +kernel)
  try simp only [e1, e2, e3] at f7
  try simp only [e1, e2, e3] at f10
  try simp only [e1, e2, e3] at e4
  try simp only [e1, e2, e3] at e5
  try simp only [e1, e2, e3] at e6
  try simp only [e1, e2, e3]
  have p0 := f7.2.1
  have p1 := f7.2.2.1
  have p2 := f7.2.2.2
  have r0_0 := f10.2
  try simp only [e1, e2, e3] at p0
  try simp only [e1, e2, e3] at p1
  try simp only [e1, e2, e3] at p2
  try simp only [e1, e2, e3] at r0_0
  clear e0 e1 e2 e3
  omega
def g_260v_s_2 : vG := ([(33, [2], [], 0), (31, [4], [], 0), (1257, [4, 0, 1], [0, 1], 0), (90, [4], [], 0), (91, [4], [], 1), (6000, [0, 1, 2, 3], [0], 0), (0, [0], [], 285), (90, [1], [], -2147483648), (91, [1], [], 2147483647), (90, [2], [], -2147483648), (91, [2], [], 2147483647), (90, [3], [], -2147483648), (91, [3], [], 2147483647)], (70, [1], [], 20))
theorem c_260v_s_2 : vOkm T0 (eP e_260v L_260v A_260v mu_260v none) 4 g_260v_s_2 := vOk_in fun ρ η h => by
  obtain ⟨f0, f1, f2, f3, f4, f5, f6, f7, f8, f9, f10, f11, f12, _⟩ := h
  exact q_260v_2 (n0 := ρ 3) (n1 := ρ 2) (n2 := ρ 1) (n3 := ρ 0) (n4 := ρ 4) (H0 := η 0) (H1 := η 1) f12 f11 f10 f9 f8 f7 f6 f5 f4 f3 f2 f1 f0
theorem q_260v_3 {n0 n1 n2 n3 n4 n5 n6 n7 : Int} {H0 H1 : gH} (f0 : n0 ≤ 2147483647) (f1 : (-2147483648) ≤ n0) (f2 : n1 ≤ 2147483647) (f3 : (-2147483648) ≤ n1) (f4 : n2 ≤ 2147483647) (f5 : (-2147483648) ≤ n2) (f6 : n3 = 285) (f7 : hWt T0 H0 ∧ preb_260v n3 n2 n1 n0 H0) (f8 : n4 ≤ 1) (f9 : 0 ≤ n4) (f10 : (hLe T0 H0 H1 ∧ hFr s_257v.2.2.2.2 H0 H1 ∧ ((0 : Int) = 0 → H1.length = H0.length) ∧ hWt T0 H1) ∧ postb_257v n4 n3 n2 H0 H1) (f11 : n4 ≠ 0) (f12 : 0 ≤ n1) (f13 : n5 = 329) (f14 : n5 = hV H1 (n3).toNat 67) (f15 : n6 ≤ 240) (f16 : (-1) ≤ n6) (f17 : n6 = hV H1 (n5).toNat (n2).toNat) (f18 : n6 ≤ n1) (f19 : n7 = 0) : postb_260v n7 n3 n2 n1 n0 H0 H1 := by
  unfold preb_260v at f7
  unfold postb_257v at f10
  unfold postb_260v
  have e0 : hV H1 329 = hV H0 329 := fRow f10.1.2.1 329 (by decide +kernel)
  have e1 : n6 = hV H0 329 (n2).toNat := (by rw [f13] at f17; exact f17 : n6 = hV H1 329 (n2).toNat).trans ((congrFun e0 _))
  have e2 : hV H1 285 64 = hV H0 285 64 := f10.1.2.1.1 285 64 (by decide +kernel)
  have e3 : hV H1 285 64 = hV H0 285 64 := e2
  have e4 : hV H1 285 65 = hV H0 285 65 := f10.1.2.1.1 285 65 (by decide +kernel)
  have e5 : hV H1 285 65 = hV H0 285 65 := e4
  have e6 : hV H1 328 = hV H0 328 := fRow f10.1.2.1 328 (by decide +kernel)
  have e7 : SO H1 = SO H0 := SO_fr f10.1.2.1 (by decide +kernel)
  have e8 : SS H1 = SS H0 := SS_fr f10.1.2.1 (by decide +kernel)
  have e9 : (0 : Int) ≤ hV H0 285 64 ∧ hV H0 285 64 ≤ 20 := f7.1 285 64 _ _ (by decide +kernel)
  have e10 : (0 : Int) ≤ hV H0 285 65 ∧ hV H0 285 65 ≤ 2147483647 := f7.1 285 65 _ _ (by decide +kernel)
  have e11 : (0 : Int) ≤ hV H1 285 64 ∧ hV H1 285 64 ≤ 20 := f10.1.2.2.2 285 64 _ _ (by decide +kernel)
  have e12 : (0 : Int) ≤ hV H1 285 65 ∧ hV H1 285 65 ≤ 2147483647 := f10.1.2.2.2 285 65 _ _ (by decide +kernel)
  try simp only [e3, e5, e6, e0, e7, e8] at f7
  try simp only [e3, e5, e6, e0, e7, e8] at f10
  try simp only [e3, e5, e6, e0, e7, e8] at e9
  try simp only [e3, e5, e6, e0, e7, e8] at e10
  try simp only [e3, e5, e6, e0, e7, e8] at e11
  try simp only [e3, e5, e6, e0, e7, e8] at e12
  try simp only [e3, e5, e6, e0, e7, e8]
  have p0 := f7.2.1
  have p1 := f7.2.2.1
  have p2 := f7.2.2.2
  have r0_0 := f10.2
  try simp only [e3, e5, e6, e0, e7, e8] at p0
  try simp only [e3, e5, e6, e0, e7, e8] at p1
  try simp only [e3, e5, e6, e0, e7, e8] at p2
  try simp only [e3, e5, e6, e0, e7, e8] at r0_0
  clear f14 f17 e0 e2 e3 e4 e5 e6 e7 e8
  subst e1
  refine ⟨?_, ?_, ?_, ?_⟩ <;> first | assumption | omega | trivial
def g_260v_s_3 : vG := ([(0, [7], [], 0), (43, [2, 6], [], 0), (22, [6, 5, 1], [1], 0), (90, [6], [], -1), (91, [6], [], 240), (20, [5, 0], [1], 67), (0, [5], [], 329), (33, [2], [], 0), (31, [4], [], 0), (1257, [4, 0, 1], [0, 1], 0), (90, [4], [], 0), (91, [4], [], 1), (6000, [0, 1, 2, 3], [0], 0), (0, [0], [], 285), (90, [1], [], -2147483648), (91, [1], [], 2147483647), (90, [2], [], -2147483648), (91, [2], [], 2147483647), (90, [3], [], -2147483648), (91, [3], [], 2147483647)], (3000, [7], [1], 36))
theorem c_260v_s_3 : vOkm T0 (eP e_260v L_260v A_260v mu_260v none) 4 g_260v_s_3 := vOk_in fun ρ η h => by
  obtain ⟨f0, f1, f2, f3, f4, f5, f6, f7, f8, f9, f10, f11, f12, f13, f14, f15, f16, f17, f18, f19, _⟩ := h
  exact q_260v_3 (n0 := ρ 3) (n1 := ρ 2) (n2 := ρ 1) (n3 := ρ 0) (n4 := ρ 4) (n5 := ρ 5) (n6 := ρ 6) (n7 := ρ 7) (H0 := η 0) (H1 := η 1) f19 f18 f17 f16 f15 f14 f13 f12 f11 f10 f9 f8 f7 f6 f5 f4 f3 f2 f1 f0
theorem q_260v_4 {n0 n1 n2 n3 n4 n5 n6 n7 n8 n9 n10 n11 n12 : Int} {H0 H1 H2 : gH} (f0 : n0 ≤ 2147483647) (f1 : (-2147483648) ≤ n0) (f2 : n1 ≤ 2147483647) (f3 : (-2147483648) ≤ n1) (f4 : n2 ≤ 2147483647) (f5 : (-2147483648) ≤ n2) (f6 : n3 = 285) (f7 : hWt T0 H0 ∧ preb_260v n3 n2 n1 n0 H0) (f8 : n4 ≤ 1) (f9 : 0 ≤ n4) (f10 : (hLe T0 H0 H1 ∧ hFr s_257v.2.2.2.2 H0 H1 ∧ ((0 : Int) = 0 → H1.length = H0.length) ∧ hWt T0 H1) ∧ postb_257v n4 n3 n2 H0 H1) (f11 : n4 ≠ 0) (f12 : 0 ≤ n1) (f13 : n5 = 329) (f14 : n5 = hV H1 (n3).toNat 67) (f15 : n6 ≤ 240) (f16 : (-1) ≤ n6) (f17 : n6 = hV H1 (n5).toNat (n2).toNat) (f18 : n1 < n6) (f19 : n7 = (-9999)) (f20 : n8 = 9999) (f21 : n9 ≤ 1) (f22 : 0 ≤ n9) (f23 : (hLe T0 H1 H2 ∧ hFr s_251.2.2.2.2 H1 H2 ∧ ((0 : Int) = 0 → H2.length = H1.length) ∧ hWt T0 H2) ∧ postb_251 n9 n0 n7 n8 H1 H2) (f24 : n9 ≠ 0) (f25 : n10 = 240) (f26 : n11 = w32 (n10 * n2)) (f27 : n12 = w32 (n11 + n1)) : 0 ≤ n12 ∧ n12 < 4800 := by
  unfold preb_260v at f7
  unfold postb_257v at f10
  unfold postb_251 at f23
  have e0 : hV H1 329 = hV H0 329 := fRow f10.1.2.1 329 (by decide +kernel)
  have e1 : n6 = hV H0 329 (n2).toNat := (by rw [f13] at f17; exact f17 : n6 = hV H1 329 (n2).toNat).trans ((congrFun e0 _))
  have e2 : hV H1 285 64 = hV H0 285 64 := f10.1.2.1.1 285 64 (by decide +kernel)
  have e3 : hV H1 285 64 = hV H0 285 64 := e2
  have e4 : hV H1 328 = hV H0 328 := fRow f10.1.2.1 328 (by decide +kernel)
  have e5 : (0 : Int) ≤ hV H0 285 65 ∧ hV H0 285 65 ≤ 2147483647 := f7.1 285 65 _ _ (by decide +kernel)
  have e6 : (0 : Int) ≤ hV H1 285 64 ∧ hV H1 285 64 ≤ 20 := f10.1.2.2.2 285 64 _ _ (by decide +kernel)
  have e7 : (0 : Int) ≤ hV H0 285 64 ∧ hV H0 285 64 ≤ 20 := f7.1 285 64 _ _ (by decide +kernel)
  try simp only [e3, e4, e0] at f7
  try simp only [e3, e4, e0] at f10
  try simp only [e3, e4, e0] at f23
  try simp only [e3, e4, e0] at e5
  try simp only [e3, e4, e0] at e6
  try simp only [e3, e4, e0] at e7
  try simp only [e3, e4, e0]
  have p0 := f7.2.1
  have p1 := f7.2.2.1
  have p2 := f7.2.2.2
  have r0_0 := f10.2
  have r1_0 := f23.2
  try simp only [e3, e4, e0] at p0
  try simp only [e3, e4, e0] at p1
  try simp only [e3, e4, e0] at p2
  try simp only [e3, e4, e0] at r0_0
  try simp only [e3, e4, e0] at r1_0
  clear f14 f17 e0 e2 e3 e4
  subst e1
  rw [f25] at f26
  unfold w32 at *
  try (have ix0 : n11 = 240 * n2 := (by omega); subst ix0)
  try (have ix1 : n12 = (240 * n2) + n1 := (by omega); subst ix1)
  omega
def g_260v_s_4 : vG := ([(1, [13, 12, 2], [], 0), (3, [12, 11, 1], [], 0), (0, [11], [], 240), (31, [9], [], 0), (1251, [9, 3, 7, 8], [1, 2], 0), (90, [9], [], 0), (91, [9], [], 1), (0, [8], [], 9999), (0, [7], [], -9999), (42, [2, 6], [], 0), (22, [6, 5, 1], [1], 0), (90, [6], [], -1), (91, [6], [], 240), (20, [5, 0], [1], 67), (0, [5], [], 329), (33, [2], [], 0), (31, [4], [], 0), (1257, [4, 0, 1], [0, 1], 0), (90, [4], [], 0), (91, [4], [], 1), (6000, [0, 1, 2, 3], [0], 0), (0, [0], [], 285), (90, [1], [], -2147483648), (91, [1], [], 2147483647), (90, [2], [], -2147483648), (91, [2], [], 2147483647), (90, [3], [], -2147483648), (91, [3], [], 2147483647)], (70, [13], [], 4800))
theorem c_260v_s_4 : vOkm T0 (eP e_260v L_260v A_260v mu_260v none) 4 g_260v_s_4 := vOk_in fun ρ η h => by
  obtain ⟨f0, f1, f2, f3, f4, f5, f6, f7, f8, f9, f10, f11, f12, f13, f14, f15, f16, f17, f18, f19, f20, f21, f22, f23, f24, f25, f26, f27, _⟩ := h
  exact q_260v_4 (n0 := ρ 3) (n1 := ρ 2) (n2 := ρ 1) (n3 := ρ 0) (n4 := ρ 4) (n5 := ρ 5) (n6 := ρ 6) (n7 := ρ 7) (n8 := ρ 8) (n9 := ρ 9) (n10 := ρ 11) (n11 := ρ 12) (n12 := ρ 13) (H0 := η 0) (H1 := η 1) (H2 := η 2) f27 f26 f25 f24 f23 f22 f21 f20 f19 f18 f17 f16 f15 f14 f13 f12 f11 f10 f9 f8 f7 f6 f5 f4 f3 f2 f1 f0
theorem q_260v_5 {n0 n1 n2 n3 n4 n5 n6 n7 n8 n9 n10 n11 n12 : Int} {H0 H1 H2 : gH} (f0 : n0 ≤ 2147483647) (f1 : (-2147483648) ≤ n0) (f2 : n1 ≤ 2147483647) (f3 : (-2147483648) ≤ n1) (f4 : n2 ≤ 2147483647) (f5 : (-2147483648) ≤ n2) (f6 : n3 = 285) (f7 : hWt T0 H0 ∧ preb_260v n3 n2 n1 n0 H0) (f8 : n4 ≤ 1) (f9 : 0 ≤ n4) (f10 : (hLe T0 H0 H1 ∧ hFr s_257v.2.2.2.2 H0 H1 ∧ ((0 : Int) = 0 → H1.length = H0.length) ∧ hWt T0 H1) ∧ postb_257v n4 n3 n2 H0 H1) (f11 : n4 ≠ 0) (f12 : 0 ≤ n1) (f13 : n5 = 329) (f14 : n5 = hV H1 (n3).toNat 67) (f15 : n6 ≤ 240) (f16 : (-1) ≤ n6) (f17 : n6 = hV H1 (n5).toNat (n2).toNat) (f18 : n1 < n6) (f19 : n7 = (-9999)) (f20 : n8 = 9999) (f21 : n9 ≤ 1) (f22 : 0 ≤ n9) (f23 : (hLe T0 H1 H2 ∧ hFr s_251.2.2.2.2 H1 H2 ∧ ((0 : Int) = 0 → H2.length = H1.length) ∧ hWt T0 H2) ∧ postb_251 n9 n0 n7 n8 H1 H2) (f24 : n9 ≠ 0) (f25 : n10 = 240) (f26 : n11 = w32 (n10 * n2)) (f27 : n12 = w32 (n11 + n1)) : 0 ≤ n2 := by
  unfold preb_260v at f7
  unfold postb_257v at f10
  unfold postb_251 at f23
  have e0 : hV H1 329 = hV H0 329 := fRow f10.1.2.1 329 (by decide +kernel)
  have e1 : n6 = hV H0 329 (n2).toNat := (by rw [f13] at f17; exact f17 : n6 = hV H1 329 (n2).toNat).trans ((congrFun e0 _))
  have e2 : hV H1 285 64 = hV H0 285 64 := f10.1.2.1.1 285 64 (by decide +kernel)
  have e3 : hV H1 285 64 = hV H0 285 64 := e2
  have e4 : hV H1 328 = hV H0 328 := fRow f10.1.2.1 328 (by decide +kernel)
  have e5 : (0 : Int) ≤ hV H0 285 65 ∧ hV H0 285 65 ≤ 2147483647 := f7.1 285 65 _ _ (by decide +kernel)
  have e6 : (0 : Int) ≤ hV H1 285 64 ∧ hV H1 285 64 ≤ 20 := f10.1.2.2.2 285 64 _ _ (by decide +kernel)
  have e7 : (0 : Int) ≤ hV H0 285 64 ∧ hV H0 285 64 ≤ 20 := f7.1 285 64 _ _ (by decide +kernel)
  try simp only [e3, e4, e0] at f7
  try simp only [e3, e4, e0] at f10
  try simp only [e3, e4, e0] at f23
  try simp only [e3, e4, e0] at e5
  try simp only [e3, e4, e0] at e6
  try simp only [e3, e4, e0] at e7
  try simp only [e3, e4, e0]
  have p0 := f7.2.1
  have p1 := f7.2.2.1
  have p2 := f7.2.2.2
  have r0_0 := f10.2
  have r1_0 := f23.2
  try simp only [e3, e4, e0] at p0
  try simp only [e3, e4, e0] at p1
  try simp only [e3, e4, e0] at p2
  try simp only [e3, e4, e0] at r0_0
  try simp only [e3, e4, e0] at r1_0
  clear f14 f17 e0 e2 e3 e4
  subst e1
  rw [f25] at f26
  unfold w32 at *
  omega
def g_260v_s_5 : vG := ([(1, [13, 12, 2], [], 0), (3, [12, 11, 1], [], 0), (0, [11], [], 240), (31, [9], [], 0), (1251, [9, 3, 7, 8], [1, 2], 0), (90, [9], [], 0), (91, [9], [], 1), (0, [8], [], 9999), (0, [7], [], -9999), (42, [2, 6], [], 0), (22, [6, 5, 1], [1], 0), (90, [6], [], -1), (91, [6], [], 240), (20, [5, 0], [1], 67), (0, [5], [], 329), (33, [2], [], 0), (31, [4], [], 0), (1257, [4, 0, 1], [0, 1], 0), (90, [4], [], 0), (91, [4], [], 1), (6000, [0, 1, 2, 3], [0], 0), (0, [0], [], 285), (90, [1], [], -2147483648), (91, [1], [], 2147483647), (90, [2], [], -2147483648), (91, [2], [], 2147483647), (90, [3], [], -2147483648), (91, [3], [], 2147483647)], (90, [1], [], 0))
theorem c_260v_s_5 : vOkm T0 (eP e_260v L_260v A_260v mu_260v none) 4 g_260v_s_5 := vOk_in fun ρ η h => by
  obtain ⟨f0, f1, f2, f3, f4, f5, f6, f7, f8, f9, f10, f11, f12, f13, f14, f15, f16, f17, f18, f19, f20, f21, f22, f23, f24, f25, f26, f27, _⟩ := h
  exact q_260v_5 (n0 := ρ 3) (n1 := ρ 2) (n2 := ρ 1) (n3 := ρ 0) (n4 := ρ 4) (n5 := ρ 5) (n6 := ρ 6) (n7 := ρ 7) (n8 := ρ 8) (n9 := ρ 9) (n10 := ρ 11) (n11 := ρ 12) (n12 := ρ 13) (H0 := η 0) (H1 := η 1) (H2 := η 2) f27 f26 f25 f24 f23 f22 f21 f20 f19 f18 f17 f16 f15 f14 f13 f12 f11 f10 f9 f8 f7 f6 f5 f4 f3 f2 f1 f0
theorem q_260v_6 {n0 n1 n2 n3 n4 n5 n6 n7 n8 n9 n10 n11 n12 : Int} {H0 H1 H2 : gH} (f0 : n0 ≤ 2147483647) (f1 : (-2147483648) ≤ n0) (f2 : n1 ≤ 2147483647) (f3 : (-2147483648) ≤ n1) (f4 : n2 ≤ 2147483647) (f5 : (-2147483648) ≤ n2) (f6 : n3 = 285) (f7 : hWt T0 H0 ∧ preb_260v n3 n2 n1 n0 H0) (f8 : n4 ≤ 1) (f9 : 0 ≤ n4) (f10 : (hLe T0 H0 H1 ∧ hFr s_257v.2.2.2.2 H0 H1 ∧ ((0 : Int) = 0 → H1.length = H0.length) ∧ hWt T0 H1) ∧ postb_257v n4 n3 n2 H0 H1) (f11 : n4 ≠ 0) (f12 : 0 ≤ n1) (f13 : n5 = 329) (f14 : n5 = hV H1 (n3).toNat 67) (f15 : n6 ≤ 240) (f16 : (-1) ≤ n6) (f17 : n6 = hV H1 (n5).toNat (n2).toNat) (f18 : n1 < n6) (f19 : n7 = (-9999)) (f20 : n8 = 9999) (f21 : n9 ≤ 1) (f22 : 0 ≤ n9) (f23 : (hLe T0 H1 H2 ∧ hFr s_251.2.2.2.2 H1 H2 ∧ ((0 : Int) = 0 → H2.length = H1.length) ∧ hWt T0 H2) ∧ postb_251 n9 n0 n7 n8 H1 H2) (f24 : n9 ≠ 0) (f25 : n10 = 240) (f26 : n11 = w32 (n10 * n2)) (f27 : n12 = w32 (n11 + n1)) : n2 ≤ 19 := by
  unfold preb_260v at f7
  unfold postb_257v at f10
  unfold postb_251 at f23
  have e0 : hV H1 329 = hV H0 329 := fRow f10.1.2.1 329 (by decide +kernel)
  have e1 : n6 = hV H0 329 (n2).toNat := (by rw [f13] at f17; exact f17 : n6 = hV H1 329 (n2).toNat).trans ((congrFun e0 _))
  have e2 : hV H1 285 64 = hV H0 285 64 := f10.1.2.1.1 285 64 (by decide +kernel)
  have e3 : hV H1 285 64 = hV H0 285 64 := e2
  have e4 : hV H1 328 = hV H0 328 := fRow f10.1.2.1 328 (by decide +kernel)
  have e5 : (0 : Int) ≤ hV H0 285 65 ∧ hV H0 285 65 ≤ 2147483647 := f7.1 285 65 _ _ (by decide +kernel)
  have e6 : (0 : Int) ≤ hV H1 285 64 ∧ hV H1 285 64 ≤ 20 := f10.1.2.2.2 285 64 _ _ (by decide +kernel)
  have e7 : (0 : Int) ≤ hV H0 285 64 ∧ hV H0 285 64 ≤ 20 := f7.1 285 64 _ _ (by decide +kernel)
  try simp only [e3, e4, e0] at f7
  try simp only [e3, e4, e0] at f10
  try simp only [e3, e4, e0] at f23
  try simp only [e3, e4, e0] at e5
  try simp only [e3, e4, e0] at e6
  try simp only [e3, e4, e0] at e7
  try simp only [e3, e4, e0]
  have p0 := f7.2.1
  have p1 := f7.2.2.1
  have p2 := f7.2.2.2
  have r0_0 := f10.2
  have r1_0 := f23.2
  try simp only [e3, e4, e0] at p0
  try simp only [e3, e4, e0] at p1
  try simp only [e3, e4, e0] at p2
  try simp only [e3, e4, e0] at r0_0
  try simp only [e3, e4, e0] at r1_0
  clear f14 f17 e0 e2 e3 e4
  subst e1
  rw [f25] at f26
  unfold w32 at *
  omega
def g_260v_s_6 : vG := ([(1, [13, 12, 2], [], 0), (3, [12, 11, 1], [], 0), (0, [11], [], 240), (31, [9], [], 0), (1251, [9, 3, 7, 8], [1, 2], 0), (90, [9], [], 0), (91, [9], [], 1), (0, [8], [], 9999), (0, [7], [], -9999), (42, [2, 6], [], 0), (22, [6, 5, 1], [1], 0), (90, [6], [], -1), (91, [6], [], 240), (20, [5, 0], [1], 67), (0, [5], [], 329), (33, [2], [], 0), (31, [4], [], 0), (1257, [4, 0, 1], [0, 1], 0), (90, [4], [], 0), (91, [4], [], 1), (6000, [0, 1, 2, 3], [0], 0), (0, [0], [], 285), (90, [1], [], -2147483648), (91, [1], [], 2147483647), (90, [2], [], -2147483648), (91, [2], [], 2147483647), (90, [3], [], -2147483648), (91, [3], [], 2147483647)], (91, [1], [], 19))
theorem c_260v_s_6 : vOkm T0 (eP e_260v L_260v A_260v mu_260v none) 4 g_260v_s_6 := vOk_in fun ρ η h => by
  obtain ⟨f0, f1, f2, f3, f4, f5, f6, f7, f8, f9, f10, f11, f12, f13, f14, f15, f16, f17, f18, f19, f20, f21, f22, f23, f24, f25, f26, f27, _⟩ := h
  exact q_260v_6 (n0 := ρ 3) (n1 := ρ 2) (n2 := ρ 1) (n3 := ρ 0) (n4 := ρ 4) (n5 := ρ 5) (n6 := ρ 6) (n7 := ρ 7) (n8 := ρ 8) (n9 := ρ 9) (n10 := ρ 11) (n11 := ρ 12) (n12 := ρ 13) (H0 := η 0) (H1 := η 1) (H2 := η 2) f27 f26 f25 f24 f23 f22 f21 f20 f19 f18 f17 f16 f15 f14 f13 f12 f11 f10 f9 f8 f7 f6 f5 f4 f3 f2 f1 f0
theorem q_260v_7 {n0 n1 n2 n3 n4 n5 n6 n7 n8 n9 n10 n11 n12 n13 : Int} {H0 H1 H2 H3 : gH} (f0 : n0 ≤ 2147483647) (f1 : (-2147483648) ≤ n0) (f2 : n1 ≤ 2147483647) (f3 : (-2147483648) ≤ n1) (f4 : n2 ≤ 2147483647) (f5 : (-2147483648) ≤ n2) (f6 : n3 = 285) (f7 : hWt T0 H0 ∧ preb_260v n3 n2 n1 n0 H0) (f8 : n4 ≤ 1) (f9 : 0 ≤ n4) (f10 : (hLe T0 H0 H1 ∧ hFr s_257v.2.2.2.2 H0 H1 ∧ ((0 : Int) = 0 → H1.length = H0.length) ∧ hWt T0 H1) ∧ postb_257v n4 n3 n2 H0 H1) (f11 : n4 ≠ 0) (f12 : 0 ≤ n1) (f13 : n5 = 329) (f14 : n5 = hV H1 (n3).toNat 67) (f15 : n6 ≤ 240) (f16 : (-1) ≤ n6) (f17 : n6 = hV H1 (n5).toNat (n2).toNat) (f18 : n1 < n6) (f19 : n7 = (-9999)) (f20 : n8 = 9999) (f21 : n9 ≤ 1) (f22 : 0 ≤ n9) (f23 : (hLe T0 H1 H2 ∧ hFr s_251.2.2.2.2 H1 H2 ∧ ((0 : Int) = 0 → H2.length = H1.length) ∧ hWt T0 H2) ∧ postb_251 n9 n0 n7 n8 H1 H2) (f24 : n9 ≠ 0) (f25 : n10 = 337) (f26 : n10 = hV H2 (n3).toNat 75) (f27 : n11 = 240) (f28 : n12 = w32 (n11 * n2)) (f29 : n13 = w32 (n12 + n1)) (f30 : hUpd H3 H2 n10 n13 n0) : preb_258 n3 n2 H3 := by
  unfold preb_260v at f7
  unfold postb_257v at f10
  unfold postb_251 at f23
  unfold preb_258
  have e0 : hV H1 329 = hV H0 329 := fRow f10.1.2.1 329 (by decide +kernel)
  have e1 : n6 = hV H0 329 (n2).toNat := (by rw [f13] at f17; exact f17 : n6 = hV H1 329 (n2).toNat).trans ((congrFun e0 _))
  have e2 : hV H1 285 64 = hV H0 285 64 := f10.1.2.1.1 285 64 (by decide +kernel)
  have e3 : hV H1 285 64 = hV H0 285 64 := e2
  have e4 : hV H1 328 = hV H0 328 := fRow f10.1.2.1 328 (by decide +kernel)
  have e5 : hV H3 285 65 = hV H2 285 65 := uPlace f30 _ _ (iS (show n10 = ((337 : Nat) : Int) from f25) rfl)
  have e6 : hV H2 285 65 = hV H1 285 65 := f23.1.2.1.1 285 65 (by decide +kernel)
  have e7 : hV H1 285 65 = hV H0 285 65 := f10.1.2.1.1 285 65 (by decide +kernel)
  have e8 : hV H3 285 65 = hV H0 285 65 := (e5).trans ((e6).trans e7)
  have e9 : hV H3 333 = hV H2 333 := uRowNe f30 _ (iS (show n10 = ((337 : Nat) : Int) from f25) rfl)
  have e10 : hV H2 333 = hV H1 333 := fRow f23.1.2.1 333 (by decide +kernel)
  have e11 : hV H1 333 = hV H0 333 := fRow f10.1.2.1 333 (by decide +kernel)
  have e12 : hV H2 333 = hV H0 333 := e10.trans e11
  have e13 : hV H3 333 = hV H0 333 := e9.trans e12
  have e14 : hV H3 334 = hV H2 334 := uRowNe f30 _ (iS (show n10 = ((337 : Nat) : Int) from f25) rfl)
  have e15 : hV H2 334 = hV H1 334 := fRow f23.1.2.1 334 (by decide +kernel)
  have e16 : hV H1 334 = hV H0 334 := fRow f10.1.2.1 334 (by decide +kernel)
  have e17 : hV H2 334 = hV H0 334 := e15.trans e16
  have e18 : hV H3 334 = hV H0 334 := e14.trans e17
  have e19 : hV H3 341 = hV H2 341 := uRowNe f30 _ (iS (show n10 = ((337 : Nat) : Int) from f25) rfl)
  have e20 : hV H2 341 = hV H1 341 := fRow f23.1.2.1 341 (by decide +kernel)
  have e21 : hV H1 341 = hV H0 341 := fRow f10.1.2.1 341 (by decide +kernel)
  have e22 : hV H2 341 = hV H0 341 := e20.trans e21
  have e23 : hV H3 341 = hV H0 341 := e19.trans e22
  have e24 : (0 : Int) ≤ hV H0 285 65 ∧ hV H0 285 65 ≤ 2147483647 := f7.1 285 65 _ _ (by decide +kernel)
  have e25 : (0 : Int) ≤ hV H1 285 64 ∧ hV H1 285 64 ≤ 20 := f10.1.2.2.2 285 64 _ _ (by decide +kernel)
  have e26 : (0 : Int) ≤ hV H0 285 64 ∧ hV H0 285 64 ≤ 20 := f7.1 285 64 _ _ (by decide +kernel)
  try simp only [SS] at *
  try simp only [e3, e4, e0, e8, e13, e18, e23] at f7
  try simp only [e3, e4, e0, e8, e13, e18, e23] at f10
  try simp only [e3, e4, e0, e8, e13, e18, e23] at f23
  try simp only [e3, e4, e0, e8, e13, e18, e23] at e24
  try simp only [e3, e4, e0, e8, e13, e18, e23] at e25
  try simp only [e3, e4, e0, e8, e13, e18, e23] at e26
  try simp only [e3, e4, e0, e8, e13, e18, e23]
  have p0 := f7.2.1
  have p1 := f7.2.2.1
  have p2 := f7.2.2.2
  have r0_0 := f10.2
  have r1_0 := f23.2
  try simp only [e3, e4, e0, e8, e13, e18, e23] at p0
  try simp only [e3, e4, e0, e8, e13, e18, e23] at p1
  try simp only [e3, e4, e0, e8, e13, e18, e23] at p2
  try simp only [e3, e4, e0, e8, e13, e18, e23] at r0_0
  try simp only [e3, e4, e0, e8, e13, e18, e23] at r1_0
  clear f14 f17 f26 e0 e2 e3 e4 e5 e6 e7 e8 e9 e10 e11 e12 e13 e14 e15 e16 e17 e18 e19 e20 e21 e22 e23
  subst e1
  rw [f27] at f28
  unfold w32 at *
  try (have ix0 : n12 = 240 * n2 := (by omega); subst ix0)
  try (have ix1 : n13 = (240 * n2) + n1 := (by omega); subst ix1)

  first
  | exact ⟨by omega, SSp_le y0 (by omega)⟩
  | exact ⟨by omega, SSp_le y1 (by omega)⟩
  | exact ⟨by omega, SSp_le y2 (by omega)⟩
  | exact ⟨by omega, SSp_le y3 (by omega)⟩
  | exact ⟨by omega, SSp_le y4 (by omega)⟩
  | exact ⟨by omega, SSp_le y5 (by omega)⟩
  | exact ⟨by omega, SSp_le y6 (by omega)⟩
  | exact ⟨by omega, SSp_le y7 (by omega)⟩
  | exact ⟨by omega, SSp_le p0 (by omega)⟩
  | exact ⟨by omega, SSp_le p1 (by omega)⟩
  | exact ⟨by omega, SSp_le p2 (by omega)⟩
  | exact ⟨by omega, SSp_le p3 (by omega)⟩
  | omega
def g_260v_s_7 : vG := ([(80, [10, 13, 3], [3, 2], 0), (1, [13, 12, 2], [], 0), (3, [12, 11, 1], [], 0), (0, [11], [], 240), (20, [10, 0], [2], 75), (0, [10], [], 337), (31, [9], [], 0), (1251, [9, 3, 7, 8], [1, 2], 0), (90, [9], [], 0), (91, [9], [], 1), (0, [8], [], 9999), (0, [7], [], -9999), (42, [2, 6], [], 0), (22, [6, 5, 1], [1], 0), (90, [6], [], -1), (91, [6], [], 240), (20, [5, 0], [1], 67), (0, [5], [], 329), (33, [2], [], 0), (31, [4], [], 0), (1257, [4, 0, 1], [0, 1], 0), (90, [4], [], 0), (91, [4], [], 1), (6000, [0, 1, 2, 3], [0], 0), (0, [0], [], 285), (90, [1], [], -2147483648), (91, [1], [], 2147483647), (90, [2], [], -2147483648), (91, [2], [], 2147483647), (90, [3], [], -2147483648), (91, [3], [], 2147483647)], (2258, [0, 1], [3], 0))
theorem c_260v_s_7 : vOkm T0 (eP e_260v L_260v A_260v mu_260v none) 4 g_260v_s_7 := vOk_in fun ρ η h => by
  obtain ⟨f0, f1, f2, f3, f4, f5, f6, f7, f8, f9, f10, f11, f12, f13, f14, f15, f16, f17, f18, f19, f20, f21, f22, f23, f24, f25, f26, f27, f28, f29, f30, _⟩ := h
  exact q_260v_7 (n0 := ρ 3) (n1 := ρ 2) (n2 := ρ 1) (n3 := ρ 0) (n4 := ρ 4) (n5 := ρ 5) (n6 := ρ 6) (n7 := ρ 7) (n8 := ρ 8) (n9 := ρ 9) (n10 := ρ 10) (n11 := ρ 11) (n12 := ρ 12) (n13 := ρ 13) (H0 := η 0) (H1 := η 1) (H2 := η 2) (H3 := η 3) f30 f29 f28 f27 f26 f25 f24 f23 f22 f21 f20 f19 f18 f17 f16 f15 f14 f13 f12 f11 f10 f9 f8 f7 f6 f5 f4 f3 f2 f1 f0
theorem q_260v_8 {n0 n1 n2 n3 n4 n5 n6 n7 n8 n9 n10 n11 n12 n13 n14 : Int} {H0 H1 H2 H3 H4 : gH} (f0 : n0 ≤ 2147483647) (f1 : (-2147483648) ≤ n0) (f2 : n1 ≤ 2147483647) (f3 : (-2147483648) ≤ n1) (f4 : n2 ≤ 2147483647) (f5 : (-2147483648) ≤ n2) (f6 : n3 = 285) (f7 : hWt T0 H0 ∧ preb_260v n3 n2 n1 n0 H0) (f8 : n4 ≤ 1) (f9 : 0 ≤ n4) (f10 : (hLe T0 H0 H1 ∧ hFr s_257v.2.2.2.2 H0 H1 ∧ ((0 : Int) = 0 → H1.length = H0.length) ∧ hWt T0 H1) ∧ postb_257v n4 n3 n2 H0 H1) (f11 : n4 ≠ 0) (f12 : 0 ≤ n1) (f13 : n5 = 329) (f14 : n5 = hV H1 (n3).toNat 67) (f15 : n6 ≤ 240) (f16 : (-1) ≤ n6) (f17 : n6 = hV H1 (n5).toNat (n2).toNat) (f18 : n1 < n6) (f19 : n7 = (-9999)) (f20 : n8 = 9999) (f21 : n9 ≤ 1) (f22 : 0 ≤ n9) (f23 : (hLe T0 H1 H2 ∧ hFr s_251.2.2.2.2 H1 H2 ∧ ((0 : Int) = 0 → H2.length = H1.length) ∧ hWt T0 H2) ∧ postb_251 n9 n0 n7 n8 H1 H2) (f24 : n9 ≠ 0) (f25 : n10 = 337) (f26 : n10 = hV H2 (n3).toNat 75) (f27 : n11 = 240) (f28 : n12 = w32 (n11 * n2)) (f29 : n13 = w32 (n12 + n1)) (f30 : hUpd H3 H2 n10 n13 n0) (f31 : (hLe T0 H3 H4 ∧ hFr s_258.2.2.2.2 H3 H4 ∧ ((0 : Int) = 0 → H4.length = H3.length) ∧ hWt T0 H4) ∧ postb_258 n3 n2 H3 H4) (f32 : n14 = 1) : postb_260v n14 n3 n2 n1 n0 H0 H4 := by
  unfold preb_260v at f7
  unfold postb_257v at f10
  unfold postb_251 at f23
  unfold postb_258 at f31
  unfold postb_260v
  have e0 : hV H1 329 = hV H0 329 := fRow f10.1.2.1 329 (by decide +kernel)
  have e1 : n6 = hV H0 329 (n2).toNat := (by rw [f13] at f17; exact f17 : n6 = hV H1 329 (n2).toNat).trans ((congrFun e0 _))
  have e2 : hV H1 285 64 = hV H0 285 64 := f10.1.2.1.1 285 64 (by decide +kernel)
  have e3 : hV H1 285 64 = hV H0 285 64 := e2
  have e4 : hV H1 328 = hV H0 328 := fRow f10.1.2.1 328 (by decide +kernel)
  have e5 : hV H3 285 65 = hV H2 285 65 := uPlace f30 _ _ (iS (show n10 = ((337 : Nat) : Int) from f25) rfl)
  have e6 : hV H2 285 65 = hV H1 285 65 := f23.1.2.1.1 285 65 (by decide +kernel)
  have e7 : hV H1 285 65 = hV H0 285 65 := f10.1.2.1.1 285 65 (by decide +kernel)
  have e8 : hV H3 285 65 = hV H0 285 65 := (e5).trans ((e6).trans e7)
  have e9 : hV H3 333 = hV H2 333 := uRowNe f30 _ (iS (show n10 = ((337 : Nat) : Int) from f25) rfl)
  have e10 : hV H2 333 = hV H1 333 := fRow f23.1.2.1 333 (by decide +kernel)
  have e11 : hV H1 333 = hV H0 333 := fRow f10.1.2.1 333 (by decide +kernel)
  have e12 : hV H2 333 = hV H0 333 := e10.trans e11
  have e13 : hV H3 333 = hV H0 333 := e9.trans e12
  have e14 : SO H1 = SO H0 := SO_fr f10.1.2.1 (by decide +kernel)
  have e15 : SO H2 = SO H1 := SO_fr f23.1.2.1 (by decide +kernel)
  have e16 : SO H2 = SO H0 := e15.trans e14
  have e17 : SO H3 = SO H2 := SO_upR f30 (show n10 = ((337 : Nat) : Int) from f25) (by decide)
  have e18 : SO H3 = SO H0 := e17.trans e16
  have e19 : SO H4 = SO H3 := SO_fr f31.1.2.1 (by decide +kernel)
  have e20 : SO H4 = SO H0 := e19.trans e18
  have e21 : (0 : Int) ≤ hV H0 285 64 ∧ hV H0 285 64 ≤ 20 := f7.1 285 64 _ _ (by decide +kernel)
  have e22 : (0 : Int) ≤ hV H0 285 65 ∧ hV H0 285 65 ≤ 2147483647 := f7.1 285 65 _ _ (by decide +kernel)
  have e23 : (0 : Int) ≤ hV H1 285 64 ∧ hV H1 285 64 ≤ 20 := f10.1.2.2.2 285 64 _ _ (by decide +kernel)
  have e24 : (0 : Int) ≤ hV H4 285 65 ∧ hV H4 285 65 ≤ 2147483647 := f31.1.2.2.2 285 65 _ _ (by decide +kernel)
  try simp only [e3, e4, e0, e8, e13, e20] at f7
  try simp only [e3, e4, e0, e8, e13, e20] at f10
  try simp only [e3, e4, e0, e8, e13, e20] at f23
  try simp only [e3, e4, e0, e8, e13, e20] at f31
  try simp only [e3, e4, e0, e8, e13, e20] at e21
  try simp only [e3, e4, e0, e8, e13, e20] at e22
  try simp only [e3, e4, e0, e8, e13, e20] at e23
  try simp only [e3, e4, e0, e8, e13, e20] at e24
  try simp only [e3, e4, e0, e8, e13, e20]
  have p0 := f7.2.1
  have p1 := f7.2.2.1
  have p2 := f7.2.2.2
  have r0_0 := f10.2
  have r1_0 := f23.2
  have r2_0 := f31.2.1
  have r2_1 := f31.2.2.1
  have r2_2 := f31.2.2.2
  try simp only [e3, e4, e0, e8, e13, e20] at p0
  try simp only [e3, e4, e0, e8, e13, e20] at p1
  try simp only [e3, e4, e0, e8, e13, e20] at p2
  try simp only [e3, e4, e0, e8, e13, e20] at r0_0
  try simp only [e3, e4, e0, e8, e13, e20] at r1_0
  try simp only [e3, e4, e0, e8, e13, e20] at r2_0
  try simp only [e3, e4, e0, e8, e13, e20] at r2_1
  try simp only [e3, e4, e0, e8, e13, e20] at r2_2
  clear f14 f17 f26 e0 e2 e3 e4 e5 e6 e7 e8 e9 e10 e11 e12 e13 e14 e15 e16 e17 e18 e19 e20
  subst e1
  rw [f27] at f28
  unfold w32 at *
  try (have ix0 : n12 = 240 * n2 := (by omega); subst ix0)
  try (have ix1 : n13 = (240 * n2) + n1 := (by omega); subst ix1)
  refine ⟨?_, ?_, ?_, ?_⟩ <;> first | assumption | omega | trivial
def g_260v_s_8 : vG := ([(0, [14], [], 1), (1258, [0, 1], [3, 4], 0), (80, [10, 13, 3], [3, 2], 0), (1, [13, 12, 2], [], 0), (3, [12, 11, 1], [], 0), (0, [11], [], 240), (20, [10, 0], [2], 75), (0, [10], [], 337), (31, [9], [], 0), (1251, [9, 3, 7, 8], [1, 2], 0), (90, [9], [], 0), (91, [9], [], 1), (0, [8], [], 9999), (0, [7], [], -9999), (42, [2, 6], [], 0), (22, [6, 5, 1], [1], 0), (90, [6], [], -1), (91, [6], [], 240), (20, [5, 0], [1], 67), (0, [5], [], 329), (33, [2], [], 0), (31, [4], [], 0), (1257, [4, 0, 1], [0, 1], 0), (90, [4], [], 0), (91, [4], [], 1), (6000, [0, 1, 2, 3], [0], 0), (0, [0], [], 285), (90, [1], [], -2147483648), (91, [1], [], 2147483647), (90, [2], [], -2147483648), (91, [2], [], 2147483647), (90, [3], [], -2147483648), (91, [3], [], 2147483647)], (3000, [14], [4], 56))
theorem c_260v_s_8 : vOkm T0 (eP e_260v L_260v A_260v mu_260v none) 4 g_260v_s_8 := vOk_in fun ρ η h => by
  obtain ⟨f0, f1, f2, f3, f4, f5, f6, f7, f8, f9, f10, f11, f12, f13, f14, f15, f16, f17, f18, f19, f20, f21, f22, f23, f24, f25, f26, f27, f28, f29, f30, f31, f32, _⟩ := h
  exact q_260v_8 (n0 := ρ 3) (n1 := ρ 2) (n2 := ρ 1) (n3 := ρ 0) (n4 := ρ 4) (n5 := ρ 5) (n6 := ρ 6) (n7 := ρ 7) (n8 := ρ 8) (n9 := ρ 9) (n10 := ρ 10) (n11 := ρ 11) (n12 := ρ 12) (n13 := ρ 13) (n14 := ρ 14) (H0 := η 0) (H1 := η 1) (H2 := η 2) (H3 := η 3) (H4 := η 4) f32 f31 f30 f29 f28 f27 f26 f25 f24 f23 f22 f21 f20 f19 f18 f17 f16 f15 f14 f13 f12 f11 f10 f9 f8 f7 f6 f5 f4 f3 f2 f1 f0
theorem q_260v_9 {n0 n1 n2 n3 n4 n5 n6 n7 n8 n9 n10 : Int} {H0 H1 H2 : gH} (f0 : n0 ≤ 2147483647) (f1 : (-2147483648) ≤ n0) (f2 : n1 ≤ 2147483647) (f3 : (-2147483648) ≤ n1) (f4 : n2 ≤ 2147483647) (f5 : (-2147483648) ≤ n2) (f6 : n3 = 285) (f7 : hWt T0 H0 ∧ preb_260v n3 n2 n1 n0 H0) (f8 : n4 ≤ 1) (f9 : 0 ≤ n4) (f10 : (hLe T0 H0 H1 ∧ hFr s_257v.2.2.2.2 H0 H1 ∧ ((0 : Int) = 0 → H1.length = H0.length) ∧ hWt T0 H1) ∧ postb_257v n4 n3 n2 H0 H1) (f11 : n4 ≠ 0) (f12 : 0 ≤ n1) (f13 : n5 = 329) (f14 : n5 = hV H1 (n3).toNat 67) (f15 : n6 ≤ 240) (f16 : (-1) ≤ n6) (f17 : n6 = hV H1 (n5).toNat (n2).toNat) (f18 : n1 < n6) (f19 : n7 = (-9999)) (f20 : n8 = 9999) (f21 : n9 ≤ 1) (f22 : 0 ≤ n9) (f23 : (hLe T0 H1 H2 ∧ hFr s_251.2.2.2.2 H1 H2 ∧ ((0 : Int) = 0 → H2.length = H1.length) ∧ hWt T0 H2) ∧ postb_251 n9 n0 n7 n8 H1 H2) (f24 : n9 = 0) (f25 : n10 = 0) : postb_260v n10 n3 n2 n1 n0 H0 H2 := by
  unfold preb_260v at f7
  unfold postb_257v at f10
  unfold postb_251 at f23
  unfold postb_260v
  have e0 : hV H1 329 = hV H0 329 := fRow f10.1.2.1 329 (by decide +kernel)
  have e1 : n6 = hV H0 329 (n2).toNat := (by rw [f13] at f17; exact f17 : n6 = hV H1 329 (n2).toNat).trans ((congrFun e0 _))
  have e2 : hV H1 285 64 = hV H0 285 64 := f10.1.2.1.1 285 64 (by decide +kernel)
  have e3 : hV H1 285 64 = hV H0 285 64 := e2
  have e4 : hV H1 328 = hV H0 328 := fRow f10.1.2.1 328 (by decide +kernel)
  have e5 : hV H2 285 65 = hV H1 285 65 := f23.1.2.1.1 285 65 (by decide +kernel)
  have e6 : hV H1 285 65 = hV H0 285 65 := f10.1.2.1.1 285 65 (by decide +kernel)
  have e7 : hV H2 285 65 = hV H0 285 65 := (e5).trans e6
  have e8 : SO H1 = SO H0 := SO_fr f10.1.2.1 (by decide +kernel)
  have e9 : SO H2 = SO H1 := SO_fr f23.1.2.1 (by decide +kernel)
  have e10 : SO H2 = SO H0 := e9.trans e8
  have e11 : SS H1 = SS H0 := SS_fr f10.1.2.1 (by decide +kernel)
  have e12 : SS H2 = SS H1 := SS_fr f23.1.2.1 (by decide +kernel)
  have e13 : SS H2 = SS H0 := e12.trans e11
  have e14 : (0 : Int) ≤ hV H0 285 64 ∧ hV H0 285 64 ≤ 20 := f7.1 285 64 _ _ (by decide +kernel)
  have e15 : (0 : Int) ≤ hV H0 285 65 ∧ hV H0 285 65 ≤ 2147483647 := f7.1 285 65 _ _ (by decide +kernel)
  have e16 : (0 : Int) ≤ hV H1 285 64 ∧ hV H1 285 64 ≤ 20 := f10.1.2.2.2 285 64 _ _ (by decide +kernel)
  have e17 : (0 : Int) ≤ hV H2 285 65 ∧ hV H2 285 65 ≤ 2147483647 := f23.1.2.2.2 285 65 _ _ (by decide +kernel)
  try simp only [e3, e4, e0, e7, e10, e13] at f7
  try simp only [e3, e4, e0, e7, e10, e13] at f10
  try simp only [e3, e4, e0, e7, e10, e13] at f23
  try simp only [e3, e4, e0, e7, e10, e13] at e14
  try simp only [e3, e4, e0, e7, e10, e13] at e15
  try simp only [e3, e4, e0, e7, e10, e13] at e16
  try simp only [e3, e4, e0, e7, e10, e13] at e17
  try simp only [e3, e4, e0, e7, e10, e13]
  have p0 := f7.2.1
  have p1 := f7.2.2.1
  have p2 := f7.2.2.2
  have r0_0 := f10.2
  have r1_0 := f23.2
  try simp only [e3, e4, e0, e7, e10, e13] at p0
  try simp only [e3, e4, e0, e7, e10, e13] at p1
  try simp only [e3, e4, e0, e7, e10, e13] at p2
  try simp only [e3, e4, e0, e7, e10, e13] at r0_0
  try simp only [e3, e4, e0, e7, e10, e13] at r1_0
  clear f14 f17 e0 e2 e3 e4 e5 e6 e7 e8 e9 e10 e11 e12 e13
  subst e1
  refine ⟨?_, ?_, ?_, ?_⟩ <;> first | assumption | omega | trivial
def g_260v_s_9 : vG := ([(0, [10], [], 0), (30, [9], [], 0), (1251, [9, 3, 7, 8], [1, 2], 0), (90, [9], [], 0), (91, [9], [], 1), (0, [8], [], 9999), (0, [7], [], -9999), (42, [2, 6], [], 0), (22, [6, 5, 1], [1], 0), (90, [6], [], -1), (91, [6], [], 240), (20, [5, 0], [1], 67), (0, [5], [], 329), (33, [2], [], 0), (31, [4], [], 0), (1257, [4, 0, 1], [0, 1], 0), (90, [4], [], 0), (91, [4], [], 1), (6000, [0, 1, 2, 3], [0], 0), (0, [0], [], 285), (90, [1], [], -2147483648), (91, [1], [], 2147483647), (90, [2], [], -2147483648), (91, [2], [], 2147483647), (90, [3], [], -2147483648), (91, [3], [], 2147483647)], (3000, [10], [2], 36))
theorem c_260v_s_9 : vOkm T0 (eP e_260v L_260v A_260v mu_260v none) 4 g_260v_s_9 := vOk_in fun ρ η h => by
  obtain ⟨f0, f1, f2, f3, f4, f5, f6, f7, f8, f9, f10, f11, f12, f13, f14, f15, f16, f17, f18, f19, f20, f21, f22, f23, f24, f25, _⟩ := h
  exact q_260v_9 (n0 := ρ 3) (n1 := ρ 2) (n2 := ρ 1) (n3 := ρ 0) (n4 := ρ 4) (n5 := ρ 5) (n6 := ρ 6) (n7 := ρ 7) (n8 := ρ 8) (n9 := ρ 9) (n10 := ρ 10) (H0 := η 0) (H1 := η 1) (H2 := η 2) f25 f24 f23 f22 f21 f20 f19 f18 f17 f16 f15 f14 f13 f12 f11 f10 f9 f8 f7 f6 f5 f4 f3 f2 f1 f0
def p_260v_s : List vG := [g_260v_s_0,
  g_260v_s_1,
  g_260v_s_2,
  g_260v_s_3,
  g_260v_s_4,
  g_260v_s_5,
  g_260v_s_6,
  g_260v_s_7,
  g_260v_s_8,
  g_260v_s_9]
theorem r_260v_s : vCovO false (eR0 e_260v L_260v cs_260v 2000) p_260v_s = true := by decide +kernel
theorem m_260v (d : Nat) : eC e_260v (d + 3) := eC_ok (e := e_260v) (L := L_260v) (cs := cs_260v) (n := 2000) (d := d + 2) (A := A_260v) (μ := mu_260v) (tp := false) (p0 := p_260v_s) rfl ⟨m_251 (d + 1), ⟨m_257v d, ⟨m_258 (d + 1), trivial⟩⟩⟩ rfl (.inl rfl) (by decide +kernel) (fun z => nomatch z) r_260v_s (allC c_260v_s_0 (allC c_260v_s_1 (allC c_260v_s_2 (allC c_260v_s_3 (allC c_260v_s_4 (allC c_260v_s_5 (allC c_260v_s_6 (allC c_260v_s_7 (allC c_260v_s_8 (allC c_260v_s_9 allN)))))))))) allN
/- MixStageModel.wave (IIIII)Z -/
noncomputable def s_259v : vM := ([(3, 12, 285, 0), (0, -2147483648, 2147483647, 0), (0, -2147483648, 2147483647, 0), (0, -2147483648, 2147483647, 0), (0, -2147483648, 2147483647, 0), (0, -2147483648, 2147483647, 0)], (0, 0, 1, 0), 1, 0, [(12, 65), (492, 0), (524, 0)])
def preb_259v (a0 a1 a2 a3 a4 a5 : Int) (h : gH) : Prop := hV h 285 65 ≤ 20000 ∧ SO h ∧ SS h
def pre_259v : List Int → gH → Prop := fun xs h => match xs with
  | [a0, a1, a2, a3, a4, a5] => preb_259v a0 a1 a2 a3 a4 a5 h
  | _ => False
def postb_259v (r a0 a1 a2 a3 a4 a5 : Int) (h0 h : gH) : Prop := SO h ∧ SS h ∧ hV h 285 65 ≤ hV h0 285 65 + 1
def post_259v : List Int → gH → gH → Prop := fun xs h0 h => match xs with
  | [r, a0, a1, a2, a3, a4, a5] => postb_259v r a0 a1 a2 a3 a4 a5 h0 h
  | _ => True
noncomputable def e_259v : vE := (259, s_259v, pre_259v, post_259v)
noncomputable def L_259v : List vE := [e_251, e_257v, e_258]
def cs_259v : List vC := [(83, [(0, (3, 12, 285, 0)), (1, (0, -2147483648, 2147483647, 0)), (2, (0, -2147483648, 2147483647, 0)), (3, (0, -2147483648, 2147483647, 0)), (4, (0, -2147483648, 2147483647, 0)), (5, (0, -2147483648, 2147483647, 0)), (6, (1, 0, 0, 0)), (8, (0, -2147483648, 2147483647, 0))])]
def Ab_259v_83 (a0 a1 a2 a3 a4 a5 x0 x1 x2 x3 x4 x5 x6 x8 : Int) (h0 h : gH) : Prop := x1 = a1 ∧ x2 = a2 ∧ x3 = a3 ∧ x4 = a4 ∧ x5 = a5 ∧ 0 ≤ a1 ∧ a1 ≤ 19 ∧ a3 ≤ 240 ∧ 0 ≤ x8 ∧ hV h 285 65 ≤ hV h0 285 65 ∧ SS h
def mub_259v_83 (a0 a1 a2 a3 a4 a5 x0 x1 x2 x3 x4 x5 x6 x8 : Int) (h0 h : gH) : Nat := (2147483648 - x8).toNat
def A_259v : Int → List Int → gH → gH → Prop := fun c xs h0 h => match c.toNat with
  | 83 => (match xs with
    | [a0, a1, a2, a3, a4, a5, x0, x1, x2, x3, x4, x5, x6, x8] => Ab_259v_83 a0 a1 a2 a3 a4 a5 x0 x1 x2 x3 x4 x5 x6 x8 h0 h
    | _ => False)
  | _ => True
def mu_259v : Int → List Int → gH → gH → Nat := fun c xs h0 h => match c.toNat with
  | 83 => (match xs with
    | [a0, a1, a2, a3, a4, a5, x0, x1, x2, x3, x4, x5, x6, x8] => mub_259v_83 a0 a1 a2 a3 a4 a5 x0 x1 x2 x3 x4 x5 x6 x8 h0 h
    | _ => 0)
  | _ => 0
theorem q_259v_0 {n0 n1 n2 n3 n4 n5 n6 n7 : Int} {H0 H1 : gH} (f0 : n0 ≤ 2147483647) (f1 : (-2147483648) ≤ n0) (f2 : n1 ≤ 2147483647) (f3 : (-2147483648) ≤ n1) (f4 : n2 ≤ 2147483647) (f5 : (-2147483648) ≤ n2) (f6 : n3 ≤ 2147483647) (f7 : (-2147483648) ≤ n3) (f8 : n4 ≤ 2147483647) (f9 : (-2147483648) ≤ n4) (f10 : n5 = 285) (f11 : hWt T0 H0 ∧ preb_259v n5 n4 n3 n2 n1 n0 H0) (f12 : n6 ≤ 1) (f13 : 0 ≤ n6) (f14 : (hLe T0 H0 H1 ∧ hFr s_257v.2.2.2.2 H0 H1 ∧ ((0 : Int) = 0 → H1.length = H0.length) ∧ hWt T0 H1) ∧ postb_257v n6 n5 n4 H0 H1) (f15 : n6 = 0) (f16 : n7 = 0) : postb_259v n7 n5 n4 n3 n2 n1 n0 H0 H1 := by
  unfold preb_259v at f11
  unfold postb_257v at f14
  unfold postb_259v
  have e0 : hV H1 285 64 = hV H0 285 64 := f14.1.2.1.1 285 64 (by decide +kernel)
  have e1 : hV H1 285 64 = hV H0 285 64 := e0
  have e2 : hV H1 285 65 = hV H0 285 65 := f14.1.2.1.1 285 65 (by decide +kernel)
  have e3 : hV H1 285 65 = hV H0 285 65 := e2
  have e4 : hV H1 328 = hV H0 328 := fRow f14.1.2.1 328 (by decide +kernel)
  have e5 : hV H1 329 = hV H0 329 := fRow f14.1.2.1 329 (by decide +kernel)
  have e6 : SO H1 = SO H0 := SO_fr f14.1.2.1 (by decide +kernel)
  have e7 : SS H1 = SS H0 := SS_fr f14.1.2.1 (by decide +kernel)
  have e8 : (0 : Int) ≤ hV H0 285 65 ∧ hV H0 285 65 ≤ 2147483647 := f11.1 285 65 _ _ (by decide +kernel)
  have e9 : (0 : Int) ≤ hV H1 285 64 ∧ hV H1 285 64 ≤ 20 := f14.1.2.2.2 285 64 _ _ (by decide +kernel)
  have e10 : (0 : Int) ≤ hV H0 285 64 ∧ hV H0 285 64 ≤ 20 := f11.1 285 64 _ _ (by decide +kernel)
  have e11 : (0 : Int) ≤ hV H1 285 65 ∧ hV H1 285 65 ≤ 2147483647 := f14.1.2.2.2 285 65 _ _ (by decide +kernel)
  try simp only [e1, e3, e4, e5, e6, e7] at f11
  try simp only [e1, e3, e4, e5, e6, e7] at f14
  try simp only [e1, e3, e4, e5, e6, e7] at e8
  try simp only [e1, e3, e4, e5, e6, e7] at e9
  try simp only [e1, e3, e4, e5, e6, e7] at e10
  try simp only [e1, e3, e4, e5, e6, e7] at e11
  try simp only [e1, e3, e4, e5, e6, e7]
  have p0 := f11.2.1
  have p1 := f11.2.2.1
  have p2 := f11.2.2.2
  have r0_0 := f14.2
  try simp only [e1, e3, e4, e5, e6, e7] at p0
  try simp only [e1, e3, e4, e5, e6, e7] at p1
  try simp only [e1, e3, e4, e5, e6, e7] at p2
  try simp only [e1, e3, e4, e5, e6, e7] at r0_0
  clear e0 e1 e2 e3 e4 e5 e6 e7
  refine ⟨?_, ?_, ?_⟩ <;> first | assumption | omega | trivial
def g_259v_s_0 : vG := ([(0, [7], [], 0), (30, [6], [], 0), (1257, [6, 0, 1], [0, 1], 0), (90, [6], [], 0), (91, [6], [], 1), (6000, [0, 1, 2, 3, 4, 5], [0], 0), (0, [0], [], 285), (90, [1], [], -2147483648), (91, [1], [], 2147483647), (90, [2], [], -2147483648), (91, [2], [], 2147483647), (90, [3], [], -2147483648), (91, [3], [], 2147483647), (90, [4], [], -2147483648), (91, [4], [], 2147483647), (90, [5], [], -2147483648), (91, [5], [], 2147483647)], (3000, [7], [1], 28))
theorem c_259v_s_0 : vOkm T0 (eP e_259v L_259v A_259v mu_259v none) 6 g_259v_s_0 := vOk_in fun ρ η h => by
  obtain ⟨f0, f1, f2, f3, f4, f5, f6, f7, f8, f9, f10, f11, f12, f13, f14, f15, f16, _⟩ := h
  exact q_259v_0 (n0 := ρ 5) (n1 := ρ 4) (n2 := ρ 3) (n3 := ρ 2) (n4 := ρ 1) (n5 := ρ 0) (n6 := ρ 6) (n7 := ρ 7) (H0 := η 0) (H1 := η 1) f16 f15 f14 f13 f12 f11 f10 f9 f8 f7 f6 f5 f4 f3 f2 f1 f0
theorem q_259v_1 {n0 n1 n2 n3 n4 n5 n6 n7 : Int} {H0 H1 : gH} (f0 : n0 ≤ 2147483647) (f1 : (-2147483648) ≤ n0) (f2 : n1 ≤ 2147483647) (f3 : (-2147483648) ≤ n1) (f4 : n2 ≤ 2147483647) (f5 : (-2147483648) ≤ n2) (f6 : n3 ≤ 2147483647) (f7 : (-2147483648) ≤ n3) (f8 : n4 ≤ 2147483647) (f9 : (-2147483648) ≤ n4) (f10 : n5 = 285) (f11 : hWt T0 H0 ∧ preb_259v n5 n4 n3 n2 n1 n0 H0) (f12 : n6 ≤ 1) (f13 : 0 ≤ n6) (f14 : (hLe T0 H0 H1 ∧ hFr s_257v.2.2.2.2 H0 H1 ∧ ((0 : Int) = 0 → H1.length = H0.length) ∧ hWt T0 H1) ∧ postb_257v n6 n5 n4 H0 H1) (f15 : n6 ≠ 0) (f16 : n3 < 0) (f17 : n7 = 0) : postb_259v n7 n5 n4 n3 n2 n1 n0 H0 H1 := by
  unfold preb_259v at f11
  unfold postb_257v at f14
  unfold postb_259v
  have e0 : hV H1 285 64 = hV H0 285 64 := f14.1.2.1.1 285 64 (by decide +kernel)
  have e1 : hV H1 285 64 = hV H0 285 64 := e0
  have e2 : hV H1 285 65 = hV H0 285 65 := f14.1.2.1.1 285 65 (by decide +kernel)
  have e3 : hV H1 285 65 = hV H0 285 65 := e2
  have e4 : hV H1 328 = hV H0 328 := fRow f14.1.2.1 328 (by decide +kernel)
  have e5 : hV H1 329 = hV H0 329 := fRow f14.1.2.1 329 (by decide +kernel)
  have e6 : SO H1 = SO H0 := SO_fr f14.1.2.1 (by decide +kernel)
  have e7 : SS H1 = SS H0 := SS_fr f14.1.2.1 (by decide +kernel)
  have e8 : (0 : Int) ≤ hV H0 285 65 ∧ hV H0 285 65 ≤ 2147483647 := f11.1 285 65 _ _ (by decide +kernel)
  have e9 : (0 : Int) ≤ hV H1 285 64 ∧ hV H1 285 64 ≤ 20 := f14.1.2.2.2 285 64 _ _ (by decide +kernel)
  have e10 : (0 : Int) ≤ hV H0 285 64 ∧ hV H0 285 64 ≤ 20 := f11.1 285 64 _ _ (by decide +kernel)
  have e11 : (0 : Int) ≤ hV H1 285 65 ∧ hV H1 285 65 ≤ 2147483647 := f14.1.2.2.2 285 65 _ _ (by decide +kernel)
  try simp only [e1, e3, e4, e5, e6, e7] at f11
  try simp only [e1, e3, e4, e5, e6, e7] at f14
  try simp only [e1, e3, e4, e5, e6, e7] at e8
  try simp only [e1, e3, e4, e5, e6, e7] at e9
  try simp only [e1, e3, e4, e5, e6, e7] at e10
  try simp only [e1, e3, e4, e5, e6, e7] at e11
  try simp only [e1, e3, e4, e5, e6, e7]
  have p0 := f11.2.1
  have p1 := f11.2.2.1
  have p2 := f11.2.2.2
  have r0_0 := f14.2
  try simp only [e1, e3, e4, e5, e6, e7] at p0
  try simp only [e1, e3, e4, e5, e6, e7] at p1
  try simp only [e1, e3, e4, e5, e6, e7] at p2
  try simp only [e1, e3, e4, e5, e6, e7] at r0_0
  clear e0 e1 e2 e3 e4 e5 e6 e7
  refine ⟨?_, ?_, ?_⟩ <;> first | assumption | omega | trivial
def g_259v_s_1 : vG := ([(0, [7], [], 0), (32, [2], [], 0), (31, [6], [], 0), (1257, [6, 0, 1], [0, 1], 0), (90, [6], [], 0), (91, [6], [], 1), (6000, [0, 1, 2, 3, 4, 5], [0], 0), (0, [0], [], 285), (90, [1], [], -2147483648), (91, [1], [], 2147483647), (90, [2], [], -2147483648), (91, [2], [], 2147483647), (90, [3], [], -2147483648), (91, [3], [], 2147483647), (90, [4], [], -2147483648), (91, [4], [], 2147483647), (90, [5], [], -2147483648), (91, [5], [], 2147483647)], (3000, [7], [1], 28))
theorem c_259v_s_1 : vOkm T0 (eP e_259v L_259v A_259v mu_259v none) 6 g_259v_s_1 := vOk_in fun ρ η h => by
  obtain ⟨f0, f1, f2, f3, f4, f5, f6, f7, f8, f9, f10, f11, f12, f13, f14, f15, f16, f17, _⟩ := h
  exact q_259v_1 (n0 := ρ 5) (n1 := ρ 4) (n2 := ρ 3) (n3 := ρ 2) (n4 := ρ 1) (n5 := ρ 0) (n6 := ρ 6) (n7 := ρ 7) (H0 := η 0) (H1 := η 1) f17 f16 f15 f14 f13 f12 f11 f10 f9 f8 f7 f6 f5 f4 f3 f2 f1 f0
theorem q_259v_2 {n0 n1 n2 n3 n4 n5 n6 n7 : Int} {H0 H1 : gH} (f0 : n0 ≤ 2147483647) (f1 : (-2147483648) ≤ n0) (f2 : n1 ≤ 2147483647) (f3 : (-2147483648) ≤ n1) (f4 : n2 ≤ 2147483647) (f5 : (-2147483648) ≤ n2) (f6 : n3 ≤ 2147483647) (f7 : (-2147483648) ≤ n3) (f8 : n4 ≤ 2147483647) (f9 : (-2147483648) ≤ n4) (f10 : n5 = 285) (f11 : hWt T0 H0 ∧ preb_259v n5 n4 n3 n2 n1 n0 H0) (f12 : n6 ≤ 1) (f13 : 0 ≤ n6) (f14 : (hLe T0 H0 H1 ∧ hFr s_257v.2.2.2.2 H0 H1 ∧ ((0 : Int) = 0 → H1.length = H0.length) ∧ hWt T0 H1) ∧ postb_257v n6 n5 n4 H0 H1) (f15 : n6 ≠ 0) (f16 : 0 ≤ n3) (f17 : n2 ≤ n3) (f18 : n7 = 0) : postb_259v n7 n5 n4 n3 n2 n1 n0 H0 H1 := by
  unfold preb_259v at f11
  unfold postb_257v at f14
  unfold postb_259v
  have e0 : hV H1 285 64 = hV H0 285 64 := f14.1.2.1.1 285 64 (by decide +kernel)
  have e1 : hV H1 285 64 = hV H0 285 64 := e0
  have e2 : hV H1 285 65 = hV H0 285 65 := f14.1.2.1.1 285 65 (by decide +kernel)
  have e3 : hV H1 285 65 = hV H0 285 65 := e2
  have e4 : hV H1 328 = hV H0 328 := fRow f14.1.2.1 328 (by decide +kernel)
  have e5 : hV H1 329 = hV H0 329 := fRow f14.1.2.1 329 (by decide +kernel)
  have e6 : SO H1 = SO H0 := SO_fr f14.1.2.1 (by decide +kernel)
  have e7 : SS H1 = SS H0 := SS_fr f14.1.2.1 (by decide +kernel)
  have e8 : (0 : Int) ≤ hV H0 285 65 ∧ hV H0 285 65 ≤ 2147483647 := f11.1 285 65 _ _ (by decide +kernel)
  have e9 : (0 : Int) ≤ hV H1 285 64 ∧ hV H1 285 64 ≤ 20 := f14.1.2.2.2 285 64 _ _ (by decide +kernel)
  have e10 : (0 : Int) ≤ hV H0 285 64 ∧ hV H0 285 64 ≤ 20 := f11.1 285 64 _ _ (by decide +kernel)
  have e11 : (0 : Int) ≤ hV H1 285 65 ∧ hV H1 285 65 ≤ 2147483647 := f14.1.2.2.2 285 65 _ _ (by decide +kernel)
  try simp only [e1, e3, e4, e5, e6, e7] at f11
  try simp only [e1, e3, e4, e5, e6, e7] at f14
  try simp only [e1, e3, e4, e5, e6, e7] at e8
  try simp only [e1, e3, e4, e5, e6, e7] at e9
  try simp only [e1, e3, e4, e5, e6, e7] at e10
  try simp only [e1, e3, e4, e5, e6, e7] at e11
  try simp only [e1, e3, e4, e5, e6, e7]
  have p0 := f11.2.1
  have p1 := f11.2.2.1
  have p2 := f11.2.2.2
  have r0_0 := f14.2
  try simp only [e1, e3, e4, e5, e6, e7] at p0
  try simp only [e1, e3, e4, e5, e6, e7] at p1
  try simp only [e1, e3, e4, e5, e6, e7] at p2
  try simp only [e1, e3, e4, e5, e6, e7] at r0_0
  clear e0 e1 e2 e3 e4 e5 e6 e7
  refine ⟨?_, ?_, ?_⟩ <;> first | assumption | omega | trivial
def g_259v_s_2 : vG := ([(0, [7], [], 0), (43, [2, 3], [], 0), (33, [2], [], 0), (31, [6], [], 0), (1257, [6, 0, 1], [0, 1], 0), (90, [6], [], 0), (91, [6], [], 1), (6000, [0, 1, 2, 3, 4, 5], [0], 0), (0, [0], [], 285), (90, [1], [], -2147483648), (91, [1], [], 2147483647), (90, [2], [], -2147483648), (91, [2], [], 2147483647), (90, [3], [], -2147483648), (91, [3], [], 2147483647), (90, [4], [], -2147483648), (91, [4], [], 2147483647), (90, [5], [], -2147483648), (91, [5], [], 2147483647)], (3000, [7], [1], 28))
theorem c_259v_s_2 : vOkm T0 (eP e_259v L_259v A_259v mu_259v none) 6 g_259v_s_2 := vOk_in fun ρ η h => by
  obtain ⟨f0, f1, f2, f3, f4, f5, f6, f7, f8, f9, f10, f11, f12, f13, f14, f15, f16, f17, f18, _⟩ := h
  exact q_259v_2 (n0 := ρ 5) (n1 := ρ 4) (n2 := ρ 3) (n3 := ρ 2) (n4 := ρ 1) (n5 := ρ 0) (n6 := ρ 6) (n7 := ρ 7) (H0 := η 0) (H1 := η 1) f18 f17 f16 f15 f14 f13 f12 f11 f10 f9 f8 f7 f6 f5 f4 f3 f2 f1 f0
theorem q_259v_3 {n0 n1 n2 n3 n4 n5 n6 : Int} {H0 H1 : gH} (f0 : n0 ≤ 2147483647) (f1 : (-2147483648) ≤ n0) (f2 : n1 ≤ 2147483647) (f3 : (-2147483648) ≤ n1) (f4 : n2 ≤ 2147483647) (f5 : (-2147483648) ≤ n2) (f6 : n3 ≤ 2147483647) (f7 : (-2147483648) ≤ n3) (f8 : n4 ≤ 2147483647) (f9 : (-2147483648) ≤ n4) (f10 : n5 = 285) (f11 : hWt T0 H0 ∧ preb_259v n5 n4 n3 n2 n1 n0 H0) (f12 : n6 ≤ 1) (f13 : 0 ≤ n6) (f14 : (hLe T0 H0 H1 ∧ hFr s_257v.2.2.2.2 H0 H1 ∧ ((0 : Int) = 0 → H1.length = H0.length) ∧ hWt T0 H1) ∧ postb_257v n6 n5 n4 H0 H1) (f15 : n6 ≠ 0) (f16 : 0 ≤ n3) (f17 : n3 < n2) : 0 ≤ n4 ∧ n4 < 20 := by
  unfold preb_259v at f11
  unfold postb_257v at f14
  have e0 : hV H1 285 64 = hV H0 285 64 := f14.1.2.1.1 285 64 (by decide +kernel)
  have e1 : hV H1 285 64 = hV H0 285 64 := e0
  have e2 : hV H1 328 = hV H0 328 := fRow f14.1.2.1 328 (by decide +kernel)
  have e3 : hV H1 329 = hV H0 329 := fRow f14.1.2.1 329 (by decide +kernel)
  have e4 : (0 : Int) ≤ hV H0 285 65 ∧ hV H0 285 65 ≤ 2147483647 := f11.1 285 65 _ _ (by decide +kernel)
  have e5 : (0 : Int) ≤ hV H1 285 64 ∧ hV H1 285 64 ≤ 20 := f14.1.2.2.2 285 64 _ _ (by decide +kernel)
  have e6 : (0 : Int) ≤ hV H0 285 64 ∧ hV H0 285 64 ≤ 20 := f11.1 285 64 _ _ (by decide +kernel)
  try simp only [e1, e2, e3] at f11
  try simp only [e1, e2, e3] at f14
  try simp only [e1, e2, e3] at e4
  try simp only [e1, e2, e3] at e5
  try simp only [e1, e2, e3] at e6
  try simp only [e1, e2, e3]
  have p0 := f11.2.1
  have p1 := f11.2.2.1
  have p2 := f11.2.2.2
  have r0_0 := f14.2
  try simp only [e1, e2, e3] at p0
  try simp only [e1, e2, e3] at p1
  try simp only [e1, e2, e3] at p2
  try simp only [e1, e2, e3] at r0_0
  clear e0 e1 e2 e3
  omega
def g_259v_s_3 : vG := ([(42, [2, 3], [], 0), (33, [2], [], 0), (31, [6], [], 0), (1257, [6, 0, 1], [0, 1], 0), (90, [6], [], 0), (91, [6], [], 1), (6000, [0, 1, 2, 3, 4, 5], [0], 0), (0, [0], [], 285), (90, [1], [], -2147483648), (91, [1], [], 2147483647), (90, [2], [], -2147483648), (91, [2], [], 2147483647), (90, [3], [], -2147483648), (91, [3], [], 2147483647), (90, [4], [], -2147483648), (91, [4], [], 2147483647), (90, [5], [], -2147483648), (91, [5], [], 2147483647)], (70, [1], [], 20))
theorem c_259v_s_3 : vOkm T0 (eP e_259v L_259v A_259v mu_259v none) 6 g_259v_s_3 := vOk_in fun ρ η h => by
  obtain ⟨f0, f1, f2, f3, f4, f5, f6, f7, f8, f9, f10, f11, f12, f13, f14, f15, f16, f17, _⟩ := h
  exact q_259v_3 (n0 := ρ 5) (n1 := ρ 4) (n2 := ρ 3) (n3 := ρ 2) (n4 := ρ 1) (n5 := ρ 0) (n6 := ρ 6) (H0 := η 0) (H1 := η 1) f17 f16 f15 f14 f13 f12 f11 f10 f9 f8 f7 f6 f5 f4 f3 f2 f1 f0
theorem q_259v_4 {n0 n1 n2 n3 n4 n5 n6 n7 n8 n9 n10 n11 n12 n13 n14 n15 n16 : Int} {H0 H1 H2 : gH} (f0 : n0 ≤ 2147483647) (f1 : (-2147483648) ≤ n0) (f2 : n1 ≤ 2147483647) (f3 : (-2147483648) ≤ n1) (f4 : n2 ≤ 2147483647) (f5 : (-2147483648) ≤ n2) (f6 : n3 ≤ 2147483647) (f7 : (-2147483648) ≤ n3) (f8 : n4 ≤ 2147483647) (f9 : (-2147483648) ≤ n4) (f10 : n5 = 285) (f11 : hWt T0 H0 ∧ preb_259v n5 n4 n3 n2 n1 n0 H0) (f12 : n6 ≤ 1) (f13 : 0 ≤ n6) (f14 : (hLe T0 H0 H1 ∧ hFr s_257v.2.2.2.2 H0 H1 ∧ ((0 : Int) = 0 → H1.length = H0.length) ∧ hWt T0 H1) ∧ postb_257v n6 n5 n4 H0 H1) (f15 : n6 ≠ 0) (f16 : 0 ≤ n3) (f17 : n3 < n2) (f18 : n7 = 329) (f19 : n7 = hV H1 (n5).toNat 67) (f20 : n8 ≤ 240) (f21 : (-1) ≤ n8) (f22 : n8 = hV H1 (n7).toNat (n4).toNat) (f23 : n2 ≤ n8) (f24 : n9 = n1) (f25 : n10 = n2) (f26 : n11 = n3) (f27 : n12 = n0) (f28 : n13 = (-9999)) (f29 : n14 = 9999) (f30 : n15 ≤ 1) (f31 : 0 ≤ n15) (f32 : (hLe T0 H1 H2 ∧ hFr s_251.2.2.2.2 H1 H2 ∧ ((0 : Int) = 0 → H2.length = H1.length) ∧ hWt T0 H2) ∧ postb_251 n15 n1 n13 n14 H1 H2) (f33 : n15 = 0) (f34 : n16 = 0) : postb_259v n16 n5 n4 n3 n2 n1 n0 H0 H2 := by
  unfold preb_259v at f11
  unfold postb_257v at f14
  unfold postb_251 at f32
  unfold postb_259v
  have e0 : hV H1 329 = hV H0 329 := fRow f14.1.2.1 329 (by decide +kernel)
  have e1 : n8 = hV H0 329 (n4).toNat := (by rw [f18] at f22; exact f22 : n8 = hV H1 329 (n4).toNat).trans ((congrFun e0 _))
  have e2 : hV H1 285 64 = hV H0 285 64 := f14.1.2.1.1 285 64 (by decide +kernel)
  have e3 : hV H1 285 64 = hV H0 285 64 := e2
  have e4 : hV H1 328 = hV H0 328 := fRow f14.1.2.1 328 (by decide +kernel)
  have e5 : hV H2 285 65 = hV H1 285 65 := f32.1.2.1.1 285 65 (by decide +kernel)
  have e6 : hV H1 285 65 = hV H0 285 65 := f14.1.2.1.1 285 65 (by decide +kernel)
  have e7 : hV H2 285 65 = hV H0 285 65 := (e5).trans e6
  have e8 : SO H1 = SO H0 := SO_fr f14.1.2.1 (by decide +kernel)
  have e9 : SO H2 = SO H1 := SO_fr f32.1.2.1 (by decide +kernel)
  have e10 : SO H2 = SO H0 := e9.trans e8
  have e11 : SS H1 = SS H0 := SS_fr f14.1.2.1 (by decide +kernel)
  have e12 : SS H2 = SS H1 := SS_fr f32.1.2.1 (by decide +kernel)
  have e13 : SS H2 = SS H0 := e12.trans e11
  have e14 : (0 : Int) ≤ hV H0 285 65 ∧ hV H0 285 65 ≤ 2147483647 := f11.1 285 65 _ _ (by decide +kernel)
  have e15 : (0 : Int) ≤ hV H1 285 64 ∧ hV H1 285 64 ≤ 20 := f14.1.2.2.2 285 64 _ _ (by decide +kernel)
  have e16 : (0 : Int) ≤ hV H0 285 64 ∧ hV H0 285 64 ≤ 20 := f11.1 285 64 _ _ (by decide +kernel)
  have e17 : (0 : Int) ≤ hV H2 285 65 ∧ hV H2 285 65 ≤ 2147483647 := f32.1.2.2.2 285 65 _ _ (by decide +kernel)
  try simp only [e3, e4, e0, e7, e10, e13] at f11
  try simp only [e3, e4, e0, e7, e10, e13] at f14
  try simp only [e3, e4, e0, e7, e10, e13] at f32
  try simp only [e3, e4, e0, e7, e10, e13] at e14
  try simp only [e3, e4, e0, e7, e10, e13] at e15
  try simp only [e3, e4, e0, e7, e10, e13] at e16
  try simp only [e3, e4, e0, e7, e10, e13] at e17
  try simp only [e3, e4, e0, e7, e10, e13]
  have p0 := f11.2.1
  have p1 := f11.2.2.1
  have p2 := f11.2.2.2
  have r0_0 := f14.2
  have r1_0 := f32.2
  try simp only [e3, e4, e0, e7, e10, e13] at p0
  try simp only [e3, e4, e0, e7, e10, e13] at p1
  try simp only [e3, e4, e0, e7, e10, e13] at p2
  try simp only [e3, e4, e0, e7, e10, e13] at r0_0
  try simp only [e3, e4, e0, e7, e10, e13] at r1_0
  clear f19 f22 e0 e2 e3 e4 e5 e6 e7 e8 e9 e10 e11 e12 e13
  subst e1
  refine ⟨?_, ?_, ?_⟩ <;> first | assumption | omega | trivial
def g_259v_s_4 : vG := ([(0, [21], [], 0), (30, [20], [], 0), (1251, [20, 4, 18, 19], [1, 2], 0), (90, [20], [], 0), (91, [20], [], 1), (0, [19], [], 9999), (0, [18], [], -9999), (17, [15, 5], [], 0), (17, [13, 2], [], 0), (17, [10, 3], [], 0), (17, [9, 4], [], 0), (45, [3, 8], [], 0), (22, [8, 7, 1], [1], 0), (90, [8], [], -1), (91, [8], [], 240), (20, [7, 0], [1], 67), (0, [7], [], 329), (42, [2, 3], [], 0), (33, [2], [], 0), (31, [6], [], 0), (1257, [6, 0, 1], [0, 1], 0), (90, [6], [], 0), (91, [6], [], 1), (6000, [0, 1, 2, 3, 4, 5], [0], 0), (0, [0], [], 285), (90, [1], [], -2147483648), (91, [1], [], 2147483647), (90, [2], [], -2147483648), (91, [2], [], 2147483647), (90, [3], [], -2147483648), (91, [3], [], 2147483647), (90, [4], [], -2147483648), (91, [4], [], 2147483647), (90, [5], [], -2147483648), (91, [5], [], 2147483647)], (3000, [21], [2], 79))
theorem c_259v_s_4 : vOkm T0 (eP e_259v L_259v A_259v mu_259v none) 6 g_259v_s_4 := vOk_in fun ρ η h => by
  obtain ⟨f0, f1, f2, f3, f4, f5, f6, f7, f8, f9, f10, f11, f12, f13, f14, f15, f16, f17, f18, f19, f20, f21, f22, f23, f24, f25, f26, f27, f28, f29, f30, f31, f32, f33, f34, _⟩ := h
  exact q_259v_4 (n0 := ρ 5) (n1 := ρ 4) (n2 := ρ 3) (n3 := ρ 2) (n4 := ρ 1) (n5 := ρ 0) (n6 := ρ 6) (n7 := ρ 7) (n8 := ρ 8) (n9 := ρ 9) (n10 := ρ 10) (n11 := ρ 13) (n12 := ρ 15) (n13 := ρ 18) (n14 := ρ 19) (n15 := ρ 20) (n16 := ρ 21) (H0 := η 0) (H1 := η 1) (H2 := η 2) f34 f33 f32 f31 f30 f29 f28 f27 f26 f25 f24 f23 f22 f21 f20 f19 f18 f17 f16 f15 f14 f13 f12 f11 f10 f9 f8 f7 f6 f5 f4 f3 f2 f1 f0
theorem q_259v_5 {n0 n1 n2 n3 n4 n5 n6 n7 n8 n9 n10 n11 n12 n13 n14 n15 n16 : Int} {H0 H1 H2 : gH} (f0 : n0 ≤ 2147483647) (f1 : (-2147483648) ≤ n0) (f2 : n1 ≤ 2147483647) (f3 : (-2147483648) ≤ n1) (f4 : n2 ≤ 2147483647) (f5 : (-2147483648) ≤ n2) (f6 : n3 ≤ 2147483647) (f7 : (-2147483648) ≤ n3) (f8 : n4 ≤ 2147483647) (f9 : (-2147483648) ≤ n4) (f10 : n5 = 285) (f11 : hWt T0 H0 ∧ preb_259v n5 n4 n3 n2 n1 n0 H0) (f12 : n6 ≤ 1) (f13 : 0 ≤ n6) (f14 : (hLe T0 H0 H1 ∧ hFr s_257v.2.2.2.2 H0 H1 ∧ ((0 : Int) = 0 → H1.length = H0.length) ∧ hWt T0 H1) ∧ postb_257v n6 n5 n4 H0 H1) (f15 : n6 ≠ 0) (f16 : 0 ≤ n3) (f17 : n3 < n2) (f18 : n7 = 329) (f19 : n7 = hV H1 (n5).toNat 67) (f20 : n8 ≤ 240) (f21 : (-1) ≤ n8) (f22 : n8 = hV H1 (n7).toNat (n4).toNat) (f23 : n2 ≤ n8) (f24 : n9 = n1) (f25 : n10 = n2) (f26 : n11 = n3) (f27 : n12 = n0) (f28 : n13 = (-9999)) (f29 : n14 = 9999) (f30 : n15 ≤ 1) (f31 : 0 ≤ n15) (f32 : (hLe T0 H1 H2 ∧ hFr s_251.2.2.2.2 H1 H2 ∧ ((0 : Int) = 0 → H2.length = H1.length) ∧ hWt T0 H2) ∧ postb_251 n15 n1 n13 n14 H1 H2) (f33 : n15 ≠ 0) (f34 : n16 = 0) : postb_259v n16 n5 n4 n3 n2 n1 n0 H0 H2 := by
  unfold preb_259v at f11
  unfold postb_257v at f14
  unfold postb_251 at f32
  unfold postb_259v
  have e0 : hV H1 329 = hV H0 329 := fRow f14.1.2.1 329 (by decide +kernel)
  have e1 : n8 = hV H0 329 (n4).toNat := (by rw [f18] at f22; exact f22 : n8 = hV H1 329 (n4).toNat).trans ((congrFun e0 _))
  have e2 : hV H1 285 64 = hV H0 285 64 := f14.1.2.1.1 285 64 (by decide +kernel)
  have e3 : hV H1 285 64 = hV H0 285 64 := e2
  have e4 : hV H1 328 = hV H0 328 := fRow f14.1.2.1 328 (by decide +kernel)
  have e5 : hV H2 285 65 = hV H1 285 65 := f32.1.2.1.1 285 65 (by decide +kernel)
  have e6 : hV H1 285 65 = hV H0 285 65 := f14.1.2.1.1 285 65 (by decide +kernel)
  have e7 : hV H2 285 65 = hV H0 285 65 := (e5).trans e6
  have e8 : SO H1 = SO H0 := SO_fr f14.1.2.1 (by decide +kernel)
  have e9 : SO H2 = SO H1 := SO_fr f32.1.2.1 (by decide +kernel)
  have e10 : SO H2 = SO H0 := e9.trans e8
  have e11 : SS H1 = SS H0 := SS_fr f14.1.2.1 (by decide +kernel)
  have e12 : SS H2 = SS H1 := SS_fr f32.1.2.1 (by decide +kernel)
  have e13 : SS H2 = SS H0 := e12.trans e11
  have e14 : (0 : Int) ≤ hV H0 285 65 ∧ hV H0 285 65 ≤ 2147483647 := f11.1 285 65 _ _ (by decide +kernel)
  have e15 : (0 : Int) ≤ hV H1 285 64 ∧ hV H1 285 64 ≤ 20 := f14.1.2.2.2 285 64 _ _ (by decide +kernel)
  have e16 : (0 : Int) ≤ hV H0 285 64 ∧ hV H0 285 64 ≤ 20 := f11.1 285 64 _ _ (by decide +kernel)
  have e17 : (0 : Int) ≤ hV H2 285 65 ∧ hV H2 285 65 ≤ 2147483647 := f32.1.2.2.2 285 65 _ _ (by decide +kernel)
  try simp only [e3, e4, e0, e7, e10, e13] at f11
  try simp only [e3, e4, e0, e7, e10, e13] at f14
  try simp only [e3, e4, e0, e7, e10, e13] at f32
  try simp only [e3, e4, e0, e7, e10, e13] at e14
  try simp only [e3, e4, e0, e7, e10, e13] at e15
  try simp only [e3, e4, e0, e7, e10, e13] at e16
  try simp only [e3, e4, e0, e7, e10, e13] at e17
  try simp only [e3, e4, e0, e7, e10, e13]
  have p0 := f11.2.1
  have p1 := f11.2.2.1
  have p2 := f11.2.2.2
  have r0_0 := f14.2
  have r1_0 := f32.2
  try simp only [e3, e4, e0, e7, e10, e13] at p0
  try simp only [e3, e4, e0, e7, e10, e13] at p1
  try simp only [e3, e4, e0, e7, e10, e13] at p2
  try simp only [e3, e4, e0, e7, e10, e13] at r0_0
  try simp only [e3, e4, e0, e7, e10, e13] at r1_0
  clear f19 f22 e0 e2 e3 e4 e5 e6 e7 e8 e9 e10 e11 e12 e13
  subst e1
  refine ⟨?_, ?_, ?_⟩ <;> first | assumption | omega | trivial
def g_259v_s_5 : vG := ([(0, [23], [], 0), (31, [20], [], 0), (1251, [20, 4, 18, 19], [1, 2], 0), (90, [20], [], 0), (91, [20], [], 1), (0, [19], [], 9999), (0, [18], [], -9999), (17, [15, 5], [], 0), (17, [13, 2], [], 0), (17, [10, 3], [], 0), (17, [9, 4], [], 0), (45, [3, 8], [], 0), (22, [8, 7, 1], [1], 0), (90, [8], [], -1), (91, [8], [], 240), (20, [7, 0], [1], 67), (0, [7], [], 329), (42, [2, 3], [], 0), (33, [2], [], 0), (31, [6], [], 0), (1257, [6, 0, 1], [0, 1], 0), (90, [6], [], 0), (91, [6], [], 1), (6000, [0, 1, 2, 3, 4, 5], [0], 0), (0, [0], [], 285), (90, [1], [], -2147483648), (91, [1], [], 2147483647), (90, [2], [], -2147483648), (91, [2], [], 2147483647), (90, [3], [], -2147483648), (91, [3], [], 2147483647), (90, [4], [], -2147483648), (91, [4], [], 2147483647), (90, [5], [], -2147483648), (91, [5], [], 2147483647)], (3000, [23], [2], 79))
theorem c_259v_s_5 : vOkm T0 (eP e_259v L_259v A_259v mu_259v none) 6 g_259v_s_5 := vOk_in fun ρ η h => by
  obtain ⟨f0, f1, f2, f3, f4, f5, f6, f7, f8, f9, f10, f11, f12, f13, f14, f15, f16, f17, f18, f19, f20, f21, f22, f23, f24, f25, f26, f27, f28, f29, f30, f31, f32, f33, f34, _⟩ := h
  exact q_259v_5 (n0 := ρ 5) (n1 := ρ 4) (n2 := ρ 3) (n3 := ρ 2) (n4 := ρ 1) (n5 := ρ 0) (n6 := ρ 6) (n7 := ρ 7) (n8 := ρ 8) (n9 := ρ 9) (n10 := ρ 10) (n11 := ρ 13) (n12 := ρ 15) (n13 := ρ 18) (n14 := ρ 19) (n15 := ρ 20) (n16 := ρ 23) (H0 := η 0) (H1 := η 1) (H2 := η 2) f34 f33 f32 f31 f30 f29 f28 f27 f26 f25 f24 f23 f22 f21 f20 f19 f18 f17 f16 f15 f14 f13 f12 f11 f10 f9 f8 f7 f6 f5 f4 f3 f2 f1 f0
theorem q_259v_6 {n0 n1 n2 n3 n4 n5 n6 n7 n8 n9 n10 n11 n12 n13 n14 n15 n16 n17 n18 n19 n20 : Int} {H0 H1 H2 : gH} (f0 : n0 ≤ 2147483647) (f1 : (-2147483648) ≤ n0) (f2 : n1 ≤ 2147483647) (f3 : (-2147483648) ≤ n1) (f4 : n2 ≤ 2147483647) (f5 : (-2147483648) ≤ n2) (f6 : n3 ≤ 2147483647) (f7 : (-2147483648) ≤ n3) (f8 : n4 ≤ 2147483647) (f9 : (-2147483648) ≤ n4) (f10 : n5 = 285) (f11 : hWt T0 H0 ∧ preb_259v n5 n4 n3 n2 n1 n0 H0) (f12 : n6 ≤ 1) (f13 : 0 ≤ n6) (f14 : (hLe T0 H0 H1 ∧ hFr s_257v.2.2.2.2 H0 H1 ∧ ((0 : Int) = 0 → H1.length = H0.length) ∧ hWt T0 H1) ∧ postb_257v n6 n5 n4 H0 H1) (f15 : n6 ≠ 0) (f16 : 0 ≤ n3) (f17 : n3 < n2) (f18 : n7 = 329) (f19 : n7 = hV H1 (n5).toNat 67) (f20 : n8 ≤ 240) (f21 : (-1) ≤ n8) (f22 : n8 = hV H1 (n7).toNat (n4).toNat) (f23 : n2 ≤ n8) (f24 : n9 = n1) (f25 : n10 = n2) (f26 : n11 = 1) (f27 : n12 = o64 (fun x y => x - y) n10 n11) (f28 : n13 = n3) (f29 : n14 = o64 (fun x y => x - y) n12 n13) (f30 : n15 = n0) (f31 : n16 = o64 (fun x y => x * y) n14 n15) (f32 : n17 = o64 (fun x y => x + y) n9 n16) (f33 : n18 = (-9999)) (f34 : n19 = 9999) (f35 : n20 ≤ 1) (f36 : 0 ≤ n20) (f37 : (hLe T0 H1 H2 ∧ hFr s_251.2.2.2.2 H1 H2 ∧ ((0 : Int) = 0 → H2.length = H1.length) ∧ hWt T0 H2) ∧ postb_251 n20 n1 n18 n19 H1 H2) (f38 : n20 ≠ 0) : Ab_259v_83 n5 n4 n3 n2 n1 n0 n5 n4 n3 n2 n1 n0 n17 n3 H0 H2 ∧ ∀ q, none = some q → mub_259v_83 n5 n4 n3 n2 n1 n0 n5 n4 n3 n2 n1 n0 n17 n3 H0 H2 < q := by
  unfold preb_259v at f11
  unfold postb_257v at f14
  unfold postb_251 at f37
  unfold Ab_259v_83
  have e0 : hV H1 329 = hV H0 329 := fRow f14.1.2.1 329 (by decide +kernel)
  have e1 : n8 = hV H0 329 (n4).toNat := (by rw [f18] at f22; exact f22 : n8 = hV H1 329 (n4).toNat).trans ((congrFun e0 _))
  have e2 : hV H1 285 64 = hV H0 285 64 := f14.1.2.1.1 285 64 (by decide +kernel)
  have e3 : hV H1 285 64 = hV H0 285 64 := e2
  have e4 : hV H1 328 = hV H0 328 := fRow f14.1.2.1 328 (by decide +kernel)
  have e5 : hV H2 285 65 = hV H1 285 65 := f37.1.2.1.1 285 65 (by decide +kernel)
  have e6 : hV H1 285 65 = hV H0 285 65 := f14.1.2.1.1 285 65 (by decide +kernel)
  have e7 : hV H2 285 65 = hV H0 285 65 := (e5).trans e6
  have e8 : SS H1 = SS H0 := SS_fr f14.1.2.1 (by decide +kernel)
  have e9 : SS H2 = SS H1 := SS_fr f37.1.2.1 (by decide +kernel)
  have e10 : SS H2 = SS H0 := e9.trans e8
  have e11 : (0 : Int) ≤ hV H0 285 65 ∧ hV H0 285 65 ≤ 2147483647 := f11.1 285 65 _ _ (by decide +kernel)
  have e12 : (0 : Int) ≤ hV H1 285 64 ∧ hV H1 285 64 ≤ 20 := f14.1.2.2.2 285 64 _ _ (by decide +kernel)
  have e13 : (0 : Int) ≤ hV H0 285 64 ∧ hV H0 285 64 ≤ 20 := f11.1 285 64 _ _ (by decide +kernel)
  have e14 : (0 : Int) ≤ hV H2 285 65 ∧ hV H2 285 65 ≤ 2147483647 := f37.1.2.2.2 285 65 _ _ (by decide +kernel)
  try simp only [e3, e4, e0, e7, e10] at f11
  try simp only [e3, e4, e0, e7, e10] at f14
  try simp only [e3, e4, e0, e7, e10] at f37
  try simp only [e3, e4, e0, e7, e10] at e11
  try simp only [e3, e4, e0, e7, e10] at e12
  try simp only [e3, e4, e0, e7, e10] at e13
  try simp only [e3, e4, e0, e7, e10] at e14
  try simp only [e3, e4, e0, e7, e10]
  have p0 := f11.2.1
  have p1 := f11.2.2.1
  have p2 := f11.2.2.2
  have r0_0 := f14.2
  have r1_0 := f37.2
  try simp only [e3, e4, e0, e7, e10] at p0
  try simp only [e3, e4, e0, e7, e10] at p1
  try simp only [e3, e4, e0, e7, e10] at p2
  try simp only [e3, e4, e0, e7, e10] at r0_0
  try simp only [e3, e4, e0, e7, e10] at r1_0
  clear f19 f22 e0 e2 e3 e4 e5 e6 e7 e8 e9 e10
  subst e1
  refine ⟨?_, fun q hq => ?_⟩
  · refine ⟨?_, ?_, ?_, ?_, ?_, ?_, ?_, ?_, ?_, ?_, ?_⟩ <;> first | assumption | omega | trivial
  · exact nomatch hq
def g_259v_s_6 : vG := ([(31, [20], [], 0), (1251, [20, 4, 18, 19], [1, 2], 0), (90, [20], [], 0), (91, [20], [], 1), (0, [19], [], 9999), (0, [18], [], -9999), (61, [17, 9, 16], [], 0), (63, [16, 14, 15], [], 0), (17, [15, 5], [], 0), (62, [14, 12, 13], [], 0), (17, [13, 2], [], 0), (62, [12, 10, 11], [], 0), (0, [11], [], 1), (17, [10, 3], [], 0), (17, [9, 4], [], 0), (45, [3, 8], [], 0), (22, [8, 7, 1], [1], 0), (90, [8], [], -1), (91, [8], [], 240), (20, [7, 0], [1], 67), (0, [7], [], 329), (42, [2, 3], [], 0), (33, [2], [], 0), (31, [6], [], 0), (1257, [6, 0, 1], [0, 1], 0), (90, [6], [], 0), (91, [6], [], 1), (6000, [0, 1, 2, 3, 4, 5], [0], 0), (0, [0], [], 285), (90, [1], [], -2147483648), (91, [1], [], 2147483647), (90, [2], [], -2147483648), (91, [2], [], 2147483647), (90, [3], [], -2147483648), (91, [3], [], 2147483647), (90, [4], [], -2147483648), (91, [4], [], 2147483647), (90, [5], [], -2147483648), (91, [5], [], 2147483647)], (4000, [0, 1, 2, 3, 4, 5, 17, 2], [2], 83))
theorem c_259v_s_6 : vOkm T0 (eP e_259v L_259v A_259v mu_259v none) 6 g_259v_s_6 := vOk_in fun ρ η h => by
  obtain ⟨f0, f1, f2, f3, f4, f5, f6, f7, f8, f9, f10, f11, f12, f13, f14, f15, f16, f17, f18, f19, f20, f21, f22, f23, f24, f25, f26, f27, f28, f29, f30, f31, f32, f33, f34, f35, f36, f37, f38, _⟩ := h
  exact q_259v_6 (n0 := ρ 5) (n1 := ρ 4) (n2 := ρ 3) (n3 := ρ 2) (n4 := ρ 1) (n5 := ρ 0) (n6 := ρ 6) (n7 := ρ 7) (n8 := ρ 8) (n9 := ρ 9) (n10 := ρ 10) (n11 := ρ 11) (n12 := ρ 12) (n13 := ρ 13) (n14 := ρ 14) (n15 := ρ 15) (n16 := ρ 16) (n17 := ρ 17) (n18 := ρ 18) (n19 := ρ 19) (n20 := ρ 20) (H0 := η 0) (H1 := η 1) (H2 := η 2) f38 f37 f36 f35 f34 f33 f32 f31 f30 f29 f28 f27 f26 f25 f24 f23 f22 f21 f20 f19 f18 f17 f16 f15 f14 f13 f12 f11 f10 f9 f8 f7 f6 f5 f4 f3 f2 f1 f0
def g_259v_s_7 : vG := ([(0, [25], [], 0), (31, [20], [], 0), (1251, [20, 4, 18, 19], [1, 2], 0), (90, [20], [], 0), (91, [20], [], 1), (0, [19], [], 9999), (0, [18], [], -9999), (17, [15, 5], [], 0), (17, [13, 2], [], 0), (17, [10, 3], [], 0), (17, [9, 4], [], 0), (45, [3, 8], [], 0), (22, [8, 7, 1], [1], 0), (90, [8], [], -1), (91, [8], [], 240), (20, [7, 0], [1], 67), (0, [7], [], 329), (42, [2, 3], [], 0), (33, [2], [], 0), (31, [6], [], 0), (1257, [6, 0, 1], [0, 1], 0), (90, [6], [], 0), (91, [6], [], 1), (6000, [0, 1, 2, 3, 4, 5], [0], 0), (0, [0], [], 285), (90, [1], [], -2147483648), (91, [1], [], 2147483647), (90, [2], [], -2147483648), (91, [2], [], 2147483647), (90, [3], [], -2147483648), (91, [3], [], 2147483647), (90, [4], [], -2147483648), (91, [4], [], 2147483647), (90, [5], [], -2147483648), (91, [5], [], 2147483647)], (3000, [25], [2], 79))
theorem c_259v_s_7 : vOkm T0 (eP e_259v L_259v A_259v mu_259v none) 6 g_259v_s_7 := vOk_in fun ρ η h => by
  obtain ⟨f0, f1, f2, f3, f4, f5, f6, f7, f8, f9, f10, f11, f12, f13, f14, f15, f16, f17, f18, f19, f20, f21, f22, f23, f24, f25, f26, f27, f28, f29, f30, f31, f32, f33, f34, _⟩ := h
  exact q_259v_5 (n0 := ρ 5) (n1 := ρ 4) (n2 := ρ 3) (n3 := ρ 2) (n4 := ρ 1) (n5 := ρ 0) (n6 := ρ 6) (n7 := ρ 7) (n8 := ρ 8) (n9 := ρ 9) (n10 := ρ 10) (n11 := ρ 13) (n12 := ρ 15) (n13 := ρ 18) (n14 := ρ 19) (n15 := ρ 20) (n16 := ρ 25) (H0 := η 0) (H1 := η 1) (H2 := η 2) f34 f33 f32 f31 f30 f29 f28 f27 f26 f25 f24 f23 f22 f21 f20 f19 f18 f17 f16 f15 f14 f13 f12 f11 f10 f9 f8 f7 f6 f5 f4 f3 f2 f1 f0
theorem q_259v_7 {n0 n1 n2 n3 n4 n5 n6 n7 n8 n9 : Int} {H0 H1 : gH} (f0 : n0 ≤ 2147483647) (f1 : (-2147483648) ≤ n0) (f2 : n1 ≤ 2147483647) (f3 : (-2147483648) ≤ n1) (f4 : n2 ≤ 2147483647) (f5 : (-2147483648) ≤ n2) (f6 : n3 ≤ 2147483647) (f7 : (-2147483648) ≤ n3) (f8 : n4 ≤ 2147483647) (f9 : (-2147483648) ≤ n4) (f10 : n5 = 285) (f11 : hWt T0 H0 ∧ preb_259v n5 n4 n3 n2 n1 n0 H0) (f12 : n6 ≤ 1) (f13 : 0 ≤ n6) (f14 : (hLe T0 H0 H1 ∧ hFr s_257v.2.2.2.2 H0 H1 ∧ ((0 : Int) = 0 → H1.length = H0.length) ∧ hWt T0 H1) ∧ postb_257v n6 n5 n4 H0 H1) (f15 : n6 ≠ 0) (f16 : 0 ≤ n3) (f17 : n3 < n2) (f18 : n7 = 329) (f19 : n7 = hV H1 (n5).toNat 67) (f20 : n8 ≤ 240) (f21 : (-1) ≤ n8) (f22 : n8 = hV H1 (n7).toNat (n4).toNat) (f23 : n8 < n2) (f24 : n9 = 0) : postb_259v n9 n5 n4 n3 n2 n1 n0 H0 H1 := by
  unfold preb_259v at f11
  unfold postb_257v at f14
  unfold postb_259v
  have e0 : hV H1 329 = hV H0 329 := fRow f14.1.2.1 329 (by decide +kernel)
  have e1 : n8 = hV H0 329 (n4).toNat := (by rw [f18] at f22; exact f22 : n8 = hV H1 329 (n4).toNat).trans ((congrFun e0 _))
  have e2 : hV H1 285 64 = hV H0 285 64 := f14.1.2.1.1 285 64 (by decide +kernel)
  have e3 : hV H1 285 64 = hV H0 285 64 := e2
  have e4 : hV H1 285 65 = hV H0 285 65 := f14.1.2.1.1 285 65 (by decide +kernel)
  have e5 : hV H1 285 65 = hV H0 285 65 := e4
  have e6 : hV H1 328 = hV H0 328 := fRow f14.1.2.1 328 (by decide +kernel)
  have e7 : SO H1 = SO H0 := SO_fr f14.1.2.1 (by decide +kernel)
  have e8 : SS H1 = SS H0 := SS_fr f14.1.2.1 (by decide +kernel)
  have e9 : (0 : Int) ≤ hV H0 285 65 ∧ hV H0 285 65 ≤ 2147483647 := f11.1 285 65 _ _ (by decide +kernel)
  have e10 : (0 : Int) ≤ hV H1 285 64 ∧ hV H1 285 64 ≤ 20 := f14.1.2.2.2 285 64 _ _ (by decide +kernel)
  have e11 : (0 : Int) ≤ hV H0 285 64 ∧ hV H0 285 64 ≤ 20 := f11.1 285 64 _ _ (by decide +kernel)
  have e12 : (0 : Int) ≤ hV H1 285 65 ∧ hV H1 285 65 ≤ 2147483647 := f14.1.2.2.2 285 65 _ _ (by decide +kernel)
  try simp only [e3, e5, e6, e0, e7, e8] at f11
  try simp only [e3, e5, e6, e0, e7, e8] at f14
  try simp only [e3, e5, e6, e0, e7, e8] at e9
  try simp only [e3, e5, e6, e0, e7, e8] at e10
  try simp only [e3, e5, e6, e0, e7, e8] at e11
  try simp only [e3, e5, e6, e0, e7, e8] at e12
  try simp only [e3, e5, e6, e0, e7, e8]
  have p0 := f11.2.1
  have p1 := f11.2.2.1
  have p2 := f11.2.2.2
  have r0_0 := f14.2
  try simp only [e3, e5, e6, e0, e7, e8] at p0
  try simp only [e3, e5, e6, e0, e7, e8] at p1
  try simp only [e3, e5, e6, e0, e7, e8] at p2
  try simp only [e3, e5, e6, e0, e7, e8] at r0_0
  clear f19 f22 e0 e2 e3 e4 e5 e6 e7 e8
  subst e1
  refine ⟨?_, ?_, ?_⟩ <;> first | assumption | omega | trivial
def g_259v_s_8 : vG := ([(0, [9], [], 0), (44, [3, 8], [], 0), (22, [8, 7, 1], [1], 0), (90, [8], [], -1), (91, [8], [], 240), (20, [7, 0], [1], 67), (0, [7], [], 329), (42, [2, 3], [], 0), (33, [2], [], 0), (31, [6], [], 0), (1257, [6, 0, 1], [0, 1], 0), (90, [6], [], 0), (91, [6], [], 1), (6000, [0, 1, 2, 3, 4, 5], [0], 0), (0, [0], [], 285), (90, [1], [], -2147483648), (91, [1], [], 2147483647), (90, [2], [], -2147483648), (91, [2], [], 2147483647), (90, [3], [], -2147483648), (91, [3], [], 2147483647), (90, [4], [], -2147483648), (91, [4], [], 2147483647), (90, [5], [], -2147483648), (91, [5], [], 2147483647)], (3000, [9], [1], 28))
theorem c_259v_s_8 : vOkm T0 (eP e_259v L_259v A_259v mu_259v none) 6 g_259v_s_8 := vOk_in fun ρ η h => by
  obtain ⟨f0, f1, f2, f3, f4, f5, f6, f7, f8, f9, f10, f11, f12, f13, f14, f15, f16, f17, f18, f19, f20, f21, f22, f23, f24, _⟩ := h
  exact q_259v_7 (n0 := ρ 5) (n1 := ρ 4) (n2 := ρ 3) (n3 := ρ 2) (n4 := ρ 1) (n5 := ρ 0) (n6 := ρ 6) (n7 := ρ 7) (n8 := ρ 8) (n9 := ρ 9) (H0 := η 0) (H1 := η 1) f24 f23 f22 f21 f20 f19 f18 f17 f16 f15 f14 f13 f12 f11 f10 f9 f8 f7 f6 f5 f4 f3 f2 f1 f0
def p_259v_s : List vG := [g_259v_s_0,
  g_259v_s_1,
  g_259v_s_2,
  g_259v_s_3,
  g_259v_s_4,
  g_259v_s_5,
  g_259v_s_6,
  g_259v_s_7,
  g_259v_s_8]
theorem r_259v_s : vCovO false (eR0 e_259v L_259v cs_259v 2000) p_259v_s = true := by decide +kernel
theorem q_259v_8 {q0 : Nat} {n0 n1 n2 n3 n4 n5 n6 n7 n8 n9 n10 n11 n12 n13 : Int} {H0 H1 : gH} (f0 : n0 ≤ 2147483647) (f1 : (-2147483648) ≤ n0) (f2 : n1 ≤ 2147483647) (f3 : (-2147483648) ≤ n1) (f4 : n2 ≤ 2147483647) (f5 : (-2147483648) ≤ n2) (f6 : n3 ≤ 2147483647) (f7 : (-2147483648) ≤ n3) (f8 : n4 ≤ 2147483647) (f9 : (-2147483648) ≤ n4) (f10 : n5 ≤ 2147483647) (f11 : (-2147483648) ≤ n5) (f12 : n6 = 285) (f13 : n7 ≤ 2147483647) (f14 : (-2147483648) ≤ n7) (f15 : n8 ≤ 2147483647) (f16 : (-2147483648) ≤ n8) (f17 : n9 ≤ 2147483647) (f18 : (-2147483648) ≤ n9) (f19 : n10 ≤ 2147483647) (f20 : (-2147483648) ≤ n10) (f21 : n11 ≤ 2147483647) (f22 : (-2147483648) ≤ n11) (f23 : n12 = 285) (f24 : (hLe T0 H0 H1 ∧ hFr s_259v.2.2.2.2 H0 H1 ∧ hWt T0 H1) ∧ (Ab_259v_83 n12 n11 n10 n9 n8 n7 n6 n5 n4 n3 n2 n1 n13 n0 H0 H1 ∧ preb_259v n12 n11 n10 n9 n8 n7 H0) ∧ some q0 = some (mub_259v_83 n12 n11 n10 n9 n8 n7 n6 n5 n4 n3 n2 n1 n13 n0 H0 H1)) (f25 : n3 ≤ n0) : 0 ≤ n5 := by
  have g4 := f24.2.1.1
  unfold Ab_259v_83 at g4
  have g3 := f24.2.1.2
  unfold preb_259v at g3
  have e0 : (0 : Int) ≤ hV H1 285 65 ∧ hV H1 285 65 ≤ 2147483647 := f24.1.2.2 285 65 _ _ (by decide +kernel)
  have k0 := g4.1
  have k1 := g4.2.1
  have k2 := g4.2.2.1
  have k3 := g4.2.2.2.1
  have k4 := g4.2.2.2.2.1
  have y0 := g4.2.2.2.2.2.1
  have y1 := g4.2.2.2.2.2.2.1
  have y2 := g4.2.2.2.2.2.2.2.1
  have y3 := g4.2.2.2.2.2.2.2.2.1
  have y4 := g4.2.2.2.2.2.2.2.2.2.1
  have y5 := g4.2.2.2.2.2.2.2.2.2.2
  have p0 := g3.1
  have p1 := g3.2.1
  have p2 := g3.2.2
  clear g3
  clear g4
  try subst k4
  try subst k3
  try subst k2
  try subst k1
  try subst k0
  omega
def g_259v_83_0 : vG := ([(43, [13, 9], [], 0), (5000, [0, 1, 2, 3, 4, 5, 6, 7, 8, 9, 10, 11, 12, 13], [0, 1], 83), (0, [0], [], 285), (90, [1], [], -2147483648), (91, [1], [], 2147483647), (90, [2], [], -2147483648), (91, [2], [], 2147483647), (90, [3], [], -2147483648), (91, [3], [], 2147483647), (90, [4], [], -2147483648), (91, [4], [], 2147483647), (90, [5], [], -2147483648), (91, [5], [], 2147483647), (0, [6], [], 285), (90, [7], [], -2147483648), (91, [7], [], 2147483647), (90, [8], [], -2147483648), (91, [8], [], 2147483647), (90, [9], [], -2147483648), (91, [9], [], 2147483647), (90, [10], [], -2147483648), (91, [10], [], 2147483647), (90, [11], [], -2147483648), (91, [11], [], 2147483647), (90, [13], [], -2147483648), (91, [13], [], 2147483647)], (90, [7], [], 0))
theorem c_259v_83_0 {q0 : Nat} : vOkm T0 (eP e_259v L_259v A_259v mu_259v (some q0)) 6 g_259v_83_0 := vOk_in fun ρ η h => by
  obtain ⟨f0, f1, f2, f3, f4, f5, f6, f7, f8, f9, f10, f11, f12, f13, f14, f15, f16, f17, f18, f19, f20, f21, f22, f23, f24, f25, _⟩ := h
  exact q_259v_8 (q0 := q0) (n0 := ρ 13) (n1 := ρ 11) (n2 := ρ 10) (n3 := ρ 9) (n4 := ρ 8) (n5 := ρ 7) (n6 := ρ 6) (n7 := ρ 5) (n8 := ρ 4) (n9 := ρ 3) (n10 := ρ 2) (n11 := ρ 1) (n12 := ρ 0) (n13 := ρ 12) (H0 := η 0) (H1 := η 1) f25 f24 f23 f22 f21 f20 f19 f18 f17 f16 f15 f14 f13 f12 f11 f10 f9 f8 f7 f6 f5 f4 f3 f2 f1 f0
theorem q_259v_9 {q0 : Nat} {n0 n1 n2 n3 n4 n5 n6 n7 n8 n9 n10 n11 n12 n13 : Int} {H0 H1 : gH} (f0 : n0 ≤ 2147483647) (f1 : (-2147483648) ≤ n0) (f2 : n1 ≤ 2147483647) (f3 : (-2147483648) ≤ n1) (f4 : n2 ≤ 2147483647) (f5 : (-2147483648) ≤ n2) (f6 : n3 ≤ 2147483647) (f7 : (-2147483648) ≤ n3) (f8 : n4 ≤ 2147483647) (f9 : (-2147483648) ≤ n4) (f10 : n5 ≤ 2147483647) (f11 : (-2147483648) ≤ n5) (f12 : n6 = 285) (f13 : n7 ≤ 2147483647) (f14 : (-2147483648) ≤ n7) (f15 : n8 ≤ 2147483647) (f16 : (-2147483648) ≤ n8) (f17 : n9 ≤ 2147483647) (f18 : (-2147483648) ≤ n9) (f19 : n10 ≤ 2147483647) (f20 : (-2147483648) ≤ n10) (f21 : n11 ≤ 2147483647) (f22 : (-2147483648) ≤ n11) (f23 : n12 = 285) (f24 : (hLe T0 H0 H1 ∧ hFr s_259v.2.2.2.2 H0 H1 ∧ hWt T0 H1) ∧ (Ab_259v_83 n12 n11 n10 n9 n8 n7 n6 n5 n4 n3 n2 n1 n13 n0 H0 H1 ∧ preb_259v n12 n11 n10 n9 n8 n7 H0) ∧ some q0 = some (mub_259v_83 n12 n11 n10 n9 n8 n7 n6 n5 n4 n3 n2 n1 n13 n0 H0 H1)) (f25 : n3 ≤ n0) : n5 ≤ 19 := by
  have g4 := f24.2.1.1
  unfold Ab_259v_83 at g4
  have g3 := f24.2.1.2
  unfold preb_259v at g3
  have e0 : (0 : Int) ≤ hV H1 285 65 ∧ hV H1 285 65 ≤ 2147483647 := f24.1.2.2 285 65 _ _ (by decide +kernel)
  have k0 := g4.1
  have k1 := g4.2.1
  have k2 := g4.2.2.1
  have k3 := g4.2.2.2.1
  have k4 := g4.2.2.2.2.1
  have y0 := g4.2.2.2.2.2.1
  have y1 := g4.2.2.2.2.2.2.1
  have y2 := g4.2.2.2.2.2.2.2.1
  have y3 := g4.2.2.2.2.2.2.2.2.1
  have y4 := g4.2.2.2.2.2.2.2.2.2.1
  have y5 := g4.2.2.2.2.2.2.2.2.2.2
  have p0 := g3.1
  have p1 := g3.2.1
  have p2 := g3.2.2
  clear g3
  clear g4
  try subst k4
  try subst k3
  try subst k2
  try subst k1
  try subst k0
  omega
def g_259v_83_1 : vG := ([(43, [13, 9], [], 0), (5000, [0, 1, 2, 3, 4, 5, 6, 7, 8, 9, 10, 11, 12, 13], [0, 1], 83), (0, [0], [], 285), (90, [1], [], -2147483648), (91, [1], [], 2147483647), (90, [2], [], -2147483648), (91, [2], [], 2147483647), (90, [3], [], -2147483648), (91, [3], [], 2147483647), (90, [4], [], -2147483648), (91, [4], [], 2147483647), (90, [5], [], -2147483648), (91, [5], [], 2147483647), (0, [6], [], 285), (90, [7], [], -2147483648), (91, [7], [], 2147483647), (90, [8], [], -2147483648), (91, [8], [], 2147483647), (90, [9], [], -2147483648), (91, [9], [], 2147483647), (90, [10], [], -2147483648), (91, [10], [], 2147483647), (90, [11], [], -2147483648), (91, [11], [], 2147483647), (90, [13], [], -2147483648), (91, [13], [], 2147483647)], (91, [7], [], 19))
theorem c_259v_83_1 {q0 : Nat} : vOkm T0 (eP e_259v L_259v A_259v mu_259v (some q0)) 6 g_259v_83_1 := vOk_in fun ρ η h => by
  obtain ⟨f0, f1, f2, f3, f4, f5, f6, f7, f8, f9, f10, f11, f12, f13, f14, f15, f16, f17, f18, f19, f20, f21, f22, f23, f24, f25, _⟩ := h
  exact q_259v_9 (q0 := q0) (n0 := ρ 13) (n1 := ρ 11) (n2 := ρ 10) (n3 := ρ 9) (n4 := ρ 8) (n5 := ρ 7) (n6 := ρ 6) (n7 := ρ 5) (n8 := ρ 4) (n9 := ρ 3) (n10 := ρ 2) (n11 := ρ 1) (n12 := ρ 0) (n13 := ρ 12) (H0 := η 0) (H1 := η 1) f25 f24 f23 f22 f21 f20 f19 f18 f17 f16 f15 f14 f13 f12 f11 f10 f9 f8 f7 f6 f5 f4 f3 f2 f1 f0
theorem q_259v_10 {q0 : Nat} {n0 n1 n2 n3 n4 n5 n6 n7 n8 n9 n10 n11 n12 n13 : Int} {H0 H1 : gH} (f0 : n0 ≤ 2147483647) (f1 : (-2147483648) ≤ n0) (f2 : n1 ≤ 2147483647) (f3 : (-2147483648) ≤ n1) (f4 : n2 ≤ 2147483647) (f5 : (-2147483648) ≤ n2) (f6 : n3 ≤ 2147483647) (f7 : (-2147483648) ≤ n3) (f8 : n4 ≤ 2147483647) (f9 : (-2147483648) ≤ n4) (f10 : n5 ≤ 2147483647) (f11 : (-2147483648) ≤ n5) (f12 : n6 = 285) (f13 : n7 ≤ 2147483647) (f14 : (-2147483648) ≤ n7) (f15 : n8 ≤ 2147483647) (f16 : (-2147483648) ≤ n8) (f17 : n9 ≤ 2147483647) (f18 : (-2147483648) ≤ n9) (f19 : n10 ≤ 2147483647) (f20 : (-2147483648) ≤ n10) (f21 : n11 ≤ 2147483647) (f22 : (-2147483648) ≤ n11) (f23 : n12 = 285) (f24 : (hLe T0 H0 H1 ∧ hFr s_259v.2.2.2.2 H0 H1 ∧ hWt T0 H1) ∧ (Ab_259v_83 n12 n11 n10 n9 n8 n7 n6 n5 n4 n3 n2 n1 n13 n0 H0 H1 ∧ preb_259v n12 n11 n10 n9 n8 n7 H0) ∧ some q0 = some (mub_259v_83 n12 n11 n10 n9 n8 n7 n6 n5 n4 n3 n2 n1 n13 n0 H0 H1)) (f25 : n3 ≤ n0) : preb_258 n6 n5 H1 := by
  have g4 := f24.2.1.1
  unfold Ab_259v_83 at g4
  have g3 := f24.2.1.2
  unfold preb_259v at g3
  unfold preb_258
  have e0 : hV H1 334 = hV H0 334 := fRow f24.1.2.1 334 (by decide +kernel)
  have e1 : hV H1 341 = hV H0 341 := fRow f24.1.2.1 341 (by decide +kernel)
  have e2 : (0 : Int) ≤ hV H1 285 65 ∧ hV H1 285 65 ≤ 2147483647 := f24.1.2.2 285 65 _ _ (by decide +kernel)
  try simp only [SS] at *
  try simp only [e0, e1] at f24
  try simp only [e0, e1] at e2
  try simp only [e0, e1] at g3
  try simp only [e0, e1] at g4
  try simp only [e0, e1]
  have k0 := g4.1
  have k1 := g4.2.1
  have k2 := g4.2.2.1
  have k3 := g4.2.2.2.1
  have k4 := g4.2.2.2.2.1
  have y0 := g4.2.2.2.2.2.1
  have y1 := g4.2.2.2.2.2.2.1
  have y2 := g4.2.2.2.2.2.2.2.1
  have y3 := g4.2.2.2.2.2.2.2.2.1
  have y4 := g4.2.2.2.2.2.2.2.2.2.1
  have y5 := g4.2.2.2.2.2.2.2.2.2.2
  have p0 := g3.1
  have p1 := g3.2.1
  have p2 := g3.2.2
  try simp only [e0, e1] at k0
  try simp only [e0, e1] at k1
  try simp only [e0, e1] at k2
  try simp only [e0, e1] at k3
  try simp only [e0, e1] at k4
  try simp only [e0, e1] at y0
  try simp only [e0, e1] at y1
  try simp only [e0, e1] at y2
  try simp only [e0, e1] at y3
  try simp only [e0, e1] at y4
  try simp only [e0, e1] at y5
  try simp only [e0, e1] at p0
  try simp only [e0, e1] at p1
  try simp only [e0, e1] at p2
  clear g3
  clear g4
  clear e0 e1

  first
  | exact ⟨by omega, SSp_le y0 (by omega)⟩
  | exact ⟨by omega, SSp_le y1 (by omega)⟩
  | exact ⟨by omega, SSp_le y2 (by omega)⟩
  | exact ⟨by omega, SSp_le y3 (by omega)⟩
  | exact ⟨by omega, SSp_le y4 (by omega)⟩
  | exact ⟨by omega, SSp_le y5 (by omega)⟩
  | exact ⟨by omega, SSp_le y6 (by omega)⟩
  | exact ⟨by omega, SSp_le y7 (by omega)⟩
  | exact ⟨by omega, SSp_le p0 (by omega)⟩
  | exact ⟨by omega, SSp_le p1 (by omega)⟩
  | exact ⟨by omega, SSp_le p2 (by omega)⟩
  | exact ⟨by omega, SSp_le p3 (by omega)⟩
  | omega
def g_259v_83_2 : vG := ([(43, [13, 9], [], 0), (5000, [0, 1, 2, 3, 4, 5, 6, 7, 8, 9, 10, 11, 12, 13], [0, 1], 83), (0, [0], [], 285), (90, [1], [], -2147483648), (91, [1], [], 2147483647), (90, [2], [], -2147483648), (91, [2], [], 2147483647), (90, [3], [], -2147483648), (91, [3], [], 2147483647), (90, [4], [], -2147483648), (91, [4], [], 2147483647), (90, [5], [], -2147483648), (91, [5], [], 2147483647), (0, [6], [], 285), (90, [7], [], -2147483648), (91, [7], [], 2147483647), (90, [8], [], -2147483648), (91, [8], [], 2147483647), (90, [9], [], -2147483648), (91, [9], [], 2147483647), (90, [10], [], -2147483648), (91, [10], [], 2147483647), (90, [11], [], -2147483648), (91, [11], [], 2147483647), (90, [13], [], -2147483648), (91, [13], [], 2147483647)], (2258, [6, 7], [1], 0))
theorem c_259v_83_2 {q0 : Nat} : vOkm T0 (eP e_259v L_259v A_259v mu_259v (some q0)) 6 g_259v_83_2 := vOk_in fun ρ η h => by
  obtain ⟨f0, f1, f2, f3, f4, f5, f6, f7, f8, f9, f10, f11, f12, f13, f14, f15, f16, f17, f18, f19, f20, f21, f22, f23, f24, f25, _⟩ := h
  exact q_259v_10 (q0 := q0) (n0 := ρ 13) (n1 := ρ 11) (n2 := ρ 10) (n3 := ρ 9) (n4 := ρ 8) (n5 := ρ 7) (n6 := ρ 6) (n7 := ρ 5) (n8 := ρ 4) (n9 := ρ 3) (n10 := ρ 2) (n11 := ρ 1) (n12 := ρ 0) (n13 := ρ 12) (H0 := η 0) (H1 := η 1) f25 f24 f23 f22 f21 f20 f19 f18 f17 f16 f15 f14 f13 f12 f11 f10 f9 f8 f7 f6 f5 f4 f3 f2 f1 f0
theorem q_259v_11 {q0 : Nat} {n0 n1 n2 n3 n4 n5 n6 n7 n8 n9 n10 n11 n12 n13 n14 : Int} {H0 H1 H2 : gH} (f0 : n0 ≤ 2147483647) (f1 : (-2147483648) ≤ n0) (f2 : n1 ≤ 2147483647) (f3 : (-2147483648) ≤ n1) (f4 : n2 ≤ 2147483647) (f5 : (-2147483648) ≤ n2) (f6 : n3 ≤ 2147483647) (f7 : (-2147483648) ≤ n3) (f8 : n4 ≤ 2147483647) (f9 : (-2147483648) ≤ n4) (f10 : n5 ≤ 2147483647) (f11 : (-2147483648) ≤ n5) (f12 : n6 = 285) (f13 : n7 ≤ 2147483647) (f14 : (-2147483648) ≤ n7) (f15 : n8 ≤ 2147483647) (f16 : (-2147483648) ≤ n8) (f17 : n9 ≤ 2147483647) (f18 : (-2147483648) ≤ n9) (f19 : n10 ≤ 2147483647) (f20 : (-2147483648) ≤ n10) (f21 : n11 ≤ 2147483647) (f22 : (-2147483648) ≤ n11) (f23 : n12 = 285) (f24 : (hLe T0 H0 H1 ∧ hFr s_259v.2.2.2.2 H0 H1 ∧ hWt T0 H1) ∧ (Ab_259v_83 n12 n11 n10 n9 n8 n7 n6 n5 n4 n3 n2 n1 n13 n0 H0 H1 ∧ preb_259v n12 n11 n10 n9 n8 n7 H0) ∧ some q0 = some (mub_259v_83 n12 n11 n10 n9 n8 n7 n6 n5 n4 n3 n2 n1 n13 n0 H0 H1)) (f25 : n3 ≤ n0) (f26 : (hLe T0 H1 H2 ∧ hFr s_258.2.2.2.2 H1 H2 ∧ ((0 : Int) = 0 → H2.length = H1.length) ∧ hWt T0 H2) ∧ postb_258 n6 n5 H1 H2) (f27 : n14 = 1) : postb_259v n14 n12 n11 n10 n9 n8 n7 H0 H2 := by
  have g4 := f24.2.1.1
  unfold Ab_259v_83 at g4
  have g3 := f24.2.1.2
  unfold preb_259v at g3
  unfold postb_258 at f26
  unfold postb_259v
  have e0 : SO H1 = SO H0 := SO_fr f24.1.2.1 (by decide +kernel)
  have e1 : SO H2 = SO H1 := SO_fr f26.1.2.1 (by decide +kernel)
  have e2 : SO H2 = SO H0 := e1.trans e0
  have e3 : (0 : Int) ≤ hV H1 285 65 ∧ hV H1 285 65 ≤ 2147483647 := f24.1.2.2 285 65 _ _ (by decide +kernel)
  have e4 : (0 : Int) ≤ hV H2 285 65 ∧ hV H2 285 65 ≤ 2147483647 := f26.1.2.2.2 285 65 _ _ (by decide +kernel)
  try simp only [e2] at f24
  try simp only [e2] at f26
  try simp only [e2] at e3
  try simp only [e2] at e4
  try simp only [e2] at g3
  try simp only [e2] at g4
  try simp only [e2]
  have k0 := g4.1
  have k1 := g4.2.1
  have k2 := g4.2.2.1
  have k3 := g4.2.2.2.1
  have k4 := g4.2.2.2.2.1
  have y0 := g4.2.2.2.2.2.1
  have y1 := g4.2.2.2.2.2.2.1
  have y2 := g4.2.2.2.2.2.2.2.1
  have y3 := g4.2.2.2.2.2.2.2.2.1
  have y4 := g4.2.2.2.2.2.2.2.2.2.1
  have y5 := g4.2.2.2.2.2.2.2.2.2.2
  have p0 := g3.1
  have p1 := g3.2.1
  have p2 := g3.2.2
  have r0_0 := f26.2.1
  have r0_1 := f26.2.2.1
  have r0_2 := f26.2.2.2
  try simp only [e2] at k0
  try simp only [e2] at k1
  try simp only [e2] at k2
  try simp only [e2] at k3
  try simp only [e2] at k4
  try simp only [e2] at y0
  try simp only [e2] at y1
  try simp only [e2] at y2
  try simp only [e2] at y3
  try simp only [e2] at y4
  try simp only [e2] at y5
  try simp only [e2] at p0
  try simp only [e2] at p1
  try simp only [e2] at p2
  try simp only [e2] at r0_0
  try simp only [e2] at r0_1
  try simp only [e2] at r0_2
  clear g3
  clear g4
  clear e0 e1 e2
  try subst k4
  try subst k3
  try subst k2
  try subst k1
  try subst k0
  refine ⟨?_, ?_, ?_⟩ <;> first | assumption | omega | trivial
def g_259v_83_3 : vG := ([(0, [14], [], 1), (1258, [6, 7], [1, 2], 0), (43, [13, 9], [], 0), (5000, [0, 1, 2, 3, 4, 5, 6, 7, 8, 9, 10, 11, 12, 13], [0, 1], 83), (0, [0], [], 285), (90, [1], [], -2147483648), (91, [1], [], 2147483647), (90, [2], [], -2147483648), (91, [2], [], 2147483647), (90, [3], [], -2147483648), (91, [3], [], 2147483647), (90, [4], [], -2147483648), (91, [4], [], 2147483647), (90, [5], [], -2147483648), (91, [5], [], 2147483647), (0, [6], [], 285), (90, [7], [], -2147483648), (91, [7], [], 2147483647), (90, [8], [], -2147483648), (91, [8], [], 2147483647), (90, [9], [], -2147483648), (91, [9], [], 2147483647), (90, [10], [], -2147483648), (91, [10], [], 2147483647), (90, [11], [], -2147483648), (91, [11], [], 2147483647), (90, [13], [], -2147483648), (91, [13], [], 2147483647)], (3000, [14], [2], 124))
theorem c_259v_83_3 {q0 : Nat} : vOkm T0 (eP e_259v L_259v A_259v mu_259v (some q0)) 6 g_259v_83_3 := vOk_in fun ρ η h => by
  obtain ⟨f0, f1, f2, f3, f4, f5, f6, f7, f8, f9, f10, f11, f12, f13, f14, f15, f16, f17, f18, f19, f20, f21, f22, f23, f24, f25, f26, f27, _⟩ := h
  exact q_259v_11 (q0 := q0) (n0 := ρ 13) (n1 := ρ 11) (n2 := ρ 10) (n3 := ρ 9) (n4 := ρ 8) (n5 := ρ 7) (n6 := ρ 6) (n7 := ρ 5) (n8 := ρ 4) (n9 := ρ 3) (n10 := ρ 2) (n11 := ρ 1) (n12 := ρ 0) (n13 := ρ 12) (n14 := ρ 14) (H0 := η 0) (H1 := η 1) (H2 := η 2) f27 f26 f25 f24 f23 f22 f21 f20 f19 f18 f17 f16 f15 f14 f13 f12 f11 f10 f9 f8 f7 f6 f5 f4 f3 f2 f1 f0
theorem q_259v_12 {q0 : Nat} {n0 n1 n2 n3 n4 n5 n6 n7 n8 n9 n10 n11 n12 n13 n14 n15 n16 n17 n18 n19 : Int} {H0 H1 : gH} (f0 : n0 ≤ 2147483647) (f1 : (-2147483648) ≤ n0) (f2 : n1 ≤ 2147483647) (f3 : (-2147483648) ≤ n1) (f4 : n2 ≤ 2147483647) (f5 : (-2147483648) ≤ n2) (f6 : n3 ≤ 2147483647) (f7 : (-2147483648) ≤ n3) (f8 : n4 ≤ 2147483647) (f9 : (-2147483648) ≤ n4) (f10 : n5 ≤ 2147483647) (f11 : (-2147483648) ≤ n5) (f12 : n6 = 285) (f13 : n7 ≤ 2147483647) (f14 : (-2147483648) ≤ n7) (f15 : n8 ≤ 2147483647) (f16 : (-2147483648) ≤ n8) (f17 : n9 ≤ 2147483647) (f18 : (-2147483648) ≤ n9) (f19 : n10 ≤ 2147483647) (f20 : (-2147483648) ≤ n10) (f21 : n11 ≤ 2147483647) (f22 : (-2147483648) ≤ n11) (f23 : n12 = 285) (f24 : (hLe T0 H0 H1 ∧ hFr s_259v.2.2.2.2 H0 H1 ∧ hWt T0 H1) ∧ (Ab_259v_83 n12 n11 n10 n9 n8 n7 n6 n5 n4 n3 n2 n1 n13 n0 H0 H1 ∧ preb_259v n12 n11 n10 n9 n8 n7 H0) ∧ some q0 = some (mub_259v_83 n12 n11 n10 n9 n8 n7 n6 n5 n4 n3 n2 n1 n13 n0 H0 H1)) (f25 : n0 < n3) (f26 : n14 = 240) (f27 : n15 = w32 (n14 * n5)) (f28 : n16 = w32 (n15 + n0)) (f29 : n17 = w32 (n0 - n4)) (f30 : n18 = w32 (n17 * n1)) (f31 : n19 = w32 (n2 + n18)) : 0 ≤ n16 ∧ n16 < 4800 := by
  have g4 := f24.2.1.1
  unfold Ab_259v_83 at g4
  have g3 := f24.2.1.2
  unfold preb_259v at g3
  have e0 : (0 : Int) ≤ hV H1 285 65 ∧ hV H1 285 65 ≤ 2147483647 := f24.1.2.2 285 65 _ _ (by decide +kernel)
  have k0 := g4.1
  have k1 := g4.2.1
  have k2 := g4.2.2.1
  have k3 := g4.2.2.2.1
  have k4 := g4.2.2.2.2.1
  have y0 := g4.2.2.2.2.2.1
  have y1 := g4.2.2.2.2.2.2.1
  have y2 := g4.2.2.2.2.2.2.2.1
  have y3 := g4.2.2.2.2.2.2.2.2.1
  have y4 := g4.2.2.2.2.2.2.2.2.2.1
  have y5 := g4.2.2.2.2.2.2.2.2.2.2
  have p0 := g3.1
  have p1 := g3.2.1
  have p2 := g3.2.2
  clear g3
  clear g4
  rw [f26] at f27
  unfold w32 at *
  try (have ix0 : n15 = 240 * n5 := (by omega); subst ix0)
  try (have ix1 : n16 = (240 * n5) + n0 := (by omega); subst ix1)
  try subst k4
  try subst k3
  try subst k2
  try subst k1
  try subst k0
  omega
def g_259v_83_4 : vG := ([(1, [20, 10, 19], [], 0), (3, [19, 18, 11], [], 0), (2, [18, 13, 8], [], 0), (1, [17, 16, 13], [], 0), (3, [16, 15, 7], [], 0), (0, [15], [], 240), (42, [13, 9], [], 0), (5000, [0, 1, 2, 3, 4, 5, 6, 7, 8, 9, 10, 11, 12, 13], [0, 1], 83), (0, [0], [], 285), (90, [1], [], -2147483648), (91, [1], [], 2147483647), (90, [2], [], -2147483648), (91, [2], [], 2147483647), (90, [3], [], -2147483648), (91, [3], [], 2147483647), (90, [4], [], -2147483648), (91, [4], [], 2147483647), (90, [5], [], -2147483648), (91, [5], [], 2147483647), (0, [6], [], 285), (90, [7], [], -2147483648), (91, [7], [], 2147483647), (90, [8], [], -2147483648), (91, [8], [], 2147483647), (90, [9], [], -2147483648), (91, [9], [], 2147483647), (90, [10], [], -2147483648), (91, [10], [], 2147483647), (90, [11], [], -2147483648), (91, [11], [], 2147483647), (90, [13], [], -2147483648), (91, [13], [], 2147483647)], (70, [17], [], 4800))
theorem c_259v_83_4 {q0 : Nat} : vOkm T0 (eP e_259v L_259v A_259v mu_259v (some q0)) 6 g_259v_83_4 := vOk_in fun ρ η h => by
  obtain ⟨f0, f1, f2, f3, f4, f5, f6, f7, f8, f9, f10, f11, f12, f13, f14, f15, f16, f17, f18, f19, f20, f21, f22, f23, f24, f25, f26, f27, f28, f29, f30, f31, _⟩ := h
  exact q_259v_12 (q0 := q0) (n0 := ρ 13) (n1 := ρ 11) (n2 := ρ 10) (n3 := ρ 9) (n4 := ρ 8) (n5 := ρ 7) (n6 := ρ 6) (n7 := ρ 5) (n8 := ρ 4) (n9 := ρ 3) (n10 := ρ 2) (n11 := ρ 1) (n12 := ρ 0) (n13 := ρ 12) (n14 := ρ 15) (n15 := ρ 16) (n16 := ρ 17) (n17 := ρ 18) (n18 := ρ 19) (n19 := ρ 20) (H0 := η 0) (H1 := η 1) f31 f30 f29 f28 f27 f26 f25 f24 f23 f22 f21 f20 f19 f18 f17 f16 f15 f14 f13 f12 f11 f10 f9 f8 f7 f6 f5 f4 f3 f2 f1 f0
theorem q_259v_13 {q0 : Nat} {n0 n1 n2 n3 n4 n5 n6 n7 n8 n9 n10 n11 n12 n13 n14 n15 n16 n17 n18 n19 n20 n21 : Int} {H0 H1 H2 : gH} (f0 : n0 ≤ 2147483647) (f1 : (-2147483648) ≤ n0) (f2 : n1 ≤ 2147483647) (f3 : (-2147483648) ≤ n1) (f4 : n2 ≤ 2147483647) (f5 : (-2147483648) ≤ n2) (f6 : n3 ≤ 2147483647) (f7 : (-2147483648) ≤ n3) (f8 : n4 ≤ 2147483647) (f9 : (-2147483648) ≤ n4) (f10 : n5 ≤ 2147483647) (f11 : (-2147483648) ≤ n5) (f12 : n6 = 285) (f13 : n7 ≤ 2147483647) (f14 : (-2147483648) ≤ n7) (f15 : n8 ≤ 2147483647) (f16 : (-2147483648) ≤ n8) (f17 : n9 ≤ 2147483647) (f18 : (-2147483648) ≤ n9) (f19 : n10 ≤ 2147483647) (f20 : (-2147483648) ≤ n10) (f21 : n11 ≤ 2147483647) (f22 : (-2147483648) ≤ n11) (f23 : n12 = 285) (f24 : (hLe T0 H0 H1 ∧ hFr s_259v.2.2.2.2 H0 H1 ∧ hWt T0 H1) ∧ (Ab_259v_83 n12 n11 n10 n9 n8 n7 n6 n5 n4 n3 n2 n1 n13 n0 H0 H1 ∧ preb_259v n12 n11 n10 n9 n8 n7 H0) ∧ some q0 = some (mub_259v_83 n12 n11 n10 n9 n8 n7 n6 n5 n4 n3 n2 n1 n13 n0 H0 H1)) (f25 : n0 < n3) (f26 : n14 = 337) (f27 : n14 = hV H1 (n6).toNat 75) (f28 : n15 = 240) (f29 : n16 = w32 (n15 * n5)) (f30 : n17 = w32 (n16 + n0)) (f31 : n18 = w32 (n0 - n4)) (f32 : n19 = w32 (n18 * n1)) (f33 : n20 = w32 (n2 + n19)) (f34 : hUpd H2 H1 n14 n17 n20) (f35 : n21 = w32 (n0 + 1)) : Ab_259v_83 n12 n11 n10 n9 n8 n7 n6 n5 n4 n3 n2 n1 n13 n21 H0 H2 ∧ ∀ q, some q0 = some q → mub_259v_83 n12 n11 n10 n9 n8 n7 n6 n5 n4 n3 n2 n1 n13 n21 H0 H2 < q := by
  have g4 := f24.2.1.1
  unfold Ab_259v_83 at g4
  have g3 := f24.2.1.2
  unfold preb_259v at g3
  have g5 := Option.some.inj f24.2.2
  unfold mub_259v_83 at g5
  unfold Ab_259v_83
  unfold mub_259v_83
  have e0 : hV H2 285 65 = hV H1 285 65 := uPlace f34 _ _ (iS (show n14 = ((337 : Nat) : Int) from f26) rfl)
  have e1 : hV H2 285 65 = hV H1 285 65 := e0
  have e2 : SS H2 = SS H1 := SS_upR f34 (show n14 = ((337 : Nat) : Int) from f26) (by decide)
  have e3 : (0 : Int) ≤ hV H1 285 65 ∧ hV H1 285 65 ≤ 2147483647 := f24.1.2.2 285 65 _ _ (by decide +kernel)
  try simp only [e1, e2] at f24
  try simp only [e1, e2] at e3
  try simp only [e1, e2] at g3
  try simp only [e1, e2] at g4
  try simp only [e1, e2] at g5
  try simp only [e1, e2]
  have k0 := g4.1
  have k1 := g4.2.1
  have k2 := g4.2.2.1
  have k3 := g4.2.2.2.1
  have k4 := g4.2.2.2.2.1
  have y0 := g4.2.2.2.2.2.1
  have y1 := g4.2.2.2.2.2.2.1
  have y2 := g4.2.2.2.2.2.2.2.1
  have y3 := g4.2.2.2.2.2.2.2.2.1
  have y4 := g4.2.2.2.2.2.2.2.2.2.1
  have y5 := g4.2.2.2.2.2.2.2.2.2.2
  have p0 := g3.1
  have p1 := g3.2.1
  have p2 := g3.2.2
  try simp only [e1, e2] at k0
  try simp only [e1, e2] at k1
  try simp only [e1, e2] at k2
  try simp only [e1, e2] at k3
  try simp only [e1, e2] at k4
  try simp only [e1, e2] at y0
  try simp only [e1, e2] at y1
  try simp only [e1, e2] at y2
  try simp only [e1, e2] at y3
  try simp only [e1, e2] at y4
  try simp only [e1, e2] at y5
  try simp only [e1, e2] at p0
  try simp only [e1, e2] at p1
  try simp only [e1, e2] at p2
  clear g3
  clear g4
  clear f27 e0 e1 e2
  rw [f28] at f29
  unfold w32 at *
  try (have ix0 : n16 = 240 * n5 := (by omega); subst ix0)
  try (have ix1 : n17 = (240 * n5) + n0 := (by omega); subst ix1)
  try (have ix2 : n18 = n0 - n4 := (by omega); subst ix2)
  try (have ix3 : n20 = n2 + n19 := (by omega); subst ix3)
  try (have ix4 : n21 = n0 + 1 := (by omega); subst ix4)
  try subst k4
  try subst k3
  try subst k2
  try subst k1
  try subst k0
  refine ⟨?_, fun q hq => ?_⟩
  · refine ⟨?_, ?_, ?_, ?_, ?_, ?_, ?_, ?_, ?_, ?_, ?_⟩ <;> first | assumption | omega | trivial
  · have g6 := Option.some.inj hq
    subst g6
    omega
def g_259v_83_5 : vG := ([(10, [21, 13], [], 1), (80, [14, 17, 20], [2, 1], 0), (1, [20, 10, 19], [], 0), (3, [19, 18, 11], [], 0), (2, [18, 13, 8], [], 0), (1, [17, 16, 13], [], 0), (3, [16, 15, 7], [], 0), (0, [15], [], 240), (20, [14, 6], [1], 75), (0, [14], [], 337), (42, [13, 9], [], 0), (5000, [0, 1, 2, 3, 4, 5, 6, 7, 8, 9, 10, 11, 12, 13], [0, 1], 83), (0, [0], [], 285), (90, [1], [], -2147483648), (91, [1], [], 2147483647), (90, [2], [], -2147483648), (91, [2], [], 2147483647), (90, [3], [], -2147483648), (91, [3], [], 2147483647), (90, [4], [], -2147483648), (91, [4], [], 2147483647), (90, [5], [], -2147483648), (91, [5], [], 2147483647), (0, [6], [], 285), (90, [7], [], -2147483648), (91, [7], [], 2147483647), (90, [8], [], -2147483648), (91, [8], [], 2147483647), (90, [9], [], -2147483648), (91, [9], [], 2147483647), (90, [10], [], -2147483648), (91, [10], [], 2147483647), (90, [11], [], -2147483648), (91, [11], [], 2147483647), (90, [13], [], -2147483648), (91, [13], [], 2147483647)], (4000, [6, 7, 8, 9, 10, 11, 12, 21], [2], 83))
theorem c_259v_83_5 {q0 : Nat} : vOkm T0 (eP e_259v L_259v A_259v mu_259v (some q0)) 6 g_259v_83_5 := vOk_in fun ρ η h => by
  obtain ⟨f0, f1, f2, f3, f4, f5, f6, f7, f8, f9, f10, f11, f12, f13, f14, f15, f16, f17, f18, f19, f20, f21, f22, f23, f24, f25, f26, f27, f28, f29, f30, f31, f32, f33, f34, f35, _⟩ := h
  exact q_259v_13 (q0 := q0) (n0 := ρ 13) (n1 := ρ 11) (n2 := ρ 10) (n3 := ρ 9) (n4 := ρ 8) (n5 := ρ 7) (n6 := ρ 6) (n7 := ρ 5) (n8 := ρ 4) (n9 := ρ 3) (n10 := ρ 2) (n11 := ρ 1) (n12 := ρ 0) (n13 := ρ 12) (n14 := ρ 14) (n15 := ρ 15) (n16 := ρ 16) (n17 := ρ 17) (n18 := ρ 18) (n19 := ρ 19) (n20 := ρ 20) (n21 := ρ 21) (H0 := η 0) (H1 := η 1) (H2 := η 2) f35 f34 f33 f32 f31 f30 f29 f28 f27 f26 f25 f24 f23 f22 f21 f20 f19 f18 f17 f16 f15 f14 f13 f12 f11 f10 f9 f8 f7 f6 f5 f4 f3 f2 f1 f0
def p_259v_83 : List vG := [g_259v_83_0,
  g_259v_83_1,
  g_259v_83_2,
  g_259v_83_3,
  g_259v_83_4,
  g_259v_83_5]
theorem r_259v_83 : vCovO false (eRc e_259v L_259v cs_259v 2000 (83, [(0, (3, 12, 285, 0)), (1, (0, -2147483648, 2147483647, 0)), (2, (0, -2147483648, 2147483647, 0)), (3, (0, -2147483648, 2147483647, 0)), (4, (0, -2147483648, 2147483647, 0)), (5, (0, -2147483648, 2147483647, 0)), (6, (1, 0, 0, 0)), (8, (0, -2147483648, 2147483647, 0))])) p_259v_83 = true := by decide +kernel
theorem m_259v (d : Nat) : eC e_259v (d + 3) := eC_ok (e := e_259v) (L := L_259v) (cs := cs_259v) (n := 2000) (d := d + 2) (A := A_259v) (μ := mu_259v) (tp := false) (p0 := p_259v_s) rfl ⟨m_251 (d + 1), ⟨m_257v d, ⟨m_258 (d + 1), trivial⟩⟩⟩ rfl (.inl rfl) (by decide +kernel) (fun z => nomatch z) r_259v_s (allC c_259v_s_0 (allC c_259v_s_1 (allC c_259v_s_2 (allC c_259v_s_3 (allC c_259v_s_4 (allC c_259v_s_5 (allC c_259v_s_6 (allC c_259v_s_7 (allC c_259v_s_8 allN))))))))) (allC (.inl ⟨p_259v_83, r_259v_83, fun q0 => (allC c_259v_83_0 (allC c_259v_83_1 (allC c_259v_83_2 (allC c_259v_83_3 (allC c_259v_83_4 (allC c_259v_83_5 allN))))))⟩) allN)
