/-! CONTRACTS of methods told more fully. -/
/- MixStageModel.trim (III)I -/
noncomputable def s_254v : vM := ([(3, 12, 285, 0), (0, -2147483648, 2147483647, 0), (0, -2147483648, 2147483647, 0), (0, -2147483648, 2147483647, 0)], (0, -2147483648, 2147483647, 0), 1, 0, [(12, 64), (12, 65), (452, 0), (460, 0), (468, 0), (476, 0), (484, 0), (492, 0), (500, 0), (508, 0), (516, 0), (532, 0)])
def preb_254v (a0 a1 a2 a3 : Int) (h : gH) : Prop := hV h 285 65 ≤ 20000 ∧ SO h ∧ SS h ∧ AC h
def pre_254v : List Int → gH → Prop := fun xs h => match xs with
  | [a0, a1, a2, a3] => preb_254v a0 a1 a2 a3 h
  | _ => False
def postb_254v (r a0 a1 a2 a3 : Int) (h0 h : gH) : Prop := SO h ∧ SS h ∧ hV h 285 65 ≤ hV h0 285 65 + 1 ∧ AC h ∧ (((0 ≤ a1 ∧ a1 < hV h0 285 64 ∧ 0 ≤ a2 ∧ a2 < a3 ∧ a3 ≤ 240) ∧ hV h0 285 64 ≤ 19 ∧ ADDm r 4 0 (hV h0 285 64) (hV h 285 64) (hV h0 328) (hV h0 338) (hV h0 329) (hV h 328) (hV h 338) (hV h 329)) ∨ (¬ ((0 ≤ a1 ∧ a1 < hV h0 285 64 ∧ 0 ≤ a2 ∧ a2 < a3 ∧ a3 ≤ 240) ∧ hV h0 285 64 ≤ 19) ∧ r = -1 ∧ SAMm (hV h0 285 64) (hV h 285 64) (hV h0 328) (hV h0 338) (hV h0 329) (hV h 328) (hV h 338) (hV h 329)))
def post_254v : List Int → gH → gH → Prop := fun xs h0 h => match xs with
  | [r, a0, a1, a2, a3] => postb_254v r a0 a1 a2 a3 h0 h
  | _ => True
noncomputable def e_254v : vE := (254, s_254v, pre_254v, post_254v)
noncomputable def L_254v : List vE := [e_250, e_252v]
def cs_254v : List vC := []
def A_254v : Int → List Int → gH → gH → Prop := fun c xs h0 h => True
def mu_254v : Int → List Int → gH → gH → Nat := fun c xs h0 h => 0
theorem q_254v_0 {n0 n1 n2 n3 n4 n5 n6 : Int} {H0 : gH} (f0 : n0 ≤ 2147483647) (f1 : (-2147483648) ≤ n0) (f2 : n1 ≤ 2147483647) (f3 : (-2147483648) ≤ n1) (f4 : n2 ≤ 2147483647) (f5 : (-2147483648) ≤ n2) (f6 : n3 = 285) (f7 : hWt T0 H0 ∧ preb_254v n3 n2 n1 n0 H0) (f8 : n4 ≤ 20) (f9 : 0 ≤ n4) (f10 : n4 = hV H0 (n3).toNat 64) (f11 : n5 = 20) (f12 : n4 = n5) (f13 : n6 = (-1)) : postb_254v n6 n3 n2 n1 n0 H0 H0 := by
  unfold preb_254v at f7
  unfold postb_254v
  have e0 : n4 = hV H0 285 64 := (by rw [f6] at f10; exact f10 : n4 = hV H0 285 64)
  have e1 : (0 : Int) ≤ hV H0 285 64 ∧ hV H0 285 64 ≤ 20 := f7.1 285 64 _ _ (by decide +kernel)
  have e2 : (0 : Int) ≤ hV H0 285 65 ∧ hV H0 285 65 ≤ 2147483647 := f7.1 285 65 _ _ (by decide +kernel)
  have p0 := f7.2.1
  have p1 := f7.2.2.1
  have p2 := f7.2.2.2.1
  have p3 := f7.2.2.2.2
  clear f10
  subst e0

  refine ⟨?_, ?_, ?_, ?_, ?_⟩
  · assumption
  · assumption
  · omega
  · assumption
  · exact .inr ⟨by omega, by omega, by omega, by first | rfl | assumption, by first | rfl | assumption, by first | rfl | assumption⟩
def g_254v_s_0 : vG := ([(0, [6], [], -1), (40, [4, 5], [], 0), (0, [5], [], 20), (20, [4, 0], [0], 64), (90, [4], [], 0), (91, [4], [], 20), (6000, [0, 1, 2, 3], [0], 0), (0, [0], [], 285), (90, [1], [], -2147483648), (91, [1], [], 2147483647), (90, [2], [], -2147483648), (91, [2], [], 2147483647), (90, [3], [], -2147483648), (91, [3], [], 2147483647)], (3000, [6], [0], 46))
theorem c_254v_s_0 : vOkm T0 (eP e_254v L_254v A_254v mu_254v none) 4 g_254v_s_0 := vOk_in fun ρ η h => by
  obtain ⟨f0, f1, f2, f3, f4, f5, f6, f7, f8, f9, f10, f11, f12, f13, _⟩ := h
  exact q_254v_0 (n0 := ρ 3) (n1 := ρ 2) (n2 := ρ 1) (n3 := ρ 0) (n4 := ρ 4) (n5 := ρ 5) (n6 := ρ 6) (H0 := η 0) f13 f12 f11 f10 f9 f8 f7 f6 f5 f4 f3 f2 f1 f0
theorem q_254v_1 {n0 n1 n2 n3 n4 n5 n6 n7 : Int} {H0 H1 : gH} (f0 : n0 ≤ 2147483647) (f1 : (-2147483648) ≤ n0) (f2 : n1 ≤ 2147483647) (f3 : (-2147483648) ≤ n1) (f4 : n2 ≤ 2147483647) (f5 : (-2147483648) ≤ n2) (f6 : n3 = 285) (f7 : hWt T0 H0 ∧ preb_254v n3 n2 n1 n0 H0) (f8 : n4 ≤ 20) (f9 : 0 ≤ n4) (f10 : n4 = hV H0 (n3).toNat 64) (f11 : n5 = 20) (f12 : n4 ≠ n5) (f13 : n6 ≤ 1) (f14 : 0 ≤ n6) (f15 : (hLe T0 H0 H1 ∧ hFr s_250.2.2.2.2 H0 H1 ∧ ((0 : Int) = 0 → H1.length = H0.length) ∧ hWt T0 H1) ∧ postb_250 n6 n3 n2 H0 H1) (f16 : n6 = 0) (f17 : n7 = (-1)) : postb_254v n7 n3 n2 n1 n0 H0 H1 := by
  unfold preb_254v at f7
  unfold postb_250 at f15
  unfold postb_254v
  have e0 : n4 = hV H0 285 64 := (by rw [f6] at f10; exact f10 : n4 = hV H0 285 64)
  have e1 : hV H1 285 64 = hV H0 285 64 := f15.1.2.1.1 285 64 (by decide +kernel)
  have e2 : hV H1 285 64 = hV H0 285 64 := e1
  have e3 : hV H1 285 65 = hV H0 285 65 := f15.1.2.1.1 285 65 (by decide +kernel)
  have e4 : hV H1 285 65 = hV H0 285 65 := e3
  have e5 : hV H1 328 = hV H0 328 := fRow f15.1.2.1 328 (by decide +kernel)
  have e6 : hV H1 329 = hV H0 329 := fRow f15.1.2.1 329 (by decide +kernel)
  have e7 : hV H1 338 = hV H0 338 := fRow f15.1.2.1 338 (by decide +kernel)
  have e8 : AC H1 = AC H0 := AC_fr f15.1.2.1 (by decide +kernel)
  have e9 : SO H1 = SO H0 := SO_fr f15.1.2.1 (by decide +kernel)
  have e10 : SS H1 = SS H0 := SS_fr f15.1.2.1 (by decide +kernel)
  have e11 : (0 : Int) ≤ hV H0 285 64 ∧ hV H0 285 64 ≤ 20 := f7.1 285 64 _ _ (by decide +kernel)
  have e12 : (0 : Int) ≤ hV H0 285 65 ∧ hV H0 285 65 ≤ 2147483647 := f7.1 285 65 _ _ (by decide +kernel)
  have e13 : (0 : Int) ≤ hV H1 285 64 ∧ hV H1 285 64 ≤ 20 := f15.1.2.2.2 285 64 _ _ (by decide +kernel)
  have e14 : (0 : Int) ≤ hV H1 285 65 ∧ hV H1 285 65 ≤ 2147483647 := f15.1.2.2.2 285 65 _ _ (by decide +kernel)
  try simp only [e2, e4, e5, e6, e7, e8, e9, e10] at f7
  try simp only [e2, e4, e5, e6, e7, e8, e9, e10] at f15
  try simp only [e2, e4, e5, e6, e7, e8, e9, e10] at e11
  try simp only [e2, e4, e5, e6, e7, e8, e9, e10] at e12
  try simp only [e2, e4, e5, e6, e7, e8, e9, e10] at e13
  try simp only [e2, e4, e5, e6, e7, e8, e9, e10] at e14
  try simp only [e2, e4, e5, e6, e7, e8, e9, e10]
  have p0 := f7.2.1
  have p1 := f7.2.2.1
  have p2 := f7.2.2.2.1
  have p3 := f7.2.2.2.2
  have r0_0 := f15.2
  try simp only [e2, e4, e5, e6, e7, e8, e9, e10] at p0
  try simp only [e2, e4, e5, e6, e7, e8, e9, e10] at p1
  try simp only [e2, e4, e5, e6, e7, e8, e9, e10] at p2
  try simp only [e2, e4, e5, e6, e7, e8, e9, e10] at p3
  try simp only [e2, e4, e5, e6, e7, e8, e9, e10] at r0_0
  clear f10 e1 e2 e3 e4 e5 e6 e7 e8 e9 e10
  subst e0

  refine ⟨?_, ?_, ?_, ?_, ?_⟩
  · assumption
  · assumption
  · omega
  · assumption
  · exact .inr ⟨by omega, by omega, by omega, by first | rfl | assumption, by first | rfl | assumption, by first | rfl | assumption⟩
def g_254v_s_1 : vG := ([(0, [7], [], -1), (30, [6], [], 0), (1250, [6, 0, 1], [0, 1], 0), (90, [6], [], 0), (91, [6], [], 1), (41, [4, 5], [], 0), (0, [5], [], 20), (20, [4, 0], [0], 64), (90, [4], [], 0), (91, [4], [], 20), (6000, [0, 1, 2, 3], [0], 0), (0, [0], [], 285), (90, [1], [], -2147483648), (91, [1], [], 2147483647), (90, [2], [], -2147483648), (91, [2], [], 2147483647), (90, [3], [], -2147483648), (91, [3], [], 2147483647)], (3000, [7], [1], 46))
theorem c_254v_s_1 : vOkm T0 (eP e_254v L_254v A_254v mu_254v none) 4 g_254v_s_1 := vOk_in fun ρ η h => by
  obtain ⟨f0, f1, f2, f3, f4, f5, f6, f7, f8, f9, f10, f11, f12, f13, f14, f15, f16, f17, _⟩ := h
  exact q_254v_1 (n0 := ρ 3) (n1 := ρ 2) (n2 := ρ 1) (n3 := ρ 0) (n4 := ρ 4) (n5 := ρ 5) (n6 := ρ 6) (n7 := ρ 7) (H0 := η 0) (H1 := η 1) f17 f16 f15 f14 f13 f12 f11 f10 f9 f8 f7 f6 f5 f4 f3 f2 f1 f0
theorem q_254v_2 {n0 n1 n2 n3 n4 n5 n6 n7 : Int} {H0 H1 : gH} (f0 : n0 ≤ 2147483647) (f1 : (-2147483648) ≤ n0) (f2 : n1 ≤ 2147483647) (f3 : (-2147483648) ≤ n1) (f4 : n2 ≤ 2147483647) (f5 : (-2147483648) ≤ n2) (f6 : n3 = 285) (f7 : hWt T0 H0 ∧ preb_254v n3 n2 n1 n0 H0) (f8 : n4 ≤ 20) (f9 : 0 ≤ n4) (f10 : n4 = hV H0 (n3).toNat 64) (f11 : n5 = 20) (f12 : n4 ≠ n5) (f13 : n6 ≤ 1) (f14 : 0 ≤ n6) (f15 : (hLe T0 H0 H1 ∧ hFr s_250.2.2.2.2 H0 H1 ∧ ((0 : Int) = 0 → H1.length = H0.length) ∧ hWt T0 H1) ∧ postb_250 n6 n3 n2 H0 H1) (f16 : n6 ≠ 0) (f17 : n1 < 0) (f18 : n7 = (-1)) : postb_254v n7 n3 n2 n1 n0 H0 H1 := by
  unfold preb_254v at f7
  unfold postb_250 at f15
  unfold postb_254v
  have e0 : n4 = hV H0 285 64 := (by rw [f6] at f10; exact f10 : n4 = hV H0 285 64)
  have e1 : hV H1 285 64 = hV H0 285 64 := f15.1.2.1.1 285 64 (by decide +kernel)
  have e2 : hV H1 285 64 = hV H0 285 64 := e1
  have e3 : hV H1 285 65 = hV H0 285 65 := f15.1.2.1.1 285 65 (by decide +kernel)
  have e4 : hV H1 285 65 = hV H0 285 65 := e3
  have e5 : hV H1 328 = hV H0 328 := fRow f15.1.2.1 328 (by decide +kernel)
  have e6 : hV H1 329 = hV H0 329 := fRow f15.1.2.1 329 (by decide +kernel)
  have e7 : hV H1 338 = hV H0 338 := fRow f15.1.2.1 338 (by decide +kernel)
  have e8 : AC H1 = AC H0 := AC_fr f15.1.2.1 (by decide +kernel)
  have e9 : SO H1 = SO H0 := SO_fr f15.1.2.1 (by decide +kernel)
  have e10 : SS H1 = SS H0 := SS_fr f15.1.2.1 (by decide +kernel)
  have e11 : (0 : Int) ≤ hV H0 285 64 ∧ hV H0 285 64 ≤ 20 := f7.1 285 64 _ _ (by decide +kernel)
  have e12 : (0 : Int) ≤ hV H0 285 65 ∧ hV H0 285 65 ≤ 2147483647 := f7.1 285 65 _ _ (by decide +kernel)
  have e13 : (0 : Int) ≤ hV H1 285 64 ∧ hV H1 285 64 ≤ 20 := f15.1.2.2.2 285 64 _ _ (by decide +kernel)
  have e14 : (0 : Int) ≤ hV H1 285 65 ∧ hV H1 285 65 ≤ 2147483647 := f15.1.2.2.2 285 65 _ _ (by decide +kernel)
  try simp only [e2, e4, e5, e6, e7, e8, e9, e10] at f7
  try simp only [e2, e4, e5, e6, e7, e8, e9, e10] at f15
  try simp only [e2, e4, e5, e6, e7, e8, e9, e10] at e11
  try simp only [e2, e4, e5, e6, e7, e8, e9, e10] at e12
  try simp only [e2, e4, e5, e6, e7, e8, e9, e10] at e13
  try simp only [e2, e4, e5, e6, e7, e8, e9, e10] at e14
  try simp only [e2, e4, e5, e6, e7, e8, e9, e10]
  have p0 := f7.2.1
  have p1 := f7.2.2.1
  have p2 := f7.2.2.2.1
  have p3 := f7.2.2.2.2
  have r0_0 := f15.2
  try simp only [e2, e4, e5, e6, e7, e8, e9, e10] at p0
  try simp only [e2, e4, e5, e6, e7, e8, e9, e10] at p1
  try simp only [e2, e4, e5, e6, e7, e8, e9, e10] at p2
  try simp only [e2, e4, e5, e6, e7, e8, e9, e10] at p3
  try simp only [e2, e4, e5, e6, e7, e8, e9, e10] at r0_0
  clear f10 e1 e2 e3 e4 e5 e6 e7 e8 e9 e10
  subst e0

  refine ⟨?_, ?_, ?_, ?_, ?_⟩
  · assumption
  · assumption
  · omega
  · assumption
  · exact .inr ⟨by omega, by omega, by omega, by first | rfl | assumption, by first | rfl | assumption, by first | rfl | assumption⟩
def g_254v_s_2 : vG := ([(0, [7], [], -1), (32, [2], [], 0), (31, [6], [], 0), (1250, [6, 0, 1], [0, 1], 0), (90, [6], [], 0), (91, [6], [], 1), (41, [4, 5], [], 0), (0, [5], [], 20), (20, [4, 0], [0], 64), (90, [4], [], 0), (91, [4], [], 20), (6000, [0, 1, 2, 3], [0], 0), (0, [0], [], 285), (90, [1], [], -2147483648), (91, [1], [], 2147483647), (90, [2], [], -2147483648), (91, [2], [], 2147483647), (90, [3], [], -2147483648), (91, [3], [], 2147483647)], (3000, [7], [1], 46))
theorem c_254v_s_2 : vOkm T0 (eP e_254v L_254v A_254v mu_254v none) 4 g_254v_s_2 := vOk_in fun ρ η h => by
  obtain ⟨f0, f1, f2, f3, f4, f5, f6, f7, f8, f9, f10, f11, f12, f13, f14, f15, f16, f17, f18, _⟩ := h
  exact q_254v_2 (n0 := ρ 3) (n1 := ρ 2) (n2 := ρ 1) (n3 := ρ 0) (n4 := ρ 4) (n5 := ρ 5) (n6 := ρ 6) (n7 := ρ 7) (H0 := η 0) (H1 := η 1) f18 f17 f16 f15 f14 f13 f12 f11 f10 f9 f8 f7 f6 f5 f4 f3 f2 f1 f0
theorem q_254v_3 {n0 n1 n2 n3 n4 n5 n6 n7 : Int} {H0 H1 : gH} (f0 : n0 ≤ 2147483647) (f1 : (-2147483648) ≤ n0) (f2 : n1 ≤ 2147483647) (f3 : (-2147483648) ≤ n1) (f4 : n2 ≤ 2147483647) (f5 : (-2147483648) ≤ n2) (f6 : n3 = 285) (f7 : hWt T0 H0 ∧ preb_254v n3 n2 n1 n0 H0) (f8 : n4 ≤ 20) (f9 : 0 ≤ n4) (f10 : n4 = hV H0 (n3).toNat 64) (f11 : n5 = 20) (f12 : n4 ≠ n5) (f13 : n6 ≤ 1) (f14 : 0 ≤ n6) (f15 : (hLe T0 H0 H1 ∧ hFr s_250.2.2.2.2 H0 H1 ∧ ((0 : Int) = 0 → H1.length = H0.length) ∧ hWt T0 H1) ∧ postb_250 n6 n3 n2 H0 H1) (f16 : n6 ≠ 0) (f17 : 0 ≤ n1) (f18 : n0 ≤ n1) (f19 : n7 = (-1)) : postb_254v n7 n3 n2 n1 n0 H0 H1 := by
  unfold preb_254v at f7
  unfold postb_250 at f15
  unfold postb_254v
  have e0 : n4 = hV H0 285 64 := (by rw [f6] at f10; exact f10 : n4 = hV H0 285 64)
  have e1 : hV H1 285 64 = hV H0 285 64 := f15.1.2.1.1 285 64 (by decide +kernel)
  have e2 : hV H1 285 64 = hV H0 285 64 := e1
  have e3 : hV H1 285 65 = hV H0 285 65 := f15.1.2.1.1 285 65 (by decide +kernel)
  have e4 : hV H1 285 65 = hV H0 285 65 := e3
  have e5 : hV H1 328 = hV H0 328 := fRow f15.1.2.1 328 (by decide +kernel)
  have e6 : hV H1 329 = hV H0 329 := fRow f15.1.2.1 329 (by decide +kernel)
  have e7 : hV H1 338 = hV H0 338 := fRow f15.1.2.1 338 (by decide +kernel)
  have e8 : AC H1 = AC H0 := AC_fr f15.1.2.1 (by decide +kernel)
  have e9 : SO H1 = SO H0 := SO_fr f15.1.2.1 (by decide +kernel)
  have e10 : SS H1 = SS H0 := SS_fr f15.1.2.1 (by decide +kernel)
  have e11 : (0 : Int) ≤ hV H0 285 64 ∧ hV H0 285 64 ≤ 20 := f7.1 285 64 _ _ (by decide +kernel)
  have e12 : (0 : Int) ≤ hV H0 285 65 ∧ hV H0 285 65 ≤ 2147483647 := f7.1 285 65 _ _ (by decide +kernel)
  have e13 : (0 : Int) ≤ hV H1 285 64 ∧ hV H1 285 64 ≤ 20 := f15.1.2.2.2 285 64 _ _ (by decide +kernel)
  have e14 : (0 : Int) ≤ hV H1 285 65 ∧ hV H1 285 65 ≤ 2147483647 := f15.1.2.2.2 285 65 _ _ (by decide +kernel)
  try simp only [e2, e4, e5, e6, e7, e8, e9, e10] at f7
  try simp only [e2, e4, e5, e6, e7, e8, e9, e10] at f15
  try simp only [e2, e4, e5, e6, e7, e8, e9, e10] at e11
  try simp only [e2, e4, e5, e6, e7, e8, e9, e10] at e12
  try simp only [e2, e4, e5, e6, e7, e8, e9, e10] at e13
  try simp only [e2, e4, e5, e6, e7, e8, e9, e10] at e14
  try simp only [e2, e4, e5, e6, e7, e8, e9, e10]
  have p0 := f7.2.1
  have p1 := f7.2.2.1
  have p2 := f7.2.2.2.1
  have p3 := f7.2.2.2.2
  have r0_0 := f15.2
  try simp only [e2, e4, e5, e6, e7, e8, e9, e10] at p0
  try simp only [e2, e4, e5, e6, e7, e8, e9, e10] at p1
  try simp only [e2, e4, e5, e6, e7, e8, e9, e10] at p2
  try simp only [e2, e4, e5, e6, e7, e8, e9, e10] at p3
  try simp only [e2, e4, e5, e6, e7, e8, e9, e10] at r0_0
  clear f10 e1 e2 e3 e4 e5 e6 e7 e8 e9 e10
  subst e0

  refine ⟨?_, ?_, ?_, ?_, ?_⟩
  · assumption
  · assumption
  · omega
  · assumption
  · exact .inr ⟨by omega, by omega, by omega, by first | rfl | assumption, by first | rfl | assumption, by first | rfl | assumption⟩
def g_254v_s_3 : vG := ([(0, [7], [], -1), (43, [2, 3], [], 0), (33, [2], [], 0), (31, [6], [], 0), (1250, [6, 0, 1], [0, 1], 0), (90, [6], [], 0), (91, [6], [], 1), (41, [4, 5], [], 0), (0, [5], [], 20), (20, [4, 0], [0], 64), (90, [4], [], 0), (91, [4], [], 20), (6000, [0, 1, 2, 3], [0], 0), (0, [0], [], 285), (90, [1], [], -2147483648), (91, [1], [], 2147483647), (90, [2], [], -2147483648), (91, [2], [], 2147483647), (90, [3], [], -2147483648), (91, [3], [], 2147483647)], (3000, [7], [1], 46))
theorem c_254v_s_3 : vOkm T0 (eP e_254v L_254v A_254v mu_254v none) 4 g_254v_s_3 := vOk_in fun ρ η h => by
  obtain ⟨f0, f1, f2, f3, f4, f5, f6, f7, f8, f9, f10, f11, f12, f13, f14, f15, f16, f17, f18, f19, _⟩ := h
  exact q_254v_3 (n0 := ρ 3) (n1 := ρ 2) (n2 := ρ 1) (n3 := ρ 0) (n4 := ρ 4) (n5 := ρ 5) (n6 := ρ 6) (n7 := ρ 7) (H0 := η 0) (H1 := η 1) f19 f18 f17 f16 f15 f14 f13 f12 f11 f10 f9 f8 f7 f6 f5 f4 f3 f2 f1 f0
theorem q_254v_4 {n0 n1 n2 n3 n4 n5 n6 n7 : Int} {H0 H1 : gH} (f0 : n0 ≤ 2147483647) (f1 : (-2147483648) ≤ n0) (f2 : n1 ≤ 2147483647) (f3 : (-2147483648) ≤ n1) (f4 : n2 ≤ 2147483647) (f5 : (-2147483648) ≤ n2) (f6 : n3 = 285) (f7 : hWt T0 H0 ∧ preb_254v n3 n2 n1 n0 H0) (f8 : n4 ≤ 20) (f9 : 0 ≤ n4) (f10 : n4 = hV H0 (n3).toNat 64) (f11 : n5 = 20) (f12 : n4 ≠ n5) (f13 : n6 ≤ 1) (f14 : 0 ≤ n6) (f15 : (hLe T0 H0 H1 ∧ hFr s_250.2.2.2.2 H0 H1 ∧ ((0 : Int) = 0 → H1.length = H0.length) ∧ hWt T0 H1) ∧ postb_250 n6 n3 n2 H0 H1) (f16 : n6 ≠ 0) (f17 : 0 ≤ n1) (f18 : n1 < n0) (f19 : n7 = 240) (f20 : n0 ≤ n7) : (-1) ≤ n2 := by
  unfold preb_254v at f7
  unfold postb_250 at f15
  have e0 : n4 = hV H0 285 64 := (by rw [f6] at f10; exact f10 : n4 = hV H0 285 64)
  have e1 : hV H1 285 64 = hV H0 285 64 := f15.1.2.1.1 285 64 (by decide +kernel)
  have e2 : hV H1 285 64 = hV H0 285 64 := e1
  have e3 : (0 : Int) ≤ hV H0 285 65 ∧ hV H0 285 65 ≤ 2147483647 := f7.1 285 65 _ _ (by decide +kernel)
  have e4 : (0 : Int) ≤ hV H1 285 64 ∧ hV H1 285 64 ≤ 20 := f15.1.2.2.2 285 64 _ _ (by decide +kernel)
  have e5 : (0 : Int) ≤ hV H0 285 64 ∧ hV H0 285 64 ≤ 20 := f7.1 285 64 _ _ (by decide +kernel)
  try simp only [e2] at f7
  try simp only [e2] at f15
  try simp only [e2] at e3
  try simp only [e2] at e4
  try simp only [e2] at e5
  try simp only [e2]
  have p0 := f7.2.1
  have p1 := f7.2.2.1
  have p2 := f7.2.2.2.1
  have p3 := f7.2.2.2.2
  have r0_0 := f15.2
  try simp only [e2] at p0
  try simp only [e2] at p1
  try simp only [e2] at p2
  try simp only [e2] at p3
  try simp only [e2] at r0_0
  clear f10 e1 e2
  subst e0
  omega
def g_254v_s_4 : vG := ([(45, [3, 7], [], 0), (0, [7], [], 240), (42, [2, 3], [], 0), (33, [2], [], 0), (31, [6], [], 0), (1250, [6, 0, 1], [0, 1], 0), (90, [6], [], 0), (91, [6], [], 1), (41, [4, 5], [], 0), (0, [5], [], 20), (20, [4, 0], [0], 64), (90, [4], [], 0), (91, [4], [], 20), (6000, [0, 1, 2, 3], [0], 0), (0, [0], [], 285), (90, [1], [], -2147483648), (91, [1], [], 2147483647), (90, [2], [], -2147483648), (91, [2], [], 2147483647), (90, [3], [], -2147483648), (91, [3], [], 2147483647)], (90, [1], [], -1))
theorem c_254v_s_4 : vOkm T0 (eP e_254v L_254v A_254v mu_254v none) 4 g_254v_s_4 := vOk_in fun ρ η h => by
  obtain ⟨f0, f1, f2, f3, f4, f5, f6, f7, f8, f9, f10, f11, f12, f13, f14, f15, f16, f17, f18, f19, f20, _⟩ := h
  exact q_254v_4 (n0 := ρ 3) (n1 := ρ 2) (n2 := ρ 1) (n3 := ρ 0) (n4 := ρ 4) (n5 := ρ 5) (n6 := ρ 6) (n7 := ρ 7) (H0 := η 0) (H1 := η 1) f20 f19 f18 f17 f16 f15 f14 f13 f12 f11 f10 f9 f8 f7 f6 f5 f4 f3 f2 f1 f0
theorem q_254v_5 {n0 n1 n2 n3 n4 n5 n6 n7 : Int} {H0 H1 : gH} (f0 : n0 ≤ 2147483647) (f1 : (-2147483648) ≤ n0) (f2 : n1 ≤ 2147483647) (f3 : (-2147483648) ≤ n1) (f4 : n2 ≤ 2147483647) (f5 : (-2147483648) ≤ n2) (f6 : n3 = 285) (f7 : hWt T0 H0 ∧ preb_254v n3 n2 n1 n0 H0) (f8 : n4 ≤ 20) (f9 : 0 ≤ n4) (f10 : n4 = hV H0 (n3).toNat 64) (f11 : n5 = 20) (f12 : n4 ≠ n5) (f13 : n6 ≤ 1) (f14 : 0 ≤ n6) (f15 : (hLe T0 H0 H1 ∧ hFr s_250.2.2.2.2 H0 H1 ∧ ((0 : Int) = 0 → H1.length = H0.length) ∧ hWt T0 H1) ∧ postb_250 n6 n3 n2 H0 H1) (f16 : n6 ≠ 0) (f17 : 0 ≤ n1) (f18 : n1 < n0) (f19 : n7 = 240) (f20 : n0 ≤ n7) : n2 ≤ 19 := by
  unfold preb_254v at f7
  unfold postb_250 at f15
  have e0 : n4 = hV H0 285 64 := (by rw [f6] at f10; exact f10 : n4 = hV H0 285 64)
  have e1 : hV H1 285 64 = hV H0 285 64 := f15.1.2.1.1 285 64 (by decide +kernel)
  have e2 : hV H1 285 64 = hV H0 285 64 := e1
  have e3 : (0 : Int) ≤ hV H0 285 65 ∧ hV H0 285 65 ≤ 2147483647 := f7.1 285 65 _ _ (by decide +kernel)
  have e4 : (0 : Int) ≤ hV H1 285 64 ∧ hV H1 285 64 ≤ 20 := f15.1.2.2.2 285 64 _ _ (by decide +kernel)
  have e5 : (0 : Int) ≤ hV H0 285 64 ∧ hV H0 285 64 ≤ 20 := f7.1 285 64 _ _ (by decide +kernel)
  try simp only [e2] at f7
  try simp only [e2] at f15
  try simp only [e2] at e3
  try simp only [e2] at e4
  try simp only [e2] at e5
  try simp only [e2]
  have p0 := f7.2.1
  have p1 := f7.2.2.1
  have p2 := f7.2.2.2.1
  have p3 := f7.2.2.2.2
  have r0_0 := f15.2
  try simp only [e2] at p0
  try simp only [e2] at p1
  try simp only [e2] at p2
  try simp only [e2] at p3
  try simp only [e2] at r0_0
  clear f10 e1 e2
  subst e0
  omega
def g_254v_s_5 : vG := ([(45, [3, 7], [], 0), (0, [7], [], 240), (42, [2, 3], [], 0), (33, [2], [], 0), (31, [6], [], 0), (1250, [6, 0, 1], [0, 1], 0), (90, [6], [], 0), (91, [6], [], 1), (41, [4, 5], [], 0), (0, [5], [], 20), (20, [4, 0], [0], 64), (90, [4], [], 0), (91, [4], [], 20), (6000, [0, 1, 2, 3], [0], 0), (0, [0], [], 285), (90, [1], [], -2147483648), (91, [1], [], 2147483647), (90, [2], [], -2147483648), (91, [2], [], 2147483647), (90, [3], [], -2147483648), (91, [3], [], 2147483647)], (91, [1], [], 19))
theorem c_254v_s_5 : vOkm T0 (eP e_254v L_254v A_254v mu_254v none) 4 g_254v_s_5 := vOk_in fun ρ η h => by
  obtain ⟨f0, f1, f2, f3, f4, f5, f6, f7, f8, f9, f10, f11, f12, f13, f14, f15, f16, f17, f18, f19, f20, _⟩ := h
  exact q_254v_5 (n0 := ρ 3) (n1 := ρ 2) (n2 := ρ 1) (n3 := ρ 0) (n4 := ρ 4) (n5 := ρ 5) (n6 := ρ 6) (n7 := ρ 7) (H0 := η 0) (H1 := η 1) f20 f19 f18 f17 f16 f15 f14 f13 f12 f11 f10 f9 f8 f7 f6 f5 f4 f3 f2 f1 f0
theorem q_254v_6 {n0 n1 n2 n3 n4 n5 n6 n7 n8 n9 : Int} {H0 H1 : gH} (f0 : n0 ≤ 2147483647) (f1 : (-2147483648) ≤ n0) (f2 : n1 ≤ 2147483647) (f3 : (-2147483648) ≤ n1) (f4 : n2 ≤ 2147483647) (f5 : (-2147483648) ≤ n2) (f6 : n3 = 285) (f7 : hWt T0 H0 ∧ preb_254v n3 n2 n1 n0 H0) (f8 : n4 ≤ 20) (f9 : 0 ≤ n4) (f10 : n4 = hV H0 (n3).toNat 64) (f11 : n5 = 20) (f12 : n4 ≠ n5) (f13 : n6 ≤ 1) (f14 : 0 ≤ n6) (f15 : (hLe T0 H0 H1 ∧ hFr s_250.2.2.2.2 H0 H1 ∧ ((0 : Int) = 0 → H1.length = H0.length) ∧ hWt T0 H1) ∧ postb_250 n6 n3 n2 H0 H1) (f16 : n6 ≠ 0) (f17 : 0 ≤ n1) (f18 : n1 < n0) (f19 : n7 = 240) (f20 : n0 ≤ n7) (f21 : n8 = 4) (f22 : n9 = 0) : preb_252v n3 n8 n9 n1 n0 n2 H1 := by
  unfold preb_254v at f7
  unfold postb_250 at f15
  unfold preb_252v
  have e0 : n4 = hV H0 285 64 := (by rw [f6] at f10; exact f10 : n4 = hV H0 285 64)
  have e1 : hV H1 285 64 = hV H0 285 64 := f15.1.2.1.1 285 64 (by decide +kernel)
  have e2 : hV H1 285 64 = hV H0 285 64 := e1
  have e3 : hV H1 285 65 = hV H0 285 65 := f15.1.2.1.1 285 65 (by decide +kernel)
  have e4 : hV H1 285 65 = hV H0 285 65 := e3
  have e5 : AC H1 = AC H0 := AC_fr f15.1.2.1 (by decide +kernel)
  have e6 : SO H1 = SO H0 := SO_fr f15.1.2.1 (by decide +kernel)
  have e7 : SS H1 = SS H0 := SS_fr f15.1.2.1 (by decide +kernel)
  have e8 : (0 : Int) ≤ hV H0 285 65 ∧ hV H0 285 65 ≤ 2147483647 := f7.1 285 65 _ _ (by decide +kernel)
  have e9 : (0 : Int) ≤ hV H1 285 64 ∧ hV H1 285 64 ≤ 20 := f15.1.2.2.2 285 64 _ _ (by decide +kernel)
  have e10 : (0 : Int) ≤ hV H0 285 64 ∧ hV H0 285 64 ≤ 20 := f7.1 285 64 _ _ (by decide +kernel)
  have e11 : (0 : Int) ≤ hV H1 285 65 ∧ hV H1 285 65 ≤ 2147483647 := f15.1.2.2.2 285 65 _ _ (by decide +kernel)
  try simp only [e2, e4, e5, e6, e7] at f7
  try simp only [e2, e4, e5, e6, e7] at f15
  try simp only [e2, e4, e5, e6, e7] at e8
  try simp only [e2, e4, e5, e6, e7] at e9
  try simp only [e2, e4, e5, e6, e7] at e10
  try simp only [e2, e4, e5, e6, e7] at e11
  try simp only [e2, e4, e5, e6, e7]
  have p0 := f7.2.1
  have p1 := f7.2.2.1
  have p2 := f7.2.2.2.1
  have p3 := f7.2.2.2.2
  have r0_0 := f15.2
  try simp only [e2, e4, e5, e6, e7] at p0
  try simp only [e2, e4, e5, e6, e7] at p1
  try simp only [e2, e4, e5, e6, e7] at p2
  try simp only [e2, e4, e5, e6, e7] at p3
  try simp only [e2, e4, e5, e6, e7] at r0_0
  clear f10 e1 e2 e3 e4 e5 e6 e7
  subst e0
  refine ⟨?_, ?_, ?_, ?_, ?_, ?_, ?_, ?_⟩ <;> first | assumption | omega | trivial
def g_254v_s_6 : vG := ([(0, [9], [], 0), (0, [8], [], 4), (45, [3, 7], [], 0), (0, [7], [], 240), (42, [2, 3], [], 0), (33, [2], [], 0), (31, [6], [], 0), (1250, [6, 0, 1], [0, 1], 0), (90, [6], [], 0), (91, [6], [], 1), (41, [4, 5], [], 0), (0, [5], [], 20), (20, [4, 0], [0], 64), (90, [4], [], 0), (91, [4], [], 20), (6000, [0, 1, 2, 3], [0], 0), (0, [0], [], 285), (90, [1], [], -2147483648), (91, [1], [], 2147483647), (90, [2], [], -2147483648), (91, [2], [], 2147483647), (90, [3], [], -2147483648), (91, [3], [], 2147483647)], (2252, [0, 8, 9, 2, 3, 1], [1], 0))
theorem c_254v_s_6 : vOkm T0 (eP e_254v L_254v A_254v mu_254v none) 4 g_254v_s_6 := vOk_in fun ρ η h => by
  obtain ⟨f0, f1, f2, f3, f4, f5, f6, f7, f8, f9, f10, f11, f12, f13, f14, f15, f16, f17, f18, f19, f20, f21, f22, _⟩ := h
  exact q_254v_6 (n0 := ρ 3) (n1 := ρ 2) (n2 := ρ 1) (n3 := ρ 0) (n4 := ρ 4) (n5 := ρ 5) (n6 := ρ 6) (n7 := ρ 7) (n8 := ρ 8) (n9 := ρ 9) (H0 := η 0) (H1 := η 1) f22 f21 f20 f19 f18 f17 f16 f15 f14 f13 f12 f11 f10 f9 f8 f7 f6 f5 f4 f3 f2 f1 f0
theorem q_254v_7 {n0 n1 n2 n3 n4 n5 n6 n7 n8 n9 n10 : Int} {H0 H1 H2 : gH} (f0 : n0 ≤ 2147483647) (f1 : (-2147483648) ≤ n0) (f2 : n1 ≤ 2147483647) (f3 : (-2147483648) ≤ n1) (f4 : n2 ≤ 2147483647) (f5 : (-2147483648) ≤ n2) (f6 : n3 = 285) (f7 : hWt T0 H0 ∧ preb_254v n3 n2 n1 n0 H0) (f8 : n4 ≤ 20) (f9 : 0 ≤ n4) (f10 : n4 = hV H0 (n3).toNat 64) (f11 : n5 = 20) (f12 : n4 ≠ n5) (f13 : n6 ≤ 1) (f14 : 0 ≤ n6) (f15 : (hLe T0 H0 H1 ∧ hFr s_250.2.2.2.2 H0 H1 ∧ ((0 : Int) = 0 → H1.length = H0.length) ∧ hWt T0 H1) ∧ postb_250 n6 n3 n2 H0 H1) (f16 : n6 ≠ 0) (f17 : 0 ≤ n1) (f18 : n1 < n0) (f19 : n7 = 240) (f20 : n0 ≤ n7) (f21 : n8 = 4) (f22 : n9 = 0) (f23 : n10 ≤ 2147483647) (f24 : (-2147483648) ≤ n10) (f25 : (hLe T0 H1 H2 ∧ hFr s_252v.2.2.2.2 H1 H2 ∧ ((0 : Int) = 0 → H2.length = H1.length) ∧ hWt T0 H2) ∧ postb_252v n10 n3 n8 n9 n1 n0 n2 H1 H2) : postb_254v n10 n3 n2 n1 n0 H0 H2 := by
  unfold preb_254v at f7
  unfold postb_250 at f15
  unfold postb_252v at f25
  unfold postb_254v
  have e0 : n4 = hV H0 285 64 := (by rw [f6] at f10; exact f10 : n4 = hV H0 285 64)
  have e1 : hV H1 285 64 = hV H0 285 64 := f15.1.2.1.1 285 64 (by decide +kernel)
  have e2 : hV H1 285 64 = hV H0 285 64 := e1
  have e3 : hV H1 285 65 = hV H0 285 65 := f15.1.2.1.1 285 65 (by decide +kernel)
  have e4 : hV H1 285 65 = hV H0 285 65 := e3
  have e5 : hV H1 328 = hV H0 328 := fRow f15.1.2.1 328 (by decide +kernel)
  have e6 : hV H1 329 = hV H0 329 := fRow f15.1.2.1 329 (by decide +kernel)
  have e7 : hV H1 338 = hV H0 338 := fRow f15.1.2.1 338 (by decide +kernel)
  have e8 : (0 : Int) ≤ hV H0 285 64 ∧ hV H0 285 64 ≤ 20 := f7.1 285 64 _ _ (by decide +kernel)
  have e9 : (0 : Int) ≤ hV H0 285 65 ∧ hV H0 285 65 ≤ 2147483647 := f7.1 285 65 _ _ (by decide +kernel)
  have e10 : (0 : Int) ≤ hV H1 285 64 ∧ hV H1 285 64 ≤ 20 := f15.1.2.2.2 285 64 _ _ (by decide +kernel)
  have e11 : (0 : Int) ≤ hV H1 285 65 ∧ hV H1 285 65 ≤ 2147483647 := f15.1.2.2.2 285 65 _ _ (by decide +kernel)
  have e12 : (0 : Int) ≤ hV H2 285 64 ∧ hV H2 285 64 ≤ 20 := f25.1.2.2.2 285 64 _ _ (by decide +kernel)
  have e13 : (0 : Int) ≤ hV H2 285 65 ∧ hV H2 285 65 ≤ 2147483647 := f25.1.2.2.2 285 65 _ _ (by decide +kernel)
  try simp only [e2, e4, e5, e6, e7] at f7
  try simp only [e2, e4, e5, e6, e7] at f15
  try simp only [e2, e4, e5, e6, e7] at f25
  try simp only [e2, e4, e5, e6, e7] at e8
  try simp only [e2, e4, e5, e6, e7] at e9
  try simp only [e2, e4, e5, e6, e7] at e10
  try simp only [e2, e4, e5, e6, e7] at e11
  try simp only [e2, e4, e5, e6, e7] at e12
  try simp only [e2, e4, e5, e6, e7] at e13
  try simp only [e2, e4, e5, e6, e7]
  have p0 := f7.2.1
  have p1 := f7.2.2.1
  have p2 := f7.2.2.2.1
  have p3 := f7.2.2.2.2
  have r0_0 := f15.2
  have r1_0 := f25.2.1
  have r1_1 := f25.2.2.1
  have r1_2 := f25.2.2.2.1
  have r1_3 := f25.2.2.2.2.1
  have r1_4 := f25.2.2.2.2.2.1
  have r1_5 := f25.2.2.2.2.2.2.1
  have r1_6 := f25.2.2.2.2.2.2.2.1
  have r1_7 := f25.2.2.2.2.2.2.2.2.1
  have r1_8 := f25.2.2.2.2.2.2.2.2.2
  try simp only [e2, e4, e5, e6, e7] at p0
  try simp only [e2, e4, e5, e6, e7] at p1
  try simp only [e2, e4, e5, e6, e7] at p2
  try simp only [e2, e4, e5, e6, e7] at p3
  try simp only [e2, e4, e5, e6, e7] at r0_0
  try simp only [e2, e4, e5, e6, e7] at r1_0
  try simp only [e2, e4, e5, e6, e7] at r1_1
  try simp only [e2, e4, e5, e6, e7] at r1_2
  try simp only [e2, e4, e5, e6, e7] at r1_3
  try simp only [e2, e4, e5, e6, e7] at r1_4
  try simp only [e2, e4, e5, e6, e7] at r1_5
  try simp only [e2, e4, e5, e6, e7] at r1_6
  try simp only [e2, e4, e5, e6, e7] at r1_7
  try simp only [e2, e4, e5, e6, e7] at r1_8
  clear f10 e1 e2 e3 e4 e5 e6 e7
  subst e0

  refine ⟨?_, ?_, ?_, ?_, ?_⟩
  · exact r1_0
  · exact r1_1
  · omega
  · exact r1_2
  · have kd := r1_6
    have mo := r1_7
    have ma := r1_8
    try rw [f21] at kd
    try rw [f22] at ma
    exact .inl ⟨by omega, by omega, by omega, by omega, kd, mo, ma⟩
def g_254v_s_7 : vG := ([(1252, [10, 0, 8, 9, 2, 3, 1], [1, 2], 0), (90, [10], [], -2147483648), (91, [10], [], 2147483647), (0, [9], [], 0), (0, [8], [], 4), (45, [3, 7], [], 0), (0, [7], [], 240), (42, [2, 3], [], 0), (33, [2], [], 0), (31, [6], [], 0), (1250, [6, 0, 1], [0, 1], 0), (90, [6], [], 0), (91, [6], [], 1), (41, [4, 5], [], 0), (0, [5], [], 20), (20, [4, 0], [0], 64), (90, [4], [], 0), (91, [4], [], 20), (6000, [0, 1, 2, 3], [0], 0), (0, [0], [], 285), (90, [1], [], -2147483648), (91, [1], [], 2147483647), (90, [2], [], -2147483648), (91, [2], [], 2147483647), (90, [3], [], -2147483648), (91, [3], [], 2147483647)], (3000, [10], [2], 46))
theorem c_254v_s_7 : vOkm T0 (eP e_254v L_254v A_254v mu_254v none) 4 g_254v_s_7 := vOk_in fun ρ η h => by
  obtain ⟨f0, f1, f2, f3, f4, f5, f6, f7, f8, f9, f10, f11, f12, f13, f14, f15, f16, f17, f18, f19, f20, f21, f22, f23, f24, f25, _⟩ := h
  exact q_254v_7 (n0 := ρ 3) (n1 := ρ 2) (n2 := ρ 1) (n3 := ρ 0) (n4 := ρ 4) (n5 := ρ 5) (n6 := ρ 6) (n7 := ρ 7) (n8 := ρ 8) (n9 := ρ 9) (n10 := ρ 10) (H0 := η 0) (H1 := η 1) (H2 := η 2) f25 f24 f23 f22 f21 f20 f19 f18 f17 f16 f15 f14 f13 f12 f11 f10 f9 f8 f7 f6 f5 f4 f3 f2 f1 f0
theorem q_254v_8 {n0 n1 n2 n3 n4 n5 n6 n7 n8 : Int} {H0 H1 : gH} (f0 : n0 ≤ 2147483647) (f1 : (-2147483648) ≤ n0) (f2 : n1 ≤ 2147483647) (f3 : (-2147483648) ≤ n1) (f4 : n2 ≤ 2147483647) (f5 : (-2147483648) ≤ n2) (f6 : n3 = 285) (f7 : hWt T0 H0 ∧ preb_254v n3 n2 n1 n0 H0) (f8 : n4 ≤ 20) (f9 : 0 ≤ n4) (f10 : n4 = hV H0 (n3).toNat 64) (f11 : n5 = 20) (f12 : n4 ≠ n5) (f13 : n6 ≤ 1) (f14 : 0 ≤ n6) (f15 : (hLe T0 H0 H1 ∧ hFr s_250.2.2.2.2 H0 H1 ∧ ((0 : Int) = 0 → H1.length = H0.length) ∧ hWt T0 H1) ∧ postb_250 n6 n3 n2 H0 H1) (f16 : n6 ≠ 0) (f17 : 0 ≤ n1) (f18 : n1 < n0) (f19 : n7 = 240) (f20 : n7 < n0) (f21 : n8 = (-1)) : postb_254v n8 n3 n2 n1 n0 H0 H1 := by
  unfold preb_254v at f7
  unfold postb_250 at f15
  unfold postb_254v
  have e0 : n4 = hV H0 285 64 := (by rw [f6] at f10; exact f10 : n4 = hV H0 285 64)
  have e1 : hV H1 285 64 = hV H0 285 64 := f15.1.2.1.1 285 64 (by decide +kernel)
  have e2 : hV H1 285 64 = hV H0 285 64 := e1
  have e3 : hV H1 285 65 = hV H0 285 65 := f15.1.2.1.1 285 65 (by decide +kernel)
  have e4 : hV H1 285 65 = hV H0 285 65 := e3
  have e5 : hV H1 328 = hV H0 328 := fRow f15.1.2.1 328 (by decide +kernel)
  have e6 : hV H1 329 = hV H0 329 := fRow f15.1.2.1 329 (by decide +kernel)
  have e7 : hV H1 338 = hV H0 338 := fRow f15.1.2.1 338 (by decide +kernel)
  have e8 : AC H1 = AC H0 := AC_fr f15.1.2.1 (by decide +kernel)
  have e9 : SO H1 = SO H0 := SO_fr f15.1.2.1 (by decide +kernel)
  have e10 : SS H1 = SS H0 := SS_fr f15.1.2.1 (by decide +kernel)
  have e11 : (0 : Int) ≤ hV H0 285 64 ∧ hV H0 285 64 ≤ 20 := f7.1 285 64 _ _ (by decide +kernel)
  have e12 : (0 : Int) ≤ hV H0 285 65 ∧ hV H0 285 65 ≤ 2147483647 := f7.1 285 65 _ _ (by decide +kernel)
  have e13 : (0 : Int) ≤ hV H1 285 64 ∧ hV H1 285 64 ≤ 20 := f15.1.2.2.2 285 64 _ _ (by decide +kernel)
  have e14 : (0 : Int) ≤ hV H1 285 65 ∧ hV H1 285 65 ≤ 2147483647 := f15.1.2.2.2 285 65 _ _ (by decide +kernel)
  try simp only [e2, e4, e5, e6, e7, e8, e9, e10] at f7
  try simp only [e2, e4, e5, e6, e7, e8, e9, e10] at f15
  try simp only [e2, e4, e5, e6, e7, e8, e9, e10] at e11
  try simp only [e2, e4, e5, e6, e7, e8, e9, e10] at e12
  try simp only [e2, e4, e5, e6, e7, e8, e9, e10] at e13
  try simp only [e2, e4, e5, e6, e7, e8, e9, e10] at e14
  try simp only [e2, e4, e5, e6, e7, e8, e9, e10]
  have p0 := f7.2.1
  have p1 := f7.2.2.1
  have p2 := f7.2.2.2.1
  have p3 := f7.2.2.2.2
  have r0_0 := f15.2
  try simp only [e2, e4, e5, e6, e7, e8, e9, e10] at p0
  try simp only [e2, e4, e5, e6, e7, e8, e9, e10] at p1
  try simp only [e2, e4, e5, e6, e7, e8, e9, e10] at p2
  try simp only [e2, e4, e5, e6, e7, e8, e9, e10] at p3
  try simp only [e2, e4, e5, e6, e7, e8, e9, e10] at r0_0
  clear f10 e1 e2 e3 e4 e5 e6 e7 e8 e9 e10
  subst e0

  refine ⟨?_, ?_, ?_, ?_, ?_⟩
  · assumption
  · assumption
  · omega
  · assumption
  · exact .inr ⟨by omega, by omega, by omega, by first | rfl | assumption, by first | rfl | assumption, by first | rfl | assumption⟩
def g_254v_s_8 : vG := ([(0, [8], [], -1), (44, [3, 7], [], 0), (0, [7], [], 240), (42, [2, 3], [], 0), (33, [2], [], 0), (31, [6], [], 0), (1250, [6, 0, 1], [0, 1], 0), (90, [6], [], 0), (91, [6], [], 1), (41, [4, 5], [], 0), (0, [5], [], 20), (20, [4, 0], [0], 64), (90, [4], [], 0), (91, [4], [], 20), (6000, [0, 1, 2, 3], [0], 0), (0, [0], [], 285), (90, [1], [], -2147483648), (91, [1], [], 2147483647), (90, [2], [], -2147483648), (91, [2], [], 2147483647), (90, [3], [], -2147483648), (91, [3], [], 2147483647)], (3000, [8], [1], 46))
theorem c_254v_s_8 : vOkm T0 (eP e_254v L_254v A_254v mu_254v none) 4 g_254v_s_8 := vOk_in fun ρ η h => by
  obtain ⟨f0, f1, f2, f3, f4, f5, f6, f7, f8, f9, f10, f11, f12, f13, f14, f15, f16, f17, f18, f19, f20, f21, _⟩ := h
  exact q_254v_8 (n0 := ρ 3) (n1 := ρ 2) (n2 := ρ 1) (n3 := ρ 0) (n4 := ρ 4) (n5 := ρ 5) (n6 := ρ 6) (n7 := ρ 7) (n8 := ρ 8) (H0 := η 0) (H1 := η 1) f21 f20 f19 f18 f17 f16 f15 f14 f13 f12 f11 f10 f9 f8 f7 f6 f5 f4 f3 f2 f1 f0
def p_254v_s : List vG := [g_254v_s_0,
  g_254v_s_1,
  g_254v_s_2,
  g_254v_s_3,
  g_254v_s_4,
  g_254v_s_5,
  g_254v_s_6,
  g_254v_s_7,
  g_254v_s_8]
theorem r_254v_s : vCovO false (eR0 e_254v L_254v cs_254v 2000) p_254v_s = true := by decide +kernel
theorem m_254v (d : Nat) : eC e_254v (d + 2) := eC_ok (e := e_254v) (L := L_254v) (cs := cs_254v) (n := 2000) (d := d + 1) (A := A_254v) (μ := mu_254v) (tp := false) (p0 := p_254v_s) rfl ⟨m_250 d, ⟨m_252v d, trivial⟩⟩ rfl (.inl rfl) (by decide +kernel) (fun z => nomatch z) r_254v_s (allC c_254v_s_0 (allC c_254v_s_1 (allC c_254v_s_2 (allC c_254v_s_3 (allC c_254v_s_4 (allC c_254v_s_5 (allC c_254v_s_6 (allC c_254v_s_7 (allC c_254v_s_8 allN))))))))) allN
/- MixStageModel.mute (I)I -/
noncomputable def s_255v : vM := ([(3, 12, 285, 0), (0, -2147483648, 2147483647, 0)], (0, -2147483648, 2147483647, 0), 1, 0, [(12, 64), (12, 65), (452, 0), (460, 0), (468, 0), (476, 0), (484, 0), (492, 0), (500, 0), (508, 0), (516, 0), (532, 0)])
def preb_255v (a0 a1 : Int) (h : gH) : Prop := hV h 285 65 ≤ 20000 ∧ SO h ∧ SS h ∧ AC h
def pre_255v : List Int → gH → Prop := fun xs h => match xs with
  | [a0, a1] => preb_255v a0 a1 h
  | _ => False
def postb_255v (r a0 a1 : Int) (h0 h : gH) : Prop := SO h ∧ SS h ∧ hV h 285 65 ≤ hV h0 285 65 + 1 ∧ AC h ∧ (((0 ≤ a1 ∧ a1 < hV h0 285 64 ∧ hV h0 328 ((a1).toNat) = 2) ∧ hV h0 285 64 ≤ 19 ∧ ADDm r 5 0 (hV h0 285 64) (hV h 285 64) (hV h0 328) (hV h0 338) (hV h0 329) (hV h 328) (hV h 338) (hV h 329)) ∨ (¬ ((0 ≤ a1 ∧ a1 < hV h0 285 64 ∧ hV h0 328 ((a1).toNat) = 2) ∧ hV h0 285 64 ≤ 19) ∧ r = -1 ∧ SAMm (hV h0 285 64) (hV h 285 64) (hV h0 328) (hV h0 338) (hV h0 329) (hV h 328) (hV h 338) (hV h 329)))
def post_255v : List Int → gH → gH → Prop := fun xs h0 h => match xs with
  | [r, a0, a1] => postb_255v r a0 a1 h0 h
  | _ => True
noncomputable def e_255v : vE := (255, s_255v, pre_255v, post_255v)
noncomputable def L_255v : List vE := [e_250, e_252v]
def cs_255v : List vC := []
def A_255v : Int → List Int → gH → gH → Prop := fun c xs h0 h => True
def mu_255v : Int → List Int → gH → gH → Nat := fun c xs h0 h => 0
theorem q_255v_0 {n0 n1 n2 n3 n4 : Int} {H0 : gH} (f0 : n0 ≤ 2147483647) (f1 : (-2147483648) ≤ n0) (f2 : n1 = 285) (f3 : hWt T0 H0 ∧ preb_255v n1 n0 H0) (f4 : n2 ≤ 20) (f5 : 0 ≤ n2) (f6 : n2 = hV H0 (n1).toNat 64) (f7 : n3 = 20) (f8 : n2 = n3) (f9 : n4 = (-1)) : postb_255v n4 n1 n0 H0 H0 := by
  unfold preb_255v at f3
  unfold postb_255v
  have e0 : n2 = hV H0 285 64 := (by rw [f2] at f6; exact f6 : n2 = hV H0 285 64)
  have e1 : (0 : Int) ≤ hV H0 285 64 ∧ hV H0 285 64 ≤ 20 := f3.1 285 64 _ _ (by decide +kernel)
  have e2 : (0 : Int) ≤ hV H0 285 65 ∧ hV H0 285 65 ≤ 2147483647 := f3.1 285 65 _ _ (by decide +kernel)
  have p0 := f3.2.1
  have p1 := f3.2.2.1
  have p2 := f3.2.2.2.1
  have p3 := f3.2.2.2.2
  clear f6
  subst e0

  refine ⟨?_, ?_, ?_, ?_, ?_⟩
  · assumption
  · assumption
  · omega
  · assumption
  · exact .inr ⟨by omega, by omega, by omega, by first | rfl | assumption, by first | rfl | assumption, by first | rfl | assumption⟩
def g_255v_s_0 : vG := ([(0, [4], [], -1), (40, [2, 3], [], 0), (0, [3], [], 20), (20, [2, 0], [0], 64), (90, [2], [], 0), (91, [2], [], 20), (6000, [0, 1], [0], 0), (0, [0], [], 285), (90, [1], [], -2147483648), (91, [1], [], 2147483647)], (3000, [4], [0], 40))
theorem c_255v_s_0 : vOkm T0 (eP e_255v L_255v A_255v mu_255v none) 2 g_255v_s_0 := vOk_in fun ρ η h => by
  obtain ⟨f0, f1, f2, f3, f4, f5, f6, f7, f8, f9, _⟩ := h
  exact q_255v_0 (n0 := ρ 1) (n1 := ρ 0) (n2 := ρ 2) (n3 := ρ 3) (n4 := ρ 4) (H0 := η 0) f9 f8 f7 f6 f5 f4 f3 f2 f1 f0
theorem q_255v_1 {n0 n1 n2 n3 n4 n5 : Int} {H0 H1 : gH} (f0 : n0 ≤ 2147483647) (f1 : (-2147483648) ≤ n0) (f2 : n1 = 285) (f3 : hWt T0 H0 ∧ preb_255v n1 n0 H0) (f4 : n2 ≤ 20) (f5 : 0 ≤ n2) (f6 : n2 = hV H0 (n1).toNat 64) (f7 : n3 = 20) (f8 : n2 ≠ n3) (f9 : n4 ≤ 1) (f10 : 0 ≤ n4) (f11 : (hLe T0 H0 H1 ∧ hFr s_250.2.2.2.2 H0 H1 ∧ ((0 : Int) = 0 → H1.length = H0.length) ∧ hWt T0 H1) ∧ postb_250 n4 n1 n0 H0 H1) (f12 : n4 = 0) (f13 : n5 = (-1)) : postb_255v n5 n1 n0 H0 H1 := by
  unfold preb_255v at f3
  unfold postb_250 at f11
  unfold postb_255v
  have e0 : n2 = hV H0 285 64 := (by rw [f2] at f6; exact f6 : n2 = hV H0 285 64)
  have e1 : hV H1 285 64 = hV H0 285 64 := f11.1.2.1.1 285 64 (by decide +kernel)
  have e2 : hV H1 285 64 = hV H0 285 64 := e1
  have e3 : hV H1 285 65 = hV H0 285 65 := f11.1.2.1.1 285 65 (by decide +kernel)
  have e4 : hV H1 285 65 = hV H0 285 65 := e3
  have e5 : hV H1 328 = hV H0 328 := fRow f11.1.2.1 328 (by decide +kernel)
  have e6 : hV H1 329 = hV H0 329 := fRow f11.1.2.1 329 (by decide +kernel)
  have e7 : hV H1 338 = hV H0 338 := fRow f11.1.2.1 338 (by decide +kernel)
  have e8 : AC H1 = AC H0 := AC_fr f11.1.2.1 (by decide +kernel)
  have e9 : SO H1 = SO H0 := SO_fr f11.1.2.1 (by decide +kernel)
  have e10 : SS H1 = SS H0 := SS_fr f11.1.2.1 (by decide +kernel)
  have e11 : (0 : Int) ≤ hV H0 285 64 ∧ hV H0 285 64 ≤ 20 := f3.1 285 64 _ _ (by decide +kernel)
  have e12 : (0 : Int) ≤ hV H0 285 65 ∧ hV H0 285 65 ≤ 2147483647 := f3.1 285 65 _ _ (by decide +kernel)
  have e13 : (0 : Int) ≤ hV H1 285 64 ∧ hV H1 285 64 ≤ 20 := f11.1.2.2.2 285 64 _ _ (by decide +kernel)
  have e14 : (0 : Int) ≤ hV H1 285 65 ∧ hV H1 285 65 ≤ 2147483647 := f11.1.2.2.2 285 65 _ _ (by decide +kernel)
  try simp only [e2, e4, e5, e6, e7, e8, e9, e10] at f3
  try simp only [e2, e4, e5, e6, e7, e8, e9, e10] at f11
  try simp only [e2, e4, e5, e6, e7, e8, e9, e10] at e11
  try simp only [e2, e4, e5, e6, e7, e8, e9, e10] at e12
  try simp only [e2, e4, e5, e6, e7, e8, e9, e10] at e13
  try simp only [e2, e4, e5, e6, e7, e8, e9, e10] at e14
  try simp only [e2, e4, e5, e6, e7, e8, e9, e10]
  have p0 := f3.2.1
  have p1 := f3.2.2.1
  have p2 := f3.2.2.2.1
  have p3 := f3.2.2.2.2
  have r0_0 := f11.2
  try simp only [e2, e4, e5, e6, e7, e8, e9, e10] at p0
  try simp only [e2, e4, e5, e6, e7, e8, e9, e10] at p1
  try simp only [e2, e4, e5, e6, e7, e8, e9, e10] at p2
  try simp only [e2, e4, e5, e6, e7, e8, e9, e10] at p3
  try simp only [e2, e4, e5, e6, e7, e8, e9, e10] at r0_0
  clear f6 e1 e2 e3 e4 e5 e6 e7 e8 e9 e10
  subst e0

  refine ⟨?_, ?_, ?_, ?_, ?_⟩
  · assumption
  · assumption
  · omega
  · assumption
  · exact .inr ⟨by omega, by omega, by omega, by first | rfl | assumption, by first | rfl | assumption, by first | rfl | assumption⟩
def g_255v_s_1 : vG := ([(0, [5], [], -1), (30, [4], [], 0), (1250, [4, 0, 1], [0, 1], 0), (90, [4], [], 0), (91, [4], [], 1), (41, [2, 3], [], 0), (0, [3], [], 20), (20, [2, 0], [0], 64), (90, [2], [], 0), (91, [2], [], 20), (6000, [0, 1], [0], 0), (0, [0], [], 285), (90, [1], [], -2147483648), (91, [1], [], 2147483647)], (3000, [5], [1], 40))
theorem c_255v_s_1 : vOkm T0 (eP e_255v L_255v A_255v mu_255v none) 2 g_255v_s_1 := vOk_in fun ρ η h => by
  obtain ⟨f0, f1, f2, f3, f4, f5, f6, f7, f8, f9, f10, f11, f12, f13, _⟩ := h
  exact q_255v_1 (n0 := ρ 1) (n1 := ρ 0) (n2 := ρ 2) (n3 := ρ 3) (n4 := ρ 4) (n5 := ρ 5) (H0 := η 0) (H1 := η 1) f13 f12 f11 f10 f9 f8 f7 f6 f5 f4 f3 f2 f1 f0
theorem q_255v_2 {n0 n1 n2 n3 n4 : Int} {H0 H1 : gH} (f0 : n0 ≤ 2147483647) (f1 : (-2147483648) ≤ n0) (f2 : n1 = 285) (f3 : hWt T0 H0 ∧ preb_255v n1 n0 H0) (f4 : n2 ≤ 20) (f5 : 0 ≤ n2) (f6 : n2 = hV H0 (n1).toNat 64) (f7 : n3 = 20) (f8 : n2 ≠ n3) (f9 : n4 ≤ 1) (f10 : 0 ≤ n4) (f11 : (hLe T0 H0 H1 ∧ hFr s_250.2.2.2.2 H0 H1 ∧ ((0 : Int) = 0 → H1.length = H0.length) ∧ hWt T0 H1) ∧ postb_250 n4 n1 n0 H0 H1) (f12 : n4 ≠ 0) : 0 ≤ n0 ∧ n0 < 20 := by
  unfold preb_255v at f3
  unfold postb_250 at f11
  have e0 : n2 = hV H0 285 64 := (by rw [f2] at f6; exact f6 : n2 = hV H0 285 64)
  have e1 : hV H1 285 64 = hV H0 285 64 := f11.1.2.1.1 285 64 (by decide +kernel)
  have e2 : hV H1 285 64 = hV H0 285 64 := e1
  have e3 : (0 : Int) ≤ hV H0 285 65 ∧ hV H0 285 65 ≤ 2147483647 := f3.1 285 65 _ _ (by decide +kernel)
  have e4 : (0 : Int) ≤ hV H1 285 64 ∧ hV H1 285 64 ≤ 20 := f11.1.2.2.2 285 64 _ _ (by decide +kernel)
  have e5 : (0 : Int) ≤ hV H0 285 64 ∧ hV H0 285 64 ≤ 20 := f3.1 285 64 _ _ (by decide +kernel)
  try simp only [e2] at f3
  try simp only [e2] at f11
  try simp only [e2] at e3
  try simp only [e2] at e4
  try simp only [e2] at e5
  try simp only [e2]
  have p0 := f3.2.1
  have p1 := f3.2.2.1
  have p2 := f3.2.2.2.1
  have p3 := f3.2.2.2.2
  have r0_0 := f11.2
  try simp only [e2] at p0
  try simp only [e2] at p1
  try simp only [e2] at p2
  try simp only [e2] at p3
  try simp only [e2] at r0_0
  clear f6 e1 e2
  subst e0
  omega
def g_255v_s_2 : vG := ([(31, [4], [], 0), (1250, [4, 0, 1], [0, 1], 0), (90, [4], [], 0), (91, [4], [], 1), (41, [2, 3], [], 0), (0, [3], [], 20), (20, [2, 0], [0], 64), (90, [2], [], 0), (91, [2], [], 20), (6000, [0, 1], [0], 0), (0, [0], [], 285), (90, [1], [], -2147483648), (91, [1], [], 2147483647)], (70, [1], [], 20))
theorem c_255v_s_2 : vOkm T0 (eP e_255v L_255v A_255v mu_255v none) 2 g_255v_s_2 := vOk_in fun ρ η h => by
  obtain ⟨f0, f1, f2, f3, f4, f5, f6, f7, f8, f9, f10, f11, f12, _⟩ := h
  exact q_255v_2 (n0 := ρ 1) (n1 := ρ 0) (n2 := ρ 2) (n3 := ρ 3) (n4 := ρ 4) (H0 := η 0) (H1 := η 1) f12 f11 f10 f9 f8 f7 f6 f5 f4 f3 f2 f1 f0
theorem q_255v_3 {n0 n1 n2 n3 n4 n5 n6 n7 : Int} {H0 H1 : gH} (f0 : n0 ≤ 2147483647) (f1 : (-2147483648) ≤ n0) (f2 : n1 = 285) (f3 : hWt T0 H0 ∧ preb_255v n1 n0 H0) (f4 : n2 ≤ 20) (f5 : 0 ≤ n2) (f6 : n2 = hV H0 (n1).toNat 64) (f7 : n3 = 20) (f8 : n2 ≠ n3) (f9 : n4 ≤ 1) (f10 : 0 ≤ n4) (f11 : (hLe T0 H0 H1 ∧ hFr s_250.2.2.2.2 H0 H1 ∧ ((0 : Int) = 0 → H1.length = H0.length) ∧ hWt T0 H1) ∧ postb_250 n4 n1 n0 H0 H1) (f12 : n4 ≠ 0) (f13 : n5 = 328) (f14 : n5 = hV H1 (n1).toNat 66) (f15 : n6 ≤ 6) (f16 : 0 ≤ n6) (f17 : n6 = hV H1 (n5).toNat (n0).toNat) (f18 : n7 = 2) (f19 : n6 = n7) : (-1) ≤ n0 := by
  unfold preb_255v at f3
  unfold postb_250 at f11
  have e0 : n2 = hV H0 285 64 := (by rw [f2] at f6; exact f6 : n2 = hV H0 285 64)
  have e1 : hV H1 328 = hV H0 328 := fRow f11.1.2.1 328 (by decide +kernel)
  have e2 : n6 = hV H0 328 (n0).toNat := (by rw [f13] at f17; exact f17 : n6 = hV H1 328 (n0).toNat).trans ((congrFun e1 _))
  have e3 : hV H1 285 64 = hV H0 285 64 := f11.1.2.1.1 285 64 (by decide +kernel)
  have e4 : hV H1 285 64 = hV H0 285 64 := e3
  have e5 : (0 : Int) ≤ hV H0 285 65 ∧ hV H0 285 65 ≤ 2147483647 := f3.1 285 65 _ _ (by decide +kernel)
  have e6 : (0 : Int) ≤ hV H1 285 64 ∧ hV H1 285 64 ≤ 20 := f11.1.2.2.2 285 64 _ _ (by decide +kernel)
  have e7 : (0 : Int) ≤ hV H0 285 64 ∧ hV H0 285 64 ≤ 20 := f3.1 285 64 _ _ (by decide +kernel)
  try simp only [e4] at f3
  try simp only [e4] at f11
  try simp only [e4] at e5
  try simp only [e4] at e6
  try simp only [e4] at e7
  try simp only [e4]
  have p0 := f3.2.1
  have p1 := f3.2.2.1
  have p2 := f3.2.2.2.1
  have p3 := f3.2.2.2.2
  have r0_0 := f11.2
  try simp only [e4] at p0
  try simp only [e4] at p1
  try simp only [e4] at p2
  try simp only [e4] at p3
  try simp only [e4] at r0_0
  clear f6 f14 f17 e1 e3 e4
  subst e0
  subst e2
  omega
def g_255v_s_3 : vG := ([(40, [6, 7], [], 0), (0, [7], [], 2), (22, [6, 5, 1], [1], 0), (90, [6], [], 0), (91, [6], [], 6), (20, [5, 0], [1], 66), (0, [5], [], 328), (31, [4], [], 0), (1250, [4, 0, 1], [0, 1], 0), (90, [4], [], 0), (91, [4], [], 1), (41, [2, 3], [], 0), (0, [3], [], 20), (20, [2, 0], [0], 64), (90, [2], [], 0), (91, [2], [], 20), (6000, [0, 1], [0], 0), (0, [0], [], 285), (90, [1], [], -2147483648), (91, [1], [], 2147483647)], (90, [1], [], -1))
theorem c_255v_s_3 : vOkm T0 (eP e_255v L_255v A_255v mu_255v none) 2 g_255v_s_3 := vOk_in fun ρ η h => by
  obtain ⟨f0, f1, f2, f3, f4, f5, f6, f7, f8, f9, f10, f11, f12, f13, f14, f15, f16, f17, f18, f19, _⟩ := h
  exact q_255v_3 (n0 := ρ 1) (n1 := ρ 0) (n2 := ρ 2) (n3 := ρ 3) (n4 := ρ 4) (n5 := ρ 5) (n6 := ρ 6) (n7 := ρ 7) (H0 := η 0) (H1 := η 1) f19 f18 f17 f16 f15 f14 f13 f12 f11 f10 f9 f8 f7 f6 f5 f4 f3 f2 f1 f0
theorem q_255v_4 {n0 n1 n2 n3 n4 n5 n6 n7 : Int} {H0 H1 : gH} (f0 : n0 ≤ 2147483647) (f1 : (-2147483648) ≤ n0) (f2 : n1 = 285) (f3 : hWt T0 H0 ∧ preb_255v n1 n0 H0) (f4 : n2 ≤ 20) (f5 : 0 ≤ n2) (f6 : n2 = hV H0 (n1).toNat 64) (f7 : n3 = 20) (f8 : n2 ≠ n3) (f9 : n4 ≤ 1) (f10 : 0 ≤ n4) (f11 : (hLe T0 H0 H1 ∧ hFr s_250.2.2.2.2 H0 H1 ∧ ((0 : Int) = 0 → H1.length = H0.length) ∧ hWt T0 H1) ∧ postb_250 n4 n1 n0 H0 H1) (f12 : n4 ≠ 0) (f13 : n5 = 328) (f14 : n5 = hV H1 (n1).toNat 66) (f15 : n6 ≤ 6) (f16 : 0 ≤ n6) (f17 : n6 = hV H1 (n5).toNat (n0).toNat) (f18 : n7 = 2) (f19 : n6 = n7) : n0 ≤ 19 := by
  unfold preb_255v at f3
  unfold postb_250 at f11
  have e0 : n2 = hV H0 285 64 := (by rw [f2] at f6; exact f6 : n2 = hV H0 285 64)
  have e1 : hV H1 328 = hV H0 328 := fRow f11.1.2.1 328 (by decide +kernel)
  have e2 : n6 = hV H0 328 (n0).toNat := (by rw [f13] at f17; exact f17 : n6 = hV H1 328 (n0).toNat).trans ((congrFun e1 _))
  have e3 : hV H1 285 64 = hV H0 285 64 := f11.1.2.1.1 285 64 (by decide +kernel)
  have e4 : hV H1 285 64 = hV H0 285 64 := e3
  have e5 : (0 : Int) ≤ hV H0 285 65 ∧ hV H0 285 65 ≤ 2147483647 := f3.1 285 65 _ _ (by decide +kernel)
  have e6 : (0 : Int) ≤ hV H1 285 64 ∧ hV H1 285 64 ≤ 20 := f11.1.2.2.2 285 64 _ _ (by decide +kernel)
  have e7 : (0 : Int) ≤ hV H0 285 64 ∧ hV H0 285 64 ≤ 20 := f3.1 285 64 _ _ (by decide +kernel)
  try simp only [e4] at f3
  try simp only [e4] at f11
  try simp only [e4] at e5
  try simp only [e4] at e6
  try simp only [e4] at e7
  try simp only [e4]
  have p0 := f3.2.1
  have p1 := f3.2.2.1
  have p2 := f3.2.2.2.1
  have p3 := f3.2.2.2.2
  have r0_0 := f11.2
  try simp only [e4] at p0
  try simp only [e4] at p1
  try simp only [e4] at p2
  try simp only [e4] at p3
  try simp only [e4] at r0_0
  clear f6 f14 f17 e1 e3 e4
  subst e0
  subst e2
  omega
def g_255v_s_4 : vG := ([(40, [6, 7], [], 0), (0, [7], [], 2), (22, [6, 5, 1], [1], 0), (90, [6], [], 0), (91, [6], [], 6), (20, [5, 0], [1], 66), (0, [5], [], 328), (31, [4], [], 0), (1250, [4, 0, 1], [0, 1], 0), (90, [4], [], 0), (91, [4], [], 1), (41, [2, 3], [], 0), (0, [3], [], 20), (20, [2, 0], [0], 64), (90, [2], [], 0), (91, [2], [], 20), (6000, [0, 1], [0], 0), (0, [0], [], 285), (90, [1], [], -2147483648), (91, [1], [], 2147483647)], (91, [1], [], 19))
theorem c_255v_s_4 : vOkm T0 (eP e_255v L_255v A_255v mu_255v none) 2 g_255v_s_4 := vOk_in fun ρ η h => by
  obtain ⟨f0, f1, f2, f3, f4, f5, f6, f7, f8, f9, f10, f11, f12, f13, f14, f15, f16, f17, f18, f19, _⟩ := h
  exact q_255v_4 (n0 := ρ 1) (n1 := ρ 0) (n2 := ρ 2) (n3 := ρ 3) (n4 := ρ 4) (n5 := ρ 5) (n6 := ρ 6) (n7 := ρ 7) (H0 := η 0) (H1 := η 1) f19 f18 f17 f16 f15 f14 f13 f12 f11 f10 f9 f8 f7 f6 f5 f4 f3 f2 f1 f0
theorem q_255v_5 {n0 n1 n2 n3 n4 n5 n6 n7 n8 n9 n10 n11 : Int} {H0 H1 : gH} (f0 : n0 ≤ 2147483647) (f1 : (-2147483648) ≤ n0) (f2 : n1 = 285) (f3 : hWt T0 H0 ∧ preb_255v n1 n0 H0) (f4 : n2 ≤ 20) (f5 : 0 ≤ n2) (f6 : n2 = hV H0 (n1).toNat 64) (f7 : n3 = 20) (f8 : n2 ≠ n3) (f9 : n4 ≤ 1) (f10 : 0 ≤ n4) (f11 : (hLe T0 H0 H1 ∧ hFr s_250.2.2.2.2 H0 H1 ∧ ((0 : Int) = 0 → H1.length = H0.length) ∧ hWt T0 H1) ∧ postb_250 n4 n1 n0 H0 H1) (f12 : n4 ≠ 0) (f13 : n5 = 328) (f14 : n5 = hV H1 (n1).toNat 66) (f15 : n6 ≤ 6) (f16 : 0 ≤ n6) (f17 : n6 = hV H1 (n5).toNat (n0).toNat) (f18 : n7 = 2) (f19 : n6 = n7) (f20 : n8 = 5) (f21 : n9 = 0) (f22 : n10 = 0) (f23 : n11 = 0) : preb_252v n1 n8 n9 n10 n11 n0 H1 := by
  unfold preb_255v at f3
  unfold postb_250 at f11
  unfold preb_252v
  have e0 : n2 = hV H0 285 64 := (by rw [f2] at f6; exact f6 : n2 = hV H0 285 64)
  have e1 : hV H1 328 = hV H0 328 := fRow f11.1.2.1 328 (by decide +kernel)
  have e2 : n6 = hV H0 328 (n0).toNat := (by rw [f13] at f17; exact f17 : n6 = hV H1 328 (n0).toNat).trans ((congrFun e1 _))
  have e3 : hV H1 285 64 = hV H0 285 64 := f11.1.2.1.1 285 64 (by decide +kernel)
  have e4 : hV H1 285 64 = hV H0 285 64 := e3
  have e5 : hV H1 285 65 = hV H0 285 65 := f11.1.2.1.1 285 65 (by decide +kernel)
  have e6 : hV H1 285 65 = hV H0 285 65 := e5
  have e7 : AC H1 = AC H0 := AC_fr f11.1.2.1 (by decide +kernel)
  have e8 : SO H1 = SO H0 := SO_fr f11.1.2.1 (by decide +kernel)
  have e9 : SS H1 = SS H0 := SS_fr f11.1.2.1 (by decide +kernel)
  have e10 : (0 : Int) ≤ hV H0 285 65 ∧ hV H0 285 65 ≤ 2147483647 := f3.1 285 65 _ _ (by decide +kernel)
  have e11 : (0 : Int) ≤ hV H1 285 64 ∧ hV H1 285 64 ≤ 20 := f11.1.2.2.2 285 64 _ _ (by decide +kernel)
  have e12 : (0 : Int) ≤ hV H0 285 64 ∧ hV H0 285 64 ≤ 20 := f3.1 285 64 _ _ (by decide +kernel)
  have e13 : (0 : Int) ≤ hV H1 285 65 ∧ hV H1 285 65 ≤ 2147483647 := f11.1.2.2.2 285 65 _ _ (by decide +kernel)
  try simp only [e4, e6, e7, e8, e9] at f3
  try simp only [e4, e6, e7, e8, e9] at f11
  try simp only [e4, e6, e7, e8, e9] at e10
  try simp only [e4, e6, e7, e8, e9] at e11
  try simp only [e4, e6, e7, e8, e9] at e12
  try simp only [e4, e6, e7, e8, e9] at e13
  try simp only [e4, e6, e7, e8, e9]
  have p0 := f3.2.1
  have p1 := f3.2.2.1
  have p2 := f3.2.2.2.1
  have p3 := f3.2.2.2.2
  have r0_0 := f11.2
  try simp only [e4, e6, e7, e8, e9] at p0
  try simp only [e4, e6, e7, e8, e9] at p1
  try simp only [e4, e6, e7, e8, e9] at p2
  try simp only [e4, e6, e7, e8, e9] at p3
  try simp only [e4, e6, e7, e8, e9] at r0_0
  clear f6 f14 f17 e1 e3 e4 e5 e6 e7 e8 e9
  subst e0
  subst e2
  refine ⟨?_, ?_, ?_, ?_, ?_, ?_, ?_, ?_⟩ <;> first | assumption | omega | trivial
def g_255v_s_5 : vG := ([(0, [11], [], 0), (0, [10], [], 0), (0, [9], [], 0), (0, [8], [], 5), (40, [6, 7], [], 0), (0, [7], [], 2), (22, [6, 5, 1], [1], 0), (90, [6], [], 0), (91, [6], [], 6), (20, [5, 0], [1], 66), (0, [5], [], 328), (31, [4], [], 0), (1250, [4, 0, 1], [0, 1], 0), (90, [4], [], 0), (91, [4], [], 1), (41, [2, 3], [], 0), (0, [3], [], 20), (20, [2, 0], [0], 64), (90, [2], [], 0), (91, [2], [], 20), (6000, [0, 1], [0], 0), (0, [0], [], 285), (90, [1], [], -2147483648), (91, [1], [], 2147483647)], (2252, [0, 8, 9, 10, 11, 1], [1], 0))
theorem c_255v_s_5 : vOkm T0 (eP e_255v L_255v A_255v mu_255v none) 2 g_255v_s_5 := vOk_in fun ρ η h => by
  obtain ⟨f0, f1, f2, f3, f4, f5, f6, f7, f8, f9, f10, f11, f12, f13, f14, f15, f16, f17, f18, f19, f20, f21, f22, f23, _⟩ := h
  exact q_255v_5 (n0 := ρ 1) (n1 := ρ 0) (n2 := ρ 2) (n3 := ρ 3) (n4 := ρ 4) (n5 := ρ 5) (n6 := ρ 6) (n7 := ρ 7) (n8 := ρ 8) (n9 := ρ 9) (n10 := ρ 10) (n11 := ρ 11) (H0 := η 0) (H1 := η 1) f23 f22 f21 f20 f19 f18 f17 f16 f15 f14 f13 f12 f11 f10 f9 f8 f7 f6 f5 f4 f3 f2 f1 f0
theorem q_255v_6 {n0 n1 n2 n3 n4 n5 n6 n7 n8 n9 n10 n11 n12 : Int} {H0 H1 H2 : gH} (f0 : n0 ≤ 2147483647) (f1 : (-2147483648) ≤ n0) (f2 : n1 = 285) (f3 : hWt T0 H0 ∧ preb_255v n1 n0 H0) (f4 : n2 ≤ 20) (f5 : 0 ≤ n2) (f6 : n2 = hV H0 (n1).toNat 64) (f7 : n3 = 20) (f8 : n2 ≠ n3) (f9 : n4 ≤ 1) (f10 : 0 ≤ n4) (f11 : (hLe T0 H0 H1 ∧ hFr s_250.2.2.2.2 H0 H1 ∧ ((0 : Int) = 0 → H1.length = H0.length) ∧ hWt T0 H1) ∧ postb_250 n4 n1 n0 H0 H1) (f12 : n4 ≠ 0) (f13 : n5 = 328) (f14 : n5 = hV H1 (n1).toNat 66) (f15 : n6 ≤ 6) (f16 : 0 ≤ n6) (f17 : n6 = hV H1 (n5).toNat (n0).toNat) (f18 : n7 = 2) (f19 : n6 = n7) (f20 : n8 = 5) (f21 : n9 = 0) (f22 : n10 = 0) (f23 : n11 = 0) (f24 : n12 ≤ 2147483647) (f25 : (-2147483648) ≤ n12) (f26 : (hLe T0 H1 H2 ∧ hFr s_252v.2.2.2.2 H1 H2 ∧ ((0 : Int) = 0 → H2.length = H1.length) ∧ hWt T0 H2) ∧ postb_252v n12 n1 n8 n9 n10 n11 n0 H1 H2) : postb_255v n12 n1 n0 H0 H2 := by
  unfold preb_255v at f3
  unfold postb_250 at f11
  unfold postb_252v at f26
  unfold postb_255v
  have e0 : n2 = hV H0 285 64 := (by rw [f2] at f6; exact f6 : n2 = hV H0 285 64)
  have e1 : hV H1 328 = hV H0 328 := fRow f11.1.2.1 328 (by decide +kernel)
  have e2 : n6 = hV H0 328 (n0).toNat := (by rw [f13] at f17; exact f17 : n6 = hV H1 328 (n0).toNat).trans ((congrFun e1 _))
  have e3 : hV H1 285 64 = hV H0 285 64 := f11.1.2.1.1 285 64 (by decide +kernel)
  have e4 : hV H1 285 64 = hV H0 285 64 := e3
  have e5 : hV H1 285 65 = hV H0 285 65 := f11.1.2.1.1 285 65 (by decide +kernel)
  have e6 : hV H1 285 65 = hV H0 285 65 := e5
  have e7 : hV H1 329 = hV H0 329 := fRow f11.1.2.1 329 (by decide +kernel)
  have e8 : hV H1 338 = hV H0 338 := fRow f11.1.2.1 338 (by decide +kernel)
  have e9 : (0 : Int) ≤ hV H0 285 64 ∧ hV H0 285 64 ≤ 20 := f3.1 285 64 _ _ (by decide +kernel)
  have e10 : (0 : Int) ≤ hV H0 285 65 ∧ hV H0 285 65 ≤ 2147483647 := f3.1 285 65 _ _ (by decide +kernel)
  have e11 : (0 : Int) ≤ hV H1 285 64 ∧ hV H1 285 64 ≤ 20 := f11.1.2.2.2 285 64 _ _ (by decide +kernel)
  have e12 : (0 : Int) ≤ hV H1 285 65 ∧ hV H1 285 65 ≤ 2147483647 := f11.1.2.2.2 285 65 _ _ (by decide +kernel)
  have e13 : (0 : Int) ≤ hV H2 285 64 ∧ hV H2 285 64 ≤ 20 := f26.1.2.2.2 285 64 _ _ (by decide +kernel)
  have e14 : (0 : Int) ≤ hV H2 285 65 ∧ hV H2 285 65 ≤ 2147483647 := f26.1.2.2.2 285 65 _ _ (by decide +kernel)
  try simp only [e4, e6, e1, e7, e8] at f3
  try simp only [e4, e6, e1, e7, e8] at f11
  try simp only [e4, e6, e1, e7, e8] at f26
  try simp only [e4, e6, e1, e7, e8] at e9
  try simp only [e4, e6, e1, e7, e8] at e10
  try simp only [e4, e6, e1, e7, e8] at e11
  try simp only [e4, e6, e1, e7, e8] at e12
  try simp only [e4, e6, e1, e7, e8] at e13
  try simp only [e4, e6, e1, e7, e8] at e14
  try simp only [e4, e6, e1, e7, e8]
  have p0 := f3.2.1
  have p1 := f3.2.2.1
  have p2 := f3.2.2.2.1
  have p3 := f3.2.2.2.2
  have r0_0 := f11.2
  have r1_0 := f26.2.1
  have r1_1 := f26.2.2.1
  have r1_2 := f26.2.2.2.1
  have r1_3 := f26.2.2.2.2.1
  have r1_4 := f26.2.2.2.2.2.1
  have r1_5 := f26.2.2.2.2.2.2.1
  have r1_6 := f26.2.2.2.2.2.2.2.1
  have r1_7 := f26.2.2.2.2.2.2.2.2.1
  have r1_8 := f26.2.2.2.2.2.2.2.2.2
  try simp only [e4, e6, e1, e7, e8] at p0
  try simp only [e4, e6, e1, e7, e8] at p1
  try simp only [e4, e6, e1, e7, e8] at p2
  try simp only [e4, e6, e1, e7, e8] at p3
  try simp only [e4, e6, e1, e7, e8] at r0_0
  try simp only [e4, e6, e1, e7, e8] at r1_0
  try simp only [e4, e6, e1, e7, e8] at r1_1
  try simp only [e4, e6, e1, e7, e8] at r1_2
  try simp only [e4, e6, e1, e7, e8] at r1_3
  try simp only [e4, e6, e1, e7, e8] at r1_4
  try simp only [e4, e6, e1, e7, e8] at r1_5
  try simp only [e4, e6, e1, e7, e8] at r1_6
  try simp only [e4, e6, e1, e7, e8] at r1_7
  try simp only [e4, e6, e1, e7, e8] at r1_8
  clear f6 f14 f17 e1 e3 e4 e5 e6 e7 e8
  subst e0
  subst e2

  refine ⟨?_, ?_, ?_, ?_, ?_⟩
  · exact r1_0
  · exact r1_1
  · omega
  · exact r1_2
  · have kd := r1_6
    have mo := r1_7
    have ma := r1_8
    try rw [f20] at kd
    try rw [f21] at ma
    exact .inl ⟨by omega, by omega, by omega, by omega, kd, mo, ma⟩
def g_255v_s_6 : vG := ([(1252, [12, 0, 8, 9, 10, 11, 1], [1, 2], 0), (90, [12], [], -2147483648), (91, [12], [], 2147483647), (0, [11], [], 0), (0, [10], [], 0), (0, [9], [], 0), (0, [8], [], 5), (40, [6, 7], [], 0), (0, [7], [], 2), (22, [6, 5, 1], [1], 0), (90, [6], [], 0), (91, [6], [], 6), (20, [5, 0], [1], 66), (0, [5], [], 328), (31, [4], [], 0), (1250, [4, 0, 1], [0, 1], 0), (90, [4], [], 0), (91, [4], [], 1), (41, [2, 3], [], 0), (0, [3], [], 20), (20, [2, 0], [0], 64), (90, [2], [], 0), (91, [2], [], 20), (6000, [0, 1], [0], 0), (0, [0], [], 285), (90, [1], [], -2147483648), (91, [1], [], 2147483647)], (3000, [12], [2], 40))
theorem c_255v_s_6 : vOkm T0 (eP e_255v L_255v A_255v mu_255v none) 2 g_255v_s_6 := vOk_in fun ρ η h => by
  obtain ⟨f0, f1, f2, f3, f4, f5, f6, f7, f8, f9, f10, f11, f12, f13, f14, f15, f16, f17, f18, f19, f20, f21, f22, f23, f24, f25, f26, _⟩ := h
  exact q_255v_6 (n0 := ρ 1) (n1 := ρ 0) (n2 := ρ 2) (n3 := ρ 3) (n4 := ρ 4) (n5 := ρ 5) (n6 := ρ 6) (n7 := ρ 7) (n8 := ρ 8) (n9 := ρ 9) (n10 := ρ 10) (n11 := ρ 11) (n12 := ρ 12) (H0 := η 0) (H1 := η 1) (H2 := η 2) f26 f25 f24 f23 f22 f21 f20 f19 f18 f17 f16 f15 f14 f13 f12 f11 f10 f9 f8 f7 f6 f5 f4 f3 f2 f1 f0
theorem q_255v_7 {n0 n1 n2 n3 n4 n5 n6 n7 n8 : Int} {H0 H1 : gH} (f0 : n0 ≤ 2147483647) (f1 : (-2147483648) ≤ n0) (f2 : n1 = 285) (f3 : hWt T0 H0 ∧ preb_255v n1 n0 H0) (f4 : n2 ≤ 20) (f5 : 0 ≤ n2) (f6 : n2 = hV H0 (n1).toNat 64) (f7 : n3 = 20) (f8 : n2 ≠ n3) (f9 : n4 ≤ 1) (f10 : 0 ≤ n4) (f11 : (hLe T0 H0 H1 ∧ hFr s_250.2.2.2.2 H0 H1 ∧ ((0 : Int) = 0 → H1.length = H0.length) ∧ hWt T0 H1) ∧ postb_250 n4 n1 n0 H0 H1) (f12 : n4 ≠ 0) (f13 : n5 = 328) (f14 : n5 = hV H1 (n1).toNat 66) (f15 : n6 ≤ 6) (f16 : 0 ≤ n6) (f17 : n6 = hV H1 (n5).toNat (n0).toNat) (f18 : n7 = 2) (f19 : n6 ≠ n7) (f20 : n8 = (-1)) : postb_255v n8 n1 n0 H0 H1 := by
  unfold preb_255v at f3
  unfold postb_250 at f11
  unfold postb_255v
  have e0 : n2 = hV H0 285 64 := (by rw [f2] at f6; exact f6 : n2 = hV H0 285 64)
  have e1 : hV H1 328 = hV H0 328 := fRow f11.1.2.1 328 (by decide +kernel)
  have e2 : n6 = hV H0 328 (n0).toNat := (by rw [f13] at f17; exact f17 : n6 = hV H1 328 (n0).toNat).trans ((congrFun e1 _))
  have e3 : hV H1 285 64 = hV H0 285 64 := f11.1.2.1.1 285 64 (by decide +kernel)
  have e4 : hV H1 285 64 = hV H0 285 64 := e3
  have e5 : hV H1 285 65 = hV H0 285 65 := f11.1.2.1.1 285 65 (by decide +kernel)
  have e6 : hV H1 285 65 = hV H0 285 65 := e5
  have e7 : hV H1 329 = hV H0 329 := fRow f11.1.2.1 329 (by decide +kernel)
  have e8 : hV H1 338 = hV H0 338 := fRow f11.1.2.1 338 (by decide +kernel)
  have e9 : AC H1 = AC H0 := AC_fr f11.1.2.1 (by decide +kernel)
  have e10 : SO H1 = SO H0 := SO_fr f11.1.2.1 (by decide +kernel)
  have e11 : SS H1 = SS H0 := SS_fr f11.1.2.1 (by decide +kernel)
  have e12 : (0 : Int) ≤ hV H0 285 64 ∧ hV H0 285 64 ≤ 20 := f3.1 285 64 _ _ (by decide +kernel)
  have e13 : (0 : Int) ≤ hV H0 285 65 ∧ hV H0 285 65 ≤ 2147483647 := f3.1 285 65 _ _ (by decide +kernel)
  have e14 : (0 : Int) ≤ hV H1 285 64 ∧ hV H1 285 64 ≤ 20 := f11.1.2.2.2 285 64 _ _ (by decide +kernel)
  have e15 : (0 : Int) ≤ hV H1 285 65 ∧ hV H1 285 65 ≤ 2147483647 := f11.1.2.2.2 285 65 _ _ (by decide +kernel)
  try simp only [e4, e6, e1, e7, e8, e9, e10, e11] at f3
  try simp only [e4, e6, e1, e7, e8, e9, e10, e11] at f11
  try simp only [e4, e6, e1, e7, e8, e9, e10, e11] at e12
  try simp only [e4, e6, e1, e7, e8, e9, e10, e11] at e13
  try simp only [e4, e6, e1, e7, e8, e9, e10, e11] at e14
  try simp only [e4, e6, e1, e7, e8, e9, e10, e11] at e15
  try simp only [e4, e6, e1, e7, e8, e9, e10, e11]
  have p0 := f3.2.1
  have p1 := f3.2.2.1
  have p2 := f3.2.2.2.1
  have p3 := f3.2.2.2.2
  have r0_0 := f11.2
  try simp only [e4, e6, e1, e7, e8, e9, e10, e11] at p0
  try simp only [e4, e6, e1, e7, e8, e9, e10, e11] at p1
  try simp only [e4, e6, e1, e7, e8, e9, e10, e11] at p2
  try simp only [e4, e6, e1, e7, e8, e9, e10, e11] at p3
  try simp only [e4, e6, e1, e7, e8, e9, e10, e11] at r0_0
  clear f6 f14 f17 e1 e3 e4 e5 e6 e7 e8 e9 e10 e11
  subst e0
  subst e2

  refine ⟨?_, ?_, ?_, ?_, ?_⟩
  · assumption
  · assumption
  · omega
  · assumption
  · exact .inr ⟨by omega, by omega, by omega, by first | rfl | assumption, by first | rfl | assumption, by first | rfl | assumption⟩
def g_255v_s_7 : vG := ([(0, [8], [], -1), (41, [6, 7], [], 0), (0, [7], [], 2), (22, [6, 5, 1], [1], 0), (90, [6], [], 0), (91, [6], [], 6), (20, [5, 0], [1], 66), (0, [5], [], 328), (31, [4], [], 0), (1250, [4, 0, 1], [0, 1], 0), (90, [4], [], 0), (91, [4], [], 1), (41, [2, 3], [], 0), (0, [3], [], 20), (20, [2, 0], [0], 64), (90, [2], [], 0), (91, [2], [], 20), (6000, [0, 1], [0], 0), (0, [0], [], 285), (90, [1], [], -2147483648), (91, [1], [], 2147483647)], (3000, [8], [1], 40))
theorem c_255v_s_7 : vOkm T0 (eP e_255v L_255v A_255v mu_255v none) 2 g_255v_s_7 := vOk_in fun ρ η h => by
  obtain ⟨f0, f1, f2, f3, f4, f5, f6, f7, f8, f9, f10, f11, f12, f13, f14, f15, f16, f17, f18, f19, f20, _⟩ := h
  exact q_255v_7 (n0 := ρ 1) (n1 := ρ 0) (n2 := ρ 2) (n3 := ρ 3) (n4 := ρ 4) (n5 := ρ 5) (n6 := ρ 6) (n7 := ρ 7) (n8 := ρ 8) (H0 := η 0) (H1 := η 1) f20 f19 f18 f17 f16 f15 f14 f13 f12 f11 f10 f9 f8 f7 f6 f5 f4 f3 f2 f1 f0
def p_255v_s : List vG := [g_255v_s_0,
  g_255v_s_1,
  g_255v_s_2,
  g_255v_s_3,
  g_255v_s_4,
  g_255v_s_5,
  g_255v_s_6,
  g_255v_s_7]
theorem r_255v_s : vCovO false (eR0 e_255v L_255v cs_255v 2000) p_255v_s = true := by decide +kernel
theorem m_255v (d : Nat) : eC e_255v (d + 2) := eC_ok (e := e_255v) (L := L_255v) (cs := cs_255v) (n := 2000) (d := d + 1) (A := A_255v) (μ := mu_255v) (tp := false) (p0 := p_255v_s) rfl ⟨m_250 d, ⟨m_252v d, trivial⟩⟩ rfl (.inl rfl) (by decide +kernel) (fun z => nomatch z) r_255v_s (allC c_255v_s_0 (allC c_255v_s_1 (allC c_255v_s_2 (allC c_255v_s_3 (allC c_255v_s_4 (allC c_255v_s_5 (allC c_255v_s_6 (allC c_255v_s_7 allN)))))))) allN
/- MixStageModel.mixed ()I -/
noncomputable def s_256v : vM := ([(3, 12, 285, 0)], (0, -2147483648, 2147483647, 0), 1, 0, [(12, 64), (12, 65), (452, 0), (460, 0), (468, 0), (476, 0), (484, 0), (492, 0), (500, 0), (508, 0), (516, 0), (532, 0)])
def preb_256v (a0 : Int) (h : gH) : Prop := hV h 285 65 ≤ 20000 ∧ SO h ∧ SS h ∧ AC h
def pre_256v : List Int → gH → Prop := fun xs h => match xs with
  | [a0] => preb_256v a0 h
  | _ => False
def postb_256v (r a0 : Int) (h0 h : gH) : Prop := SO h ∧ SS h ∧ hV h 285 65 ≤ hV h0 285 65 + 1 ∧ AC h ∧ ((True ∧ hV h0 285 64 ≤ 19 ∧ ADDm r 6 0 (hV h0 285 64) (hV h 285 64) (hV h0 328) (hV h0 338) (hV h0 329) (hV h 328) (hV h 338) (hV h 329)) ∨ (¬ (True ∧ hV h0 285 64 ≤ 19) ∧ r = -1 ∧ SAMm (hV h0 285 64) (hV h 285 64) (hV h0 328) (hV h0 338) (hV h0 329) (hV h 328) (hV h 338) (hV h 329)))
def post_256v : List Int → gH → gH → Prop := fun xs h0 h => match xs with
  | [r, a0] => postb_256v r a0 h0 h
  | _ => True
noncomputable def e_256v : vE := (256, s_256v, pre_256v, post_256v)
noncomputable def L_256v : List vE := [e_252v]
def cs_256v : List vC := []
def A_256v : Int → List Int → gH → gH → Prop := fun c xs h0 h => True
def mu_256v : Int → List Int → gH → gH → Nat := fun c xs h0 h => 0
theorem q_256v_0 {n0 n1 n2 n3 n4 n5 n6 n7 : Int} {H0 : gH} (f0 : n0 = 285) (f1 : hWt T0 H0 ∧ preb_256v n0 H0) (f2 : n1 ≤ 20) (f3 : 0 ≤ n1) (f4 : n1 = hV H0 (n0).toNat 64) (f5 : n2 = 20) (f6 : n1 ≠ n2) (f7 : n3 = 6) (f8 : n4 = 0) (f9 : n5 = 0) (f10 : n6 = 0) (f11 : n7 = (-1)) : preb_252v n0 n3 n4 n5 n6 n7 H0 := by
  unfold preb_256v at f1
  unfold preb_252v
  have e0 : n1 = hV H0 285 64 := (by rw [f0] at f4; exact f4 : n1 = hV H0 285 64)
  have e1 : (0 : Int) ≤ hV H0 285 64 ∧ hV H0 285 64 ≤ 20 := f1.1 285 64 _ _ (by decide +kernel)
  have e2 : (0 : Int) ≤ hV H0 285 65 ∧ hV H0 285 65 ≤ 2147483647 := f1.1 285 65 _ _ (by decide +kernel)
  have p0 := f1.2.1
  have p1 := f1.2.2.1
  have p2 := f1.2.2.2.1
  have p3 := f1.2.2.2.2
  clear f4
  subst e0
  refine ⟨?_, ?_, ?_, ?_, ?_, ?_, ?_, ?_⟩ <;> first | assumption | omega | trivial
def g_256v_s_0 : vG := ([(0, [7], [], -1), (0, [6], [], 0), (0, [5], [], 0), (0, [4], [], 0), (0, [3], [], 6), (41, [1, 2], [], 0), (0, [2], [], 20), (20, [1, 0], [0], 64), (90, [1], [], 0), (91, [1], [], 20), (6000, [0], [0], 0), (0, [0], [], 285)], (2252, [0, 3, 4, 5, 6, 7], [0], 0))
theorem c_256v_s_0 : vOkm T0 (eP e_256v L_256v A_256v mu_256v none) 1 g_256v_s_0 := vOk_in fun ρ η h => by
  obtain ⟨f0, f1, f2, f3, f4, f5, f6, f7, f8, f9, f10, f11, _⟩ := h
  exact q_256v_0 (n0 := ρ 0) (n1 := ρ 1) (n2 := ρ 2) (n3 := ρ 3) (n4 := ρ 4) (n5 := ρ 5) (n6 := ρ 6) (n7 := ρ 7) (H0 := η 0) f11 f10 f9 f8 f7 f6 f5 f4 f3 f2 f1 f0
theorem q_256v_1 {n0 n1 n2 n3 n4 n5 n6 n7 n8 : Int} {H0 H1 : gH} (f0 : n0 = 285) (f1 : hWt T0 H0 ∧ preb_256v n0 H0) (f2 : n1 ≤ 20) (f3 : 0 ≤ n1) (f4 : n1 = hV H0 (n0).toNat 64) (f5 : n2 = 20) (f6 : n1 ≠ n2) (f7 : n3 = 6) (f8 : n4 = 0) (f9 : n5 = 0) (f10 : n6 = 0) (f11 : n7 = (-1)) (f12 : n8 ≤ 2147483647) (f13 : (-2147483648) ≤ n8) (f14 : (hLe T0 H0 H1 ∧ hFr s_252v.2.2.2.2 H0 H1 ∧ ((0 : Int) = 0 → H1.length = H0.length) ∧ hWt T0 H1) ∧ postb_252v n8 n0 n3 n4 n5 n6 n7 H0 H1) : postb_256v n8 n0 H0 H1 := by
  unfold preb_256v at f1
  unfold postb_252v at f14
  unfold postb_256v
  have e0 : n1 = hV H0 285 64 := (by rw [f0] at f4; exact f4 : n1 = hV H0 285 64)
  have e1 : (0 : Int) ≤ hV H0 285 64 ∧ hV H0 285 64 ≤ 20 := f1.1 285 64 _ _ (by decide +kernel)
  have e2 : (0 : Int) ≤ hV H0 285 65 ∧ hV H0 285 65 ≤ 2147483647 := f1.1 285 65 _ _ (by decide +kernel)
  have e3 : (0 : Int) ≤ hV H1 285 64 ∧ hV H1 285 64 ≤ 20 := f14.1.2.2.2 285 64 _ _ (by decide +kernel)
  have e4 : (0 : Int) ≤ hV H1 285 65 ∧ hV H1 285 65 ≤ 2147483647 := f14.1.2.2.2 285 65 _ _ (by decide +kernel)
  have p0 := f1.2.1
  have p1 := f1.2.2.1
  have p2 := f1.2.2.2.1
  have p3 := f1.2.2.2.2
  have r0_0 := f14.2.1
  have r0_1 := f14.2.2.1
  have r0_2 := f14.2.2.2.1
  have r0_3 := f14.2.2.2.2.1
  have r0_4 := f14.2.2.2.2.2.1
  have r0_5 := f14.2.2.2.2.2.2.1
  have r0_6 := f14.2.2.2.2.2.2.2.1
  have r0_7 := f14.2.2.2.2.2.2.2.2.1
  have r0_8 := f14.2.2.2.2.2.2.2.2.2
  clear f4
  subst e0

  refine ⟨?_, ?_, ?_, ?_, ?_⟩
  · exact r0_0
  · exact r0_1
  · omega
  · exact r0_2
  · have kd := r0_6
    have mo := r0_7
    have ma := r0_8
    try rw [f7] at kd
    try rw [f8] at ma
    exact .inl ⟨trivial, by omega, by omega, by omega, kd, mo, ma⟩
def g_256v_s_1 : vG := ([(1252, [8, 0, 3, 4, 5, 6, 7], [0, 1], 0), (90, [8], [], -2147483648), (91, [8], [], 2147483647), (0, [7], [], -1), (0, [6], [], 0), (0, [5], [], 0), (0, [4], [], 0), (0, [3], [], 6), (41, [1, 2], [], 0), (0, [2], [], 20), (20, [1, 0], [0], 64), (90, [1], [], 0), (91, [1], [], 20), (6000, [0], [0], 0), (0, [0], [], 285)], (3000, [8], [1], 23))
theorem c_256v_s_1 : vOkm T0 (eP e_256v L_256v A_256v mu_256v none) 1 g_256v_s_1 := vOk_in fun ρ η h => by
  obtain ⟨f0, f1, f2, f3, f4, f5, f6, f7, f8, f9, f10, f11, f12, f13, f14, _⟩ := h
  exact q_256v_1 (n0 := ρ 0) (n1 := ρ 1) (n2 := ρ 2) (n3 := ρ 3) (n4 := ρ 4) (n5 := ρ 5) (n6 := ρ 6) (n7 := ρ 7) (n8 := ρ 8) (H0 := η 0) (H1 := η 1) f14 f13 f12 f11 f10 f9 f8 f7 f6 f5 f4 f3 f2 f1 f0
theorem q_256v_2 {n0 n1 n2 n3 : Int} {H0 : gH} (f0 : n0 = 285) (f1 : hWt T0 H0 ∧ preb_256v n0 H0) (f2 : n1 ≤ 20) (f3 : 0 ≤ n1) (f4 : n1 = hV H0 (n0).toNat 64) (f5 : n2 = 20) (f6 : n1 = n2) (f7 : n3 = (-1)) : postb_256v n3 n0 H0 H0 := by
  unfold preb_256v at f1
  unfold postb_256v
  have e0 : n1 = hV H0 285 64 := (by rw [f0] at f4; exact f4 : n1 = hV H0 285 64)
  have e1 : (0 : Int) ≤ hV H0 285 64 ∧ hV H0 285 64 ≤ 20 := f1.1 285 64 _ _ (by decide +kernel)
  have e2 : (0 : Int) ≤ hV H0 285 65 ∧ hV H0 285 65 ≤ 2147483647 := f1.1 285 65 _ _ (by decide +kernel)
  have p0 := f1.2.1
  have p1 := f1.2.2.1
  have p2 := f1.2.2.2.1
  have p3 := f1.2.2.2.2
  clear f4
  subst e0

  refine ⟨?_, ?_, ?_, ?_, ?_⟩
  · assumption
  · assumption
  · omega
  · assumption
  · exact .inr ⟨by omega, by omega, by omega, by first | rfl | assumption, by first | rfl | assumption, by first | rfl | assumption⟩
def g_256v_s_2 : vG := ([(0, [3], [], -1), (40, [1, 2], [], 0), (0, [2], [], 20), (20, [1, 0], [0], 64), (90, [1], [], 0), (91, [1], [], 20), (6000, [0], [0], 0), (0, [0], [], 285)], (3000, [3], [0], 23))
theorem c_256v_s_2 : vOkm T0 (eP e_256v L_256v A_256v mu_256v none) 1 g_256v_s_2 := vOk_in fun ρ η h => by
  obtain ⟨f0, f1, f2, f3, f4, f5, f6, f7, _⟩ := h
  exact q_256v_2 (n0 := ρ 0) (n1 := ρ 1) (n2 := ρ 2) (n3 := ρ 3) (H0 := η 0) f7 f6 f5 f4 f3 f2 f1 f0
def p_256v_s : List vG := [g_256v_s_0,
  g_256v_s_1,
  g_256v_s_2]
theorem r_256v_s : vCovO false (eR0 e_256v L_256v cs_256v 2000) p_256v_s = true := by decide +kernel
theorem m_256v (d : Nat) : eC e_256v (d + 2) := eC_ok (e := e_256v) (L := L_256v) (cs := cs_256v) (n := 2000) (d := d + 1) (A := A_256v) (μ := mu_256v) (tp := false) (p0 := p_256v_s) rfl ⟨m_252v d, trivial⟩ rfl (.inl rfl) (by decide +kernel) (fun z => nomatch z) r_256v_s (allC c_256v_s_0 (allC c_256v_s_1 (allC c_256v_s_2 allN))) allN
/- MixStageModel.mouth (II)I -/
noncomputable def s_261v : vM := ([(3, 12, 285, 0), (0, -2147483648, 2147483647, 0), (0, -2147483648, 2147483647, 0)], (0, -2147483648, 2147483647, 0), 0, 0, [(532, 0), (540, 0)])
def postb_261v (r a0 a1 a2 : Int) (h0 h : gH) : Prop := ((0 ≤ a1 ∧ a1 < hV h0 285 64 ∧ hV h0 328 ((a1).toNat) = 2 ∧ 0 ≤ a2 ∧ a2 ≤ 59 ∧ hV h0 338 ((a1).toNat) ≤ 7) ∧ r = hV h0 338 ((a1).toNat) + 1 ∧ (hV h 338) = uF (hV h0 338) a1 r) ∨ (¬ (0 ≤ a1 ∧ a1 < hV h0 285 64 ∧ hV h0 328 ((a1).toNat) = 2 ∧ 0 ≤ a2 ∧ a2 ≤ 59 ∧ hV h0 338 ((a1).toNat) ≤ 7) ∧ r = -1 ∧ (hV h 338) = (hV h0 338))
def post_261v : List Int → gH → gH → Prop := fun xs h0 h => match xs with
  | [r, a0, a1, a2] => postb_261v r a0 a1 a2 h0 h
  | _ => True
noncomputable def e_261v : vE := (261, s_261v, pre0, post_261v)
noncomputable def L_261v : List vE := [e_250, e_251]
def cs_261v : List vC := []
def A_261v : Int → List Int → gH → gH → Prop := fun c xs h0 h => True
def mu_261v : Int → List Int → gH → gH → Nat := fun c xs h0 h => 0
theorem q_261v_0 {n0 n1 n2 n3 n4 : Int} {H0 H1 : gH} (f0 : n0 ≤ 2147483647) (f1 : (-2147483648) ≤ n0) (f2 : n1 ≤ 2147483647) (f3 : (-2147483648) ≤ n1) (f4 : n2 = 285) (f5 : hWt T0 H0 ∧ True) (f6 : n3 ≤ 1) (f7 : 0 ≤ n3) (f8 : (hLe T0 H0 H1 ∧ hFr s_250.2.2.2.2 H0 H1 ∧ ((0 : Int) = 0 → H1.length = H0.length) ∧ hWt T0 H1) ∧ postb_250 n3 n2 n1 H0 H1) (f9 : n3 = 0) (f10 : n4 = (-1)) : postb_261v n4 n2 n1 n0 H0 H1 := by
  unfold postb_250 at f8
  unfold postb_261v
  have e0 : hV H1 285 64 = hV H0 285 64 := f8.1.2.1.1 285 64 (by decide +kernel)
  have e1 : hV H1 285 64 = hV H0 285 64 := e0
  have e2 : hV H1 338 = hV H0 338 := fRow f8.1.2.1 338 (by decide +kernel)
  have e3 : (0 : Int) ≤ hV H0 285 64 ∧ hV H0 285 64 ≤ 20 := f5.1 285 64 _ _ (by decide +kernel)
  have e4 : (0 : Int) ≤ hV H1 285 64 ∧ hV H1 285 64 ≤ 20 := f8.1.2.2.2 285 64 _ _ (by decide +kernel)
  try simp only [e1, e2] at f8
  try simp only [e1, e2] at e3
  try simp only [e1, e2] at e4
  try simp only [e1, e2]
  have r0_0 := f8.2
  try simp only [e1, e2] at r0_0
  clear e0 e1 e2

  refine .inr ⟨by omega, by omega, by first | trivial | rfl | assumption⟩
def g_261v_s_0 : vG := ([(0, [4], [], -1), (30, [3], [], 0), (1250, [3, 0, 1], [0, 1], 0), (90, [3], [], 0), (91, [3], [], 1), (6000, [0, 1, 2], [0], 0), (0, [0], [], 285), (90, [1], [], -2147483648), (91, [1], [], 2147483647), (90, [2], [], -2147483648), (91, [2], [], 2147483647)], (3000, [4], [1], 40))
theorem c_261v_s_0 : vOkm T0 (eP e_261v L_261v A_261v mu_261v none) 3 g_261v_s_0 := vOk_in fun ρ η h => by
  obtain ⟨f0, f1, f2, f3, f4, f5, f6, f7, f8, f9, f10, _⟩ := h
  exact q_261v_0 (n0 := ρ 2) (n1 := ρ 1) (n2 := ρ 0) (n3 := ρ 3) (n4 := ρ 4) (H0 := η 0) (H1 := η 1) f10 f9 f8 f7 f6 f5 f4 f3 f2 f1 f0
theorem q_261v_1 {n0 n1 n2 n3 : Int} {H0 H1 : gH} (f0 : n0 ≤ 2147483647) (f1 : (-2147483648) ≤ n0) (f2 : n1 ≤ 2147483647) (f3 : (-2147483648) ≤ n1) (f4 : n2 = 285) (f5 : hWt T0 H0 ∧ True) (f6 : n3 ≤ 1) (f7 : 0 ≤ n3) (f8 : (hLe T0 H0 H1 ∧ hFr s_250.2.2.2.2 H0 H1 ∧ ((0 : Int) = 0 → H1.length = H0.length) ∧ hWt T0 H1) ∧ postb_250 n3 n2 n1 H0 H1) (f9 : n3 ≠ 0) : 0 ≤ n1 ∧ n1 < 20 := by
  unfold postb_250 at f8
  have e0 : hV H1 285 64 = hV H0 285 64 := f8.1.2.1.1 285 64 (by decide +kernel)
  have e1 : hV H1 285 64 = hV H0 285 64 := e0
  have e2 : (0 : Int) ≤ hV H1 285 64 ∧ hV H1 285 64 ≤ 20 := f8.1.2.2.2 285 64 _ _ (by decide +kernel)
  have e3 : (0 : Int) ≤ hV H0 285 64 ∧ hV H0 285 64 ≤ 20 := f5.1 285 64 _ _ (by decide +kernel)
  try simp only [e1] at f8
  try simp only [e1] at e2
  try simp only [e1] at e3
  try simp only [e1]
  have r0_0 := f8.2
  try simp only [e1] at r0_0
  clear e0 e1
  omega
def g_261v_s_1 : vG := ([(31, [3], [], 0), (1250, [3, 0, 1], [0, 1], 0), (90, [3], [], 0), (91, [3], [], 1), (6000, [0, 1, 2], [0], 0), (0, [0], [], 285), (90, [1], [], -2147483648), (91, [1], [], 2147483647), (90, [2], [], -2147483648), (91, [2], [], 2147483647)], (70, [1], [], 20))
theorem c_261v_s_1 : vOkm T0 (eP e_261v L_261v A_261v mu_261v none) 3 g_261v_s_1 := vOk_in fun ρ η h => by
  obtain ⟨f0, f1, f2, f3, f4, f5, f6, f7, f8, f9, _⟩ := h
  exact q_261v_1 (n0 := ρ 2) (n1 := ρ 1) (n2 := ρ 0) (n3 := ρ 3) (H0 := η 0) (H1 := η 1) f9 f8 f7 f6 f5 f4 f3 f2 f1 f0
theorem q_261v_2 {n0 n1 n2 n3 n4 n5 n6 n7 : Int} {H0 H1 : gH} (f0 : n0 ≤ 2147483647) (f1 : (-2147483648) ≤ n0) (f2 : n1 ≤ 2147483647) (f3 : (-2147483648) ≤ n1) (f4 : n2 = 285) (f5 : hWt T0 H0 ∧ True) (f6 : n3 ≤ 1) (f7 : 0 ≤ n3) (f8 : (hLe T0 H0 H1 ∧ hFr s_250.2.2.2.2 H0 H1 ∧ ((0 : Int) = 0 → H1.length = H0.length) ∧ hWt T0 H1) ∧ postb_250 n3 n2 n1 H0 H1) (f9 : n3 ≠ 0) (f10 : n4 = 328) (f11 : n4 = hV H1 (n2).toNat 66) (f12 : n5 ≤ 6) (f13 : 0 ≤ n5) (f14 : n5 = hV H1 (n4).toNat (n1).toNat) (f15 : n6 = 2) (f16 : n5 ≠ n6) (f17 : n7 = (-1)) : postb_261v n7 n2 n1 n0 H0 H1 := by
  unfold postb_250 at f8
  unfold postb_261v
  have e0 : hV H1 328 = hV H0 328 := fRow f8.1.2.1 328 (by decide +kernel)
  have e1 : n5 = hV H0 328 (n1).toNat := (by rw [f10] at f14; exact f14 : n5 = hV H1 328 (n1).toNat).trans ((congrFun e0 _))
  have e2 : hV H1 285 64 = hV H0 285 64 := f8.1.2.1.1 285 64 (by decide +kernel)
  have e3 : hV H1 285 64 = hV H0 285 64 := e2
  have e4 : hV H1 338 = hV H0 338 := fRow f8.1.2.1 338 (by decide +kernel)
  have e5 : (0 : Int) ≤ hV H0 285 64 ∧ hV H0 285 64 ≤ 20 := f5.1 285 64 _ _ (by decide +kernel)
  have e6 : (0 : Int) ≤ hV H1 285 64 ∧ hV H1 285 64 ≤ 20 := f8.1.2.2.2 285 64 _ _ (by decide +kernel)
  try simp only [e3, e4] at f8
  try simp only [e3, e4] at e5
  try simp only [e3, e4] at e6
  try simp only [e3, e4]
  have r0_0 := f8.2
  try simp only [e3, e4] at r0_0
  clear f11 f14 e0 e2 e3 e4
  subst e1

  refine .inr ⟨by omega, by omega, by first | trivial | rfl | assumption⟩
def g_261v_s_2 : vG := ([(0, [7], [], -1), (41, [5, 6], [], 0), (0, [6], [], 2), (22, [5, 4, 1], [1], 0), (90, [5], [], 0), (91, [5], [], 6), (20, [4, 0], [1], 66), (0, [4], [], 328), (31, [3], [], 0), (1250, [3, 0, 1], [0, 1], 0), (90, [3], [], 0), (91, [3], [], 1), (6000, [0, 1, 2], [0], 0), (0, [0], [], 285), (90, [1], [], -2147483648), (91, [1], [], 2147483647), (90, [2], [], -2147483648), (91, [2], [], 2147483647)], (3000, [7], [1], 40))
theorem c_261v_s_2 : vOkm T0 (eP e_261v L_261v A_261v mu_261v none) 3 g_261v_s_2 := vOk_in fun ρ η h => by
  obtain ⟨f0, f1, f2, f3, f4, f5, f6, f7, f8, f9, f10, f11, f12, f13, f14, f15, f16, f17, _⟩ := h
  exact q_261v_2 (n0 := ρ 2) (n1 := ρ 1) (n2 := ρ 0) (n3 := ρ 3) (n4 := ρ 4) (n5 := ρ 5) (n6 := ρ 6) (n7 := ρ 7) (H0 := η 0) (H1 := η 1) f17 f16 f15 f14 f13 f12 f11 f10 f9 f8 f7 f6 f5 f4 f3 f2 f1 f0
def g_261v_s_3 : vG := ([(31, [3], [], 0), (1250, [3, 0, 1], [0, 1], 0), (90, [3], [], 0), (91, [3], [], 1), (6000, [0, 1, 2], [0], 0), (0, [0], [], 285), (90, [1], [], -2147483648), (91, [1], [], 2147483647), (90, [2], [], -2147483648), (91, [2], [], 2147483647)], (70, [1], [], 20))
theorem c_261v_s_3 : vOkm T0 (eP e_261v L_261v A_261v mu_261v none) 3 g_261v_s_3 := vOk_in fun ρ η h => by
  obtain ⟨f0, f1, f2, f3, f4, f5, f6, f7, f8, f9, _⟩ := h
  exact q_261v_1 (n0 := ρ 2) (n1 := ρ 1) (n2 := ρ 0) (n3 := ρ 3) (H0 := η 0) (H1 := η 1) f9 f8 f7 f6 f5 f4 f3 f2 f1 f0
theorem q_261v_3 {n0 n1 n2 n3 n4 n5 n6 n7 n8 n9 n10 : Int} {H0 H1 : gH} (f0 : n0 ≤ 2147483647) (f1 : (-2147483648) ≤ n0) (f2 : n1 ≤ 2147483647) (f3 : (-2147483648) ≤ n1) (f4 : n2 = 285) (f5 : hWt T0 H0 ∧ True) (f6 : n3 ≤ 1) (f7 : 0 ≤ n3) (f8 : (hLe T0 H0 H1 ∧ hFr s_250.2.2.2.2 H0 H1 ∧ ((0 : Int) = 0 → H1.length = H0.length) ∧ hWt T0 H1) ∧ postb_250 n3 n2 n1 H0 H1) (f9 : n3 ≠ 0) (f10 : n4 = 328) (f11 : n4 = hV H1 (n2).toNat 66) (f12 : n5 ≤ 6) (f13 : 0 ≤ n5) (f14 : n5 = hV H1 (n4).toNat (n1).toNat) (f15 : n6 = 2) (f16 : n5 = n6) (f17 : n7 = 338) (f18 : n7 = hV H1 (n2).toNat 76) (f19 : n8 ≤ 8) (f20 : 0 ≤ n8) (f21 : n8 = hV H1 (n7).toNat (n1).toNat) (f22 : n9 = 8) (f23 : n8 = n9) (f24 : n10 = (-1)) : postb_261v n10 n2 n1 n0 H0 H1 := by
  unfold postb_250 at f8
  unfold postb_261v
  have e0 : hV H1 328 = hV H0 328 := fRow f8.1.2.1 328 (by decide +kernel)
  have e1 : n5 = hV H0 328 (n1).toNat := (by rw [f10] at f14; exact f14 : n5 = hV H1 328 (n1).toNat).trans ((congrFun e0 _))
  have e2 : hV H1 338 = hV H0 338 := fRow f8.1.2.1 338 (by decide +kernel)
  have e3 : n8 = hV H0 338 (n1).toNat := (by rw [f17] at f21; exact f21 : n8 = hV H1 338 (n1).toNat).trans ((congrFun e2 _))
  have e4 : hV H1 285 64 = hV H0 285 64 := f8.1.2.1.1 285 64 (by decide +kernel)
  have e5 : hV H1 285 64 = hV H0 285 64 := e4
  have e6 : (0 : Int) ≤ hV H0 285 64 ∧ hV H0 285 64 ≤ 20 := f5.1 285 64 _ _ (by decide +kernel)
  have e7 : (0 : Int) ≤ hV H1 285 64 ∧ hV H1 285 64 ≤ 20 := f8.1.2.2.2 285 64 _ _ (by decide +kernel)
  try simp only [e5, e2] at f8
  try simp only [e5, e2] at e6
  try simp only [e5, e2] at e7
  try simp only [e5, e2]
  have r0_0 := f8.2
  try simp only [e5, e2] at r0_0
  clear f11 f14 f18 f21 e0 e2 e4 e5
  subst e1
  subst e3

  refine .inr ⟨by omega, by omega, by first | trivial | rfl | assumption⟩
def g_261v_s_4 : vG := ([(0, [10], [], -1), (40, [8, 9], [], 0), (0, [9], [], 8), (22, [8, 7, 1], [1], 0), (90, [8], [], 0), (91, [8], [], 8), (20, [7, 0], [1], 76), (0, [7], [], 338), (40, [5, 6], [], 0), (0, [6], [], 2), (22, [5, 4, 1], [1], 0), (90, [5], [], 0), (91, [5], [], 6), (20, [4, 0], [1], 66), (0, [4], [], 328), (31, [3], [], 0), (1250, [3, 0, 1], [0, 1], 0), (90, [3], [], 0), (91, [3], [], 1), (6000, [0, 1, 2], [0], 0), (0, [0], [], 285), (90, [1], [], -2147483648), (91, [1], [], 2147483647), (90, [2], [], -2147483648), (91, [2], [], 2147483647)], (3000, [10], [1], 40))
theorem c_261v_s_4 : vOkm T0 (eP e_261v L_261v A_261v mu_261v none) 3 g_261v_s_4 := vOk_in fun ρ η h => by
  obtain ⟨f0, f1, f2, f3, f4, f5, f6, f7, f8, f9, f10, f11, f12, f13, f14, f15, f16, f17, f18, f19, f20, f21, f22, f23, f24, _⟩ := h
  exact q_261v_3 (n0 := ρ 2) (n1 := ρ 1) (n2 := ρ 0) (n3 := ρ 3) (n4 := ρ 4) (n5 := ρ 5) (n6 := ρ 6) (n7 := ρ 7) (n8 := ρ 8) (n9 := ρ 9) (n10 := ρ 10) (H0 := η 0) (H1 := η 1) f24 f23 f22 f21 f20 f19 f18 f17 f16 f15 f14 f13 f12 f11 f10 f9 f8 f7 f6 f5 f4 f3 f2 f1 f0
theorem q_261v_4 {n0 n1 n2 n3 n4 n5 n6 n7 n8 : Int} {H0 H1 H2 : gH} (f0 : n0 ≤ 2147483647) (f1 : (-2147483648) ≤ n0) (f2 : n1 ≤ 2147483647) (f3 : (-2147483648) ≤ n1) (f4 : n2 = 285) (f5 : hWt T0 H0 ∧ True) (f6 : n3 ≤ 1) (f7 : 0 ≤ n3) (f8 : (hLe T0 H0 H1 ∧ hFr s_250.2.2.2.2 H0 H1 ∧ ((0 : Int) = 0 → H1.length = H0.length) ∧ hWt T0 H1) ∧ postb_250 n3 n2 n1 H0 H1) (f9 : n3 ≠ 0) (f10 : n4 = 0) (f11 : n5 = 59) (f12 : n6 ≤ 1) (f13 : 0 ≤ n6) (f14 : (hLe T0 H1 H2 ∧ hFr s_251.2.2.2.2 H1 H2 ∧ ((0 : Int) = 0 → H2.length = H1.length) ∧ hWt T0 H2) ∧ postb_251 n6 n0 n4 n5 H1 H2) (f15 : n6 ≠ 0) (f16 : n7 = 8) (f17 : n8 = w32 (n7 * n1)) : 0 ≤ n1 ∧ n1 < 20 := by
  unfold postb_250 at f8
  unfold postb_251 at f14
  have e0 : hV H1 285 64 = hV H0 285 64 := f8.1.2.1.1 285 64 (by decide +kernel)
  have e1 : hV H1 285 64 = hV H0 285 64 := e0
  have e2 : (0 : Int) ≤ hV H1 285 64 ∧ hV H1 285 64 ≤ 20 := f8.1.2.2.2 285 64 _ _ (by decide +kernel)
  have e3 : (0 : Int) ≤ hV H0 285 64 ∧ hV H0 285 64 ≤ 20 := f5.1 285 64 _ _ (by decide +kernel)
  try simp only [e1] at f8
  try simp only [e1] at f14
  try simp only [e1] at e2
  try simp only [e1] at e3
  try simp only [e1]
  have r0_0 := f8.2
  have r1_0 := f14.2
  try simp only [e1] at r0_0
  try simp only [e1] at r1_0
  clear e0 e1
  rw [f16] at f17
  unfold w32 at *
  omega
def g_261v_s_5 : vG := ([(3, [15, 14, 1], [], 0), (0, [14], [], 8), (31, [12], [], 0), (1251, [12, 2, 10, 11], [1, 2], 0), (90, [12], [], 0), (91, [12], [], 1), (0, [11], [], 59), (0, [10], [], 0), (31, [3], [], 0), (1250, [3, 0, 1], [0, 1], 0), (90, [3], [], 0), (91, [3], [], 1), (6000, [0, 1, 2], [0], 0), (0, [0], [], 285), (90, [1], [], -2147483648), (91, [1], [], 2147483647), (90, [2], [], -2147483648), (91, [2], [], 2147483647)], (70, [1], [], 20))
theorem c_261v_s_5 : vOkm T0 (eP e_261v L_261v A_261v mu_261v none) 3 g_261v_s_5 := vOk_in fun ρ η h => by
  obtain ⟨f0, f1, f2, f3, f4, f5, f6, f7, f8, f9, f10, f11, f12, f13, f14, f15, f16, f17, _⟩ := h
  exact q_261v_4 (n0 := ρ 2) (n1 := ρ 1) (n2 := ρ 0) (n3 := ρ 3) (n4 := ρ 10) (n5 := ρ 11) (n6 := ρ 12) (n7 := ρ 14) (n8 := ρ 15) (H0 := η 0) (H1 := η 1) (H2 := η 2) f17 f16 f15 f14 f13 f12 f11 f10 f9 f8 f7 f6 f5 f4 f3 f2 f1 f0
theorem q_261v_5 {n0 n1 n2 n3 n4 n5 n6 n7 n8 n9 n10 n11 n12 n13 n14 : Int} {H0 H1 H2 : gH} (f0 : n0 ≤ 2147483647) (f1 : (-2147483648) ≤ n0) (f2 : n1 ≤ 2147483647) (f3 : (-2147483648) ≤ n1) (f4 : n2 = 285) (f5 : hWt T0 H0 ∧ True) (f6 : n3 ≤ 1) (f7 : 0 ≤ n3) (f8 : (hLe T0 H0 H1 ∧ hFr s_250.2.2.2.2 H0 H1 ∧ ((0 : Int) = 0 → H1.length = H0.length) ∧ hWt T0 H1) ∧ postb_250 n3 n2 n1 H0 H1) (f9 : n3 ≠ 0) (f10 : n4 = 338) (f11 : n4 = hV H1 (n2).toNat 76) (f12 : n5 ≤ 8) (f13 : 0 ≤ n5) (f14 : n5 = hV H1 (n4).toNat (n1).toNat) (f15 : n6 = 8) (f16 : n5 ≠ n6) (f17 : n7 = 0) (f18 : n8 = 59) (f19 : n9 ≤ 1) (f20 : 0 ≤ n9) (f21 : (hLe T0 H1 H2 ∧ hFr s_251.2.2.2.2 H1 H2 ∧ ((0 : Int) = 0 → H2.length = H1.length) ∧ hWt T0 H2) ∧ postb_251 n9 n0 n7 n8 H1 H2) (f22 : n9 ≠ 0) (f23 : n10 = 8) (f24 : n11 = w32 (n10 * n1)) (f25 : n12 = 338) (f26 : n12 = hV H2 (n2).toNat 76) (f27 : n13 ≤ 8) (f28 : 0 ≤ n13) (f29 : n13 = hV H2 (n12).toNat (n1).toNat) (f30 : n14 = w32 (n11 + n13)) : 0 ≤ n14 ∧ n14 < 160 := by
  unfold postb_250 at f8
  unfold postb_251 at f21
  have e0 : hV H1 338 = hV H0 338 := fRow f8.1.2.1 338 (by decide +kernel)
  have e1 : n5 = hV H0 338 (n1).toNat := (by rw [f10] at f14; exact f14 : n5 = hV H1 338 (n1).toNat).trans ((congrFun e0 _))
  have e2 : hV H2 338 = hV H1 338 := fRow f21.1.2.1 338 (by decide +kernel)
  have e3 : n13 = hV H0 338 (n1).toNat := (by rw [f25] at f29; exact f29 : n13 = hV H2 338 (n1).toNat).trans (((congrFun e2 _)).trans ((congrFun e0 _)))
  have e4 : hV H1 285 64 = hV H0 285 64 := f8.1.2.1.1 285 64 (by decide +kernel)
  have e5 : hV H1 285 64 = hV H0 285 64 := e4
  have e6 : (0 : Int) ≤ hV H1 285 64 ∧ hV H1 285 64 ≤ 20 := f8.1.2.2.2 285 64 _ _ (by decide +kernel)
  have e7 : (0 : Int) ≤ hV H0 285 64 ∧ hV H0 285 64 ≤ 20 := f5.1 285 64 _ _ (by decide +kernel)
  try simp only [e5] at f8
  try simp only [e5] at f21
  try simp only [e5] at e6
  try simp only [e5] at e7
  try simp only [e5]
  have r0_0 := f8.2
  have r1_0 := f21.2
  try simp only [e5] at r0_0
  try simp only [e5] at r1_0
  clear f11 f14 f26 f29 e0 e2 e4 e5
  subst e1
  subst e3
  rw [f23] at f24
  unfold w32 at *
  try (have ix0 : n11 = 8 * n1 := (by omega); subst ix0)
  try (have ix1 : n14 = (8 * n1) + hV H0 338 (n1).toNat := (by omega); subst ix1)
  omega
def g_261v_s_6 : vG := ([(1, [18, 15, 17], [], 0), (22, [17, 16, 1], [2], 0), (90, [17], [], 0), (91, [17], [], 8), (20, [16, 0], [2], 76), (0, [16], [], 338), (3, [15, 14, 1], [], 0), (0, [14], [], 8), (31, [12], [], 0), (1251, [12, 2, 10, 11], [1, 2], 0), (90, [12], [], 0), (91, [12], [], 1), (0, [11], [], 59), (0, [10], [], 0), (41, [8, 9], [], 0), (0, [9], [], 8), (22, [8, 7, 1], [1], 0), (90, [8], [], 0), (91, [8], [], 8), (20, [7, 0], [1], 76), (0, [7], [], 338), (31, [3], [], 0), (1250, [3, 0, 1], [0, 1], 0), (90, [3], [], 0), (91, [3], [], 1), (6000, [0, 1, 2], [0], 0), (0, [0], [], 285), (90, [1], [], -2147483648), (91, [1], [], 2147483647), (90, [2], [], -2147483648), (91, [2], [], 2147483647)], (70, [18], [], 160))
theorem c_261v_s_6 : vOkm T0 (eP e_261v L_261v A_261v mu_261v none) 3 g_261v_s_6 := vOk_in fun ρ η h => by
  obtain ⟨f0, f1, f2, f3, f4, f5, f6, f7, f8, f9, f10, f11, f12, f13, f14, f15, f16, f17, f18, f19, f20, f21, f22, f23, f24, f25, f26, f27, f28, f29, f30, _⟩ := h
  exact q_261v_5 (n0 := ρ 2) (n1 := ρ 1) (n2 := ρ 0) (n3 := ρ 3) (n4 := ρ 7) (n5 := ρ 8) (n6 := ρ 9) (n7 := ρ 10) (n8 := ρ 11) (n9 := ρ 12) (n10 := ρ 14) (n11 := ρ 15) (n12 := ρ 16) (n13 := ρ 17) (n14 := ρ 18) (H0 := η 0) (H1 := η 1) (H2 := η 2) f30 f29 f28 f27 f26 f25 f24 f23 f22 f21 f20 f19 f18 f17 f16 f15 f14 f13 f12 f11 f10 f9 f8 f7 f6 f5 f4 f3 f2 f1 f0
theorem q_261v_6 {n0 n1 n2 n3 n4 n5 n6 n7 n8 : Int} {H0 H1 H2 : gH} (f0 : n0 ≤ 2147483647) (f1 : (-2147483648) ≤ n0) (f2 : n1 ≤ 2147483647) (f3 : (-2147483648) ≤ n1) (f4 : n2 = 285) (f5 : hWt T0 H0 ∧ True) (f6 : n3 ≤ 1) (f7 : 0 ≤ n3) (f8 : (hLe T0 H0 H1 ∧ hFr s_250.2.2.2.2 H0 H1 ∧ ((0 : Int) = 0 → H1.length = H0.length) ∧ hWt T0 H1) ∧ postb_250 n3 n2 n1 H0 H1) (f9 : n3 ≠ 0) (f10 : n4 = 0) (f11 : n5 = 59) (f12 : n6 ≤ 1) (f13 : 0 ≤ n6) (f14 : (hLe T0 H1 H2 ∧ hFr s_251.2.2.2.2 H1 H2 ∧ ((0 : Int) = 0 → H2.length = H1.length) ∧ hWt T0 H2) ∧ postb_251 n6 n0 n4 n5 H1 H2) (f15 : n6 ≠ 0) (f16 : n7 = 8) (f17 : n8 = w32 (n7 * n1)) : 0 ≤ n0 := by
  unfold postb_250 at f8
  unfold postb_251 at f14
  have e0 : hV H1 285 64 = hV H0 285 64 := f8.1.2.1.1 285 64 (by decide +kernel)
  have e1 : hV H1 285 64 = hV H0 285 64 := e0
  have e2 : (0 : Int) ≤ hV H1 285 64 ∧ hV H1 285 64 ≤ 20 := f8.1.2.2.2 285 64 _ _ (by decide +kernel)
  have e3 : (0 : Int) ≤ hV H0 285 64 ∧ hV H0 285 64 ≤ 20 := f5.1 285 64 _ _ (by decide +kernel)
  try simp only [e1] at f8
  try simp only [e1] at f14
  try simp only [e1] at e2
  try simp only [e1] at e3
  try simp only [e1]
  have r0_0 := f8.2
  have r1_0 := f14.2
  try simp only [e1] at r0_0
  try simp only [e1] at r1_0
  clear e0 e1
  rw [f16] at f17
  unfold w32 at *
  omega
def g_261v_s_7 : vG := ([(3, [15, 14, 1], [], 0), (0, [14], [], 8), (31, [12], [], 0), (1251, [12, 2, 10, 11], [1, 2], 0), (90, [12], [], 0), (91, [12], [], 1), (0, [11], [], 59), (0, [10], [], 0), (31, [3], [], 0), (1250, [3, 0, 1], [0, 1], 0), (90, [3], [], 0), (91, [3], [], 1), (6000, [0, 1, 2], [0], 0), (0, [0], [], 285), (90, [1], [], -2147483648), (91, [1], [], 2147483647), (90, [2], [], -2147483648), (91, [2], [], 2147483647)], (90, [2], [], 0))
theorem c_261v_s_7 : vOkm T0 (eP e_261v L_261v A_261v mu_261v none) 3 g_261v_s_7 := vOk_in fun ρ η h => by
  obtain ⟨f0, f1, f2, f3, f4, f5, f6, f7, f8, f9, f10, f11, f12, f13, f14, f15, f16, f17, _⟩ := h
  exact q_261v_6 (n0 := ρ 2) (n1 := ρ 1) (n2 := ρ 0) (n3 := ρ 3) (n4 := ρ 10) (n5 := ρ 11) (n6 := ρ 12) (n7 := ρ 14) (n8 := ρ 15) (H0 := η 0) (H1 := η 1) (H2 := η 2) f17 f16 f15 f14 f13 f12 f11 f10 f9 f8 f7 f6 f5 f4 f3 f2 f1 f0
theorem q_261v_7 {n0 n1 n2 n3 n4 n5 n6 n7 n8 : Int} {H0 H1 H2 : gH} (f0 : n0 ≤ 2147483647) (f1 : (-2147483648) ≤ n0) (f2 : n1 ≤ 2147483647) (f3 : (-2147483648) ≤ n1) (f4 : n2 = 285) (f5 : hWt T0 H0 ∧ True) (f6 : n3 ≤ 1) (f7 : 0 ≤ n3) (f8 : (hLe T0 H0 H1 ∧ hFr s_250.2.2.2.2 H0 H1 ∧ ((0 : Int) = 0 → H1.length = H0.length) ∧ hWt T0 H1) ∧ postb_250 n3 n2 n1 H0 H1) (f9 : n3 ≠ 0) (f10 : n4 = 0) (f11 : n5 = 59) (f12 : n6 ≤ 1) (f13 : 0 ≤ n6) (f14 : (hLe T0 H1 H2 ∧ hFr s_251.2.2.2.2 H1 H2 ∧ ((0 : Int) = 0 → H2.length = H1.length) ∧ hWt T0 H2) ∧ postb_251 n6 n0 n4 n5 H1 H2) (f15 : n6 ≠ 0) (f16 : n7 = 8) (f17 : n8 = w32 (n7 * n1)) : n0 ≤ 59 := by
  unfold postb_250 at f8
  unfold postb_251 at f14
  have e0 : hV H1 285 64 = hV H0 285 64 := f8.1.2.1.1 285 64 (by decide +kernel)
  have e1 : hV H1 285 64 = hV H0 285 64 := e0
  have e2 : (0 : Int) ≤ hV H1 285 64 ∧ hV H1 285 64 ≤ 20 := f8.1.2.2.2 285 64 _ _ (by decide +kernel)
  have e3 : (0 : Int) ≤ hV H0 285 64 ∧ hV H0 285 64 ≤ 20 := f5.1 285 64 _ _ (by decide +kernel)
  try simp only [e1] at f8
  try simp only [e1] at f14
  try simp only [e1] at e2
  try simp only [e1] at e3
  try simp only [e1]
  have r0_0 := f8.2
  have r1_0 := f14.2
  try simp only [e1] at r0_0
  try simp only [e1] at r1_0
  clear e0 e1
  rw [f16] at f17
  unfold w32 at *
  omega
def g_261v_s_8 : vG := ([(3, [15, 14, 1], [], 0), (0, [14], [], 8), (31, [12], [], 0), (1251, [12, 2, 10, 11], [1, 2], 0), (90, [12], [], 0), (91, [12], [], 1), (0, [11], [], 59), (0, [10], [], 0), (31, [3], [], 0), (1250, [3, 0, 1], [0, 1], 0), (90, [3], [], 0), (91, [3], [], 1), (6000, [0, 1, 2], [0], 0), (0, [0], [], 285), (90, [1], [], -2147483648), (91, [1], [], 2147483647), (90, [2], [], -2147483648), (91, [2], [], 2147483647)], (91, [2], [], 59))
theorem c_261v_s_8 : vOkm T0 (eP e_261v L_261v A_261v mu_261v none) 3 g_261v_s_8 := vOk_in fun ρ η h => by
  obtain ⟨f0, f1, f2, f3, f4, f5, f6, f7, f8, f9, f10, f11, f12, f13, f14, f15, f16, f17, _⟩ := h
  exact q_261v_7 (n0 := ρ 2) (n1 := ρ 1) (n2 := ρ 0) (n3 := ρ 3) (n4 := ρ 10) (n5 := ρ 11) (n6 := ρ 12) (n7 := ρ 14) (n8 := ρ 15) (H0 := η 0) (H1 := η 1) (H2 := η 2) f17 f16 f15 f14 f13 f12 f11 f10 f9 f8 f7 f6 f5 f4 f3 f2 f1 f0
def g_261v_s_9 : vG := ([(3, [15, 14, 1], [], 0), (0, [14], [], 8), (31, [12], [], 0), (1251, [12, 2, 10, 11], [1, 2], 0), (90, [12], [], 0), (91, [12], [], 1), (0, [11], [], 59), (0, [10], [], 0), (31, [3], [], 0), (1250, [3, 0, 1], [0, 1], 0), (90, [3], [], 0), (91, [3], [], 1), (6000, [0, 1, 2], [0], 0), (0, [0], [], 285), (90, [1], [], -2147483648), (91, [1], [], 2147483647), (90, [2], [], -2147483648), (91, [2], [], 2147483647)], (70, [1], [], 20))
theorem c_261v_s_9 : vOkm T0 (eP e_261v L_261v A_261v mu_261v none) 3 g_261v_s_9 := vOk_in fun ρ η h => by
  obtain ⟨f0, f1, f2, f3, f4, f5, f6, f7, f8, f9, f10, f11, f12, f13, f14, f15, f16, f17, _⟩ := h
  exact q_261v_4 (n0 := ρ 2) (n1 := ρ 1) (n2 := ρ 0) (n3 := ρ 3) (n4 := ρ 10) (n5 := ρ 11) (n6 := ρ 12) (n7 := ρ 14) (n8 := ρ 15) (H0 := η 0) (H1 := η 1) (H2 := η 2) f17 f16 f15 f14 f13 f12 f11 f10 f9 f8 f7 f6 f5 f4 f3 f2 f1 f0
def g_261v_s_10 : vG := ([(3, [15, 14, 1], [], 0), (0, [14], [], 8), (31, [12], [], 0), (1251, [12, 2, 10, 11], [1, 2], 0), (90, [12], [], 0), (91, [12], [], 1), (0, [11], [], 59), (0, [10], [], 0), (31, [3], [], 0), (1250, [3, 0, 1], [0, 1], 0), (90, [3], [], 0), (91, [3], [], 1), (6000, [0, 1, 2], [0], 0), (0, [0], [], 285), (90, [1], [], -2147483648), (91, [1], [], 2147483647), (90, [2], [], -2147483648), (91, [2], [], 2147483647)], (70, [1], [], 20))
theorem c_261v_s_10 : vOkm T0 (eP e_261v L_261v A_261v mu_261v none) 3 g_261v_s_10 := vOk_in fun ρ η h => by
  obtain ⟨f0, f1, f2, f3, f4, f5, f6, f7, f8, f9, f10, f11, f12, f13, f14, f15, f16, f17, _⟩ := h
  exact q_261v_4 (n0 := ρ 2) (n1 := ρ 1) (n2 := ρ 0) (n3 := ρ 3) (n4 := ρ 10) (n5 := ρ 11) (n6 := ρ 12) (n7 := ρ 14) (n8 := ρ 15) (H0 := η 0) (H1 := η 1) (H2 := η 2) f17 f16 f15 f14 f13 f12 f11 f10 f9 f8 f7 f6 f5 f4 f3 f2 f1 f0
theorem q_261v_8 {n0 n1 n2 n3 n4 n5 n6 n7 n8 n9 n10 n11 n12 n13 n14 n15 n16 n17 n18 n19 : Int} {H0 H1 H2 H3 : gH} (f0 : n0 ≤ 2147483647) (f1 : (-2147483648) ≤ n0) (f2 : n1 ≤ 2147483647) (f3 : (-2147483648) ≤ n1) (f4 : n2 = 285) (f5 : hWt T0 H0 ∧ True) (f6 : n3 ≤ 1) (f7 : 0 ≤ n3) (f8 : (hLe T0 H0 H1 ∧ hFr s_250.2.2.2.2 H0 H1 ∧ ((0 : Int) = 0 → H1.length = H0.length) ∧ hWt T0 H1) ∧ postb_250 n3 n2 n1 H0 H1) (f9 : n3 ≠ 0) (f10 : n4 = 338) (f11 : n4 = hV H1 (n2).toNat 76) (f12 : n5 ≤ 8) (f13 : 0 ≤ n5) (f14 : n5 = hV H1 (n4).toNat (n1).toNat) (f15 : n6 = 8) (f16 : n5 ≠ n6) (f17 : n7 = 0) (f18 : n8 = 59) (f19 : n9 ≤ 1) (f20 : 0 ≤ n9) (f21 : (hLe T0 H1 H2 ∧ hFr s_251.2.2.2.2 H1 H2 ∧ ((0 : Int) = 0 → H2.length = H1.length) ∧ hWt T0 H2) ∧ postb_251 n9 n0 n7 n8 H1 H2) (f22 : n9 ≠ 0) (f23 : n10 = 339) (f24 : n10 = hV H2 (n2).toNat 77) (f25 : n11 = 8) (f26 : n12 = w32 (n11 * n1)) (f27 : n13 = 338) (f28 : n13 = hV H2 (n2).toNat 76) (f29 : n14 ≤ 8) (f30 : 0 ≤ n14) (f31 : n14 = hV H2 (n13).toNat (n1).toNat) (f32 : n15 = w32 (n12 + n14)) (f33 : hUpd H3 H2 n10 n15 n0) (f34 : n16 = 338) (f35 : n16 = hV H3 (n2).toNat 76) (f36 : n17 ≤ 8) (f37 : 0 ≤ n17) (f38 : n17 = hV H3 (n16).toNat (n1).toNat) (f39 : n18 = 1) (f40 : n19 = w32 (n17 + n18)) : 0 ≤ n19 := by
  unfold postb_250 at f8
  unfold postb_251 at f21
  have e0 : hV H1 338 = hV H0 338 := fRow f8.1.2.1 338 (by decide +kernel)
  have e1 : n5 = hV H0 338 (n1).toNat := (by rw [f10] at f14; exact f14 : n5 = hV H1 338 (n1).toNat).trans ((congrFun e0 _))
  have e2 : hV H2 338 = hV H1 338 := fRow f21.1.2.1 338 (by decide +kernel)
  have e3 : n14 = hV H0 338 (n1).toNat := (by rw [f27] at f31; exact f31 : n14 = hV H2 338 (n1).toNat).trans (((congrFun e2 _)).trans ((congrFun e0 _)))
  have e4 : hV H3 338 = hV H2 338 := uRowNe f33 _ (iS (show n10 = ((339 : Nat) : Int) from f23) rfl)
  have e5 : n17 = hV H0 338 (n1).toNat := (by rw [f34] at f38; exact f38 : n17 = hV H3 338 (n1).toNat).trans (((congrFun e4 _)).trans (((congrFun e2 _)).trans ((congrFun e0 _))))
  have e6 : hV H1 285 64 = hV H0 285 64 := f8.1.2.1.1 285 64 (by decide +kernel)
  have e7 : hV H1 285 64 = hV H0 285 64 := e6
  have e8 : (0 : Int) ≤ hV H1 285 64 ∧ hV H1 285 64 ≤ 20 := f8.1.2.2.2 285 64 _ _ (by decide +kernel)
  have e9 : (0 : Int) ≤ hV H0 285 64 ∧ hV H0 285 64 ≤ 20 := f5.1 285 64 _ _ (by decide +kernel)
  try simp only [e7] at f8
  try simp only [e7] at f21
  try simp only [e7] at e8
  try simp only [e7] at e9
  try simp only [e7]
  have r0_0 := f8.2
  have r1_0 := f21.2
  try simp only [e7] at r0_0
  try simp only [e7] at r1_0
  clear f11 f14 f24 f28 f31 f35 f38 e0 e2 e4 e6 e7
  subst e1
  subst e3
  subst e5
  rw [f25] at f26
  unfold w32 at *
  try (have ix0 : n12 = 8 * n1 := (by omega); subst ix0)
  try (have ix1 : n15 = (8 * n1) + hV H0 338 (n1).toNat := (by omega); subst ix1)
  try (have ix2 : n19 = hV H0 338 (n1).toNat + 1 := (by omega); subst ix2)
  omega
def g_261v_s_11 : vG := ([(1, [22, 20, 21], [], 0), (0, [21], [], 1), (22, [20, 19, 1], [3], 0), (90, [20], [], 0), (91, [20], [], 8), (20, [19, 0], [3], 76), (0, [19], [], 338), (80, [13, 18, 2], [3, 2], 0), (1, [18, 15, 17], [], 0), (22, [17, 16, 1], [2], 0), (90, [17], [], 0), (91, [17], [], 8), (20, [16, 0], [2], 76), (0, [16], [], 338), (3, [15, 14, 1], [], 0), (0, [14], [], 8), (20, [13, 0], [2], 77), (0, [13], [], 339), (31, [12], [], 0), (1251, [12, 2, 10, 11], [1, 2], 0), (90, [12], [], 0), (91, [12], [], 1), (0, [11], [], 59), (0, [10], [], 0), (41, [8, 9], [], 0), (0, [9], [], 8), (22, [8, 7, 1], [1], 0), (90, [8], [], 0), (91, [8], [], 8), (20, [7, 0], [1], 76), (0, [7], [], 338), (31, [3], [], 0), (1250, [3, 0, 1], [0, 1], 0), (90, [3], [], 0), (91, [3], [], 1), (6000, [0, 1, 2], [0], 0), (0, [0], [], 285), (90, [1], [], -2147483648), (91, [1], [], 2147483647), (90, [2], [], -2147483648), (91, [2], [], 2147483647)], (90, [22], [], 0))
theorem c_261v_s_11 : vOkm T0 (eP e_261v L_261v A_261v mu_261v none) 3 g_261v_s_11 := vOk_in fun ρ η h => by
  obtain ⟨f0, f1, f2, f3, f4, f5, f6, f7, f8, f9, f10, f11, f12, f13, f14, f15, f16, f17, f18, f19, f20, f21, f22, f23, f24, f25, f26, f27, f28, f29, f30, f31, f32, f33, f34, f35, f36, f37, f38, f39, f40, _⟩ := h
  exact q_261v_8 (n0 := ρ 2) (n1 := ρ 1) (n2 := ρ 0) (n3 := ρ 3) (n4 := ρ 7) (n5 := ρ 8) (n6 := ρ 9) (n7 := ρ 10) (n8 := ρ 11) (n9 := ρ 12) (n10 := ρ 13) (n11 := ρ 14) (n12 := ρ 15) (n13 := ρ 16) (n14 := ρ 17) (n15 := ρ 18) (n16 := ρ 19) (n17 := ρ 20) (n18 := ρ 21) (n19 := ρ 22) (H0 := η 0) (H1 := η 1) (H2 := η 2) (H3 := η 3) f40 f39 f38 f37 f36 f35 f34 f33 f32 f31 f30 f29 f28 f27 f26 f25 f24 f23 f22 f21 f20 f19 f18 f17 f16 f15 f14 f13 f12 f11 f10 f9 f8 f7 f6 f5 f4 f3 f2 f1 f0
theorem q_261v_9 {n0 n1 n2 n3 n4 n5 n6 n7 n8 n9 n10 n11 n12 n13 n14 n15 n16 n17 n18 n19 : Int} {H0 H1 H2 H3 : gH} (f0 : n0 ≤ 2147483647) (f1 : (-2147483648) ≤ n0) (f2 : n1 ≤ 2147483647) (f3 : (-2147483648) ≤ n1) (f4 : n2 = 285) (f5 : hWt T0 H0 ∧ True) (f6 : n3 ≤ 1) (f7 : 0 ≤ n3) (f8 : (hLe T0 H0 H1 ∧ hFr s_250.2.2.2.2 H0 H1 ∧ ((0 : Int) = 0 → H1.length = H0.length) ∧ hWt T0 H1) ∧ postb_250 n3 n2 n1 H0 H1) (f9 : n3 ≠ 0) (f10 : n4 = 338) (f11 : n4 = hV H1 (n2).toNat 76) (f12 : n5 ≤ 8) (f13 : 0 ≤ n5) (f14 : n5 = hV H1 (n4).toNat (n1).toNat) (f15 : n6 = 8) (f16 : n5 ≠ n6) (f17 : n7 = 0) (f18 : n8 = 59) (f19 : n9 ≤ 1) (f20 : 0 ≤ n9) (f21 : (hLe T0 H1 H2 ∧ hFr s_251.2.2.2.2 H1 H2 ∧ ((0 : Int) = 0 → H2.length = H1.length) ∧ hWt T0 H2) ∧ postb_251 n9 n0 n7 n8 H1 H2) (f22 : n9 ≠ 0) (f23 : n10 = 339) (f24 : n10 = hV H2 (n2).toNat 77) (f25 : n11 = 8) (f26 : n12 = w32 (n11 * n1)) (f27 : n13 = 338) (f28 : n13 = hV H2 (n2).toNat 76) (f29 : n14 ≤ 8) (f30 : 0 ≤ n14) (f31 : n14 = hV H2 (n13).toNat (n1).toNat) (f32 : n15 = w32 (n12 + n14)) (f33 : hUpd H3 H2 n10 n15 n0) (f34 : n16 = 338) (f35 : n16 = hV H3 (n2).toNat 76) (f36 : n17 ≤ 8) (f37 : 0 ≤ n17) (f38 : n17 = hV H3 (n16).toNat (n1).toNat) (f39 : n18 = 1) (f40 : n19 = w32 (n17 + n18)) : n19 ≤ 8 := by
  unfold postb_250 at f8
  unfold postb_251 at f21
  have e0 : hV H1 338 = hV H0 338 := fRow f8.1.2.1 338 (by decide +kernel)
  have e1 : n5 = hV H0 338 (n1).toNat := (by rw [f10] at f14; exact f14 : n5 = hV H1 338 (n1).toNat).trans ((congrFun e0 _))
  have e2 : hV H2 338 = hV H1 338 := fRow f21.1.2.1 338 (by decide +kernel)
  have e3 : n14 = hV H0 338 (n1).toNat := (by rw [f27] at f31; exact f31 : n14 = hV H2 338 (n1).toNat).trans (((congrFun e2 _)).trans ((congrFun e0 _)))
  have e4 : hV H3 338 = hV H2 338 := uRowNe f33 _ (iS (show n10 = ((339 : Nat) : Int) from f23) rfl)
  have e5 : n17 = hV H0 338 (n1).toNat := (by rw [f34] at f38; exact f38 : n17 = hV H3 338 (n1).toNat).trans (((congrFun e4 _)).trans (((congrFun e2 _)).trans ((congrFun e0 _))))
  have e6 : hV H1 285 64 = hV H0 285 64 := f8.1.2.1.1 285 64 (by decide +kernel)
  have e7 : hV H1 285 64 = hV H0 285 64 := e6
  have e8 : (0 : Int) ≤ hV H1 285 64 ∧ hV H1 285 64 ≤ 20 := f8.1.2.2.2 285 64 _ _ (by decide +kernel)
  have e9 : (0 : Int) ≤ hV H0 285 64 ∧ hV H0 285 64 ≤ 20 := f5.1 285 64 _ _ (by decide +kernel)
  try simp only [e7] at f8
  try simp only [e7] at f21
  try simp only [e7] at e8
  try simp only [e7] at e9
  try simp only [e7]
  have r0_0 := f8.2
  have r1_0 := f21.2
  try simp only [e7] at r0_0
  try simp only [e7] at r1_0
  clear f11 f14 f24 f28 f31 f35 f38 e0 e2 e4 e6 e7
  subst e1
  subst e3
  subst e5
  rw [f25] at f26
  unfold w32 at *
  try (have ix0 : n12 = 8 * n1 := (by omega); subst ix0)
  try (have ix1 : n15 = (8 * n1) + hV H0 338 (n1).toNat := (by omega); subst ix1)
  try (have ix2 : n19 = hV H0 338 (n1).toNat + 1 := (by omega); subst ix2)
  omega
def g_261v_s_12 : vG := ([(1, [22, 20, 21], [], 0), (0, [21], [], 1), (22, [20, 19, 1], [3], 0), (90, [20], [], 0), (91, [20], [], 8), (20, [19, 0], [3], 76), (0, [19], [], 338), (80, [13, 18, 2], [3, 2], 0), (1, [18, 15, 17], [], 0), (22, [17, 16, 1], [2], 0), (90, [17], [], 0), (91, [17], [], 8), (20, [16, 0], [2], 76), (0, [16], [], 338), (3, [15, 14, 1], [], 0), (0, [14], [], 8), (20, [13, 0], [2], 77), (0, [13], [], 339), (31, [12], [], 0), (1251, [12, 2, 10, 11], [1, 2], 0), (90, [12], [], 0), (91, [12], [], 1), (0, [11], [], 59), (0, [10], [], 0), (41, [8, 9], [], 0), (0, [9], [], 8), (22, [8, 7, 1], [1], 0), (90, [8], [], 0), (91, [8], [], 8), (20, [7, 0], [1], 76), (0, [7], [], 338), (31, [3], [], 0), (1250, [3, 0, 1], [0, 1], 0), (90, [3], [], 0), (91, [3], [], 1), (6000, [0, 1, 2], [0], 0), (0, [0], [], 285), (90, [1], [], -2147483648), (91, [1], [], 2147483647), (90, [2], [], -2147483648), (91, [2], [], 2147483647)], (91, [22], [], 8))
theorem c_261v_s_12 : vOkm T0 (eP e_261v L_261v A_261v mu_261v none) 3 g_261v_s_12 := vOk_in fun ρ η h => by
  obtain ⟨f0, f1, f2, f3, f4, f5, f6, f7, f8, f9, f10, f11, f12, f13, f14, f15, f16, f17, f18, f19, f20, f21, f22, f23, f24, f25, f26, f27, f28, f29, f30, f31, f32, f33, f34, f35, f36, f37, f38, f39, f40, _⟩ := h
  exact q_261v_9 (n0 := ρ 2) (n1 := ρ 1) (n2 := ρ 0) (n3 := ρ 3) (n4 := ρ 7) (n5 := ρ 8) (n6 := ρ 9) (n7 := ρ 10) (n8 := ρ 11) (n9 := ρ 12) (n10 := ρ 13) (n11 := ρ 14) (n12 := ρ 15) (n13 := ρ 16) (n14 := ρ 17) (n15 := ρ 18) (n16 := ρ 19) (n17 := ρ 20) (n18 := ρ 21) (n19 := ρ 22) (H0 := η 0) (H1 := η 1) (H2 := η 2) (H3 := η 3) f40 f39 f38 f37 f36 f35 f34 f33 f32 f31 f30 f29 f28 f27 f26 f25 f24 f23 f22 f21 f20 f19 f18 f17 f16 f15 f14 f13 f12 f11 f10 f9 f8 f7 f6 f5 f4 f3 f2 f1 f0
def g_261v_s_13 : vG := ([(3, [15, 14, 1], [], 0), (0, [14], [], 8), (31, [12], [], 0), (1251, [12, 2, 10, 11], [1, 2], 0), (90, [12], [], 0), (91, [12], [], 1), (0, [11], [], 59), (0, [10], [], 0), (31, [3], [], 0), (1250, [3, 0, 1], [0, 1], 0), (90, [3], [], 0), (91, [3], [], 1), (6000, [0, 1, 2], [0], 0), (0, [0], [], 285), (90, [1], [], -2147483648), (91, [1], [], 2147483647), (90, [2], [], -2147483648), (91, [2], [], 2147483647)], (70, [1], [], 20))
theorem c_261v_s_13 : vOkm T0 (eP e_261v L_261v A_261v mu_261v none) 3 g_261v_s_13 := vOk_in fun ρ η h => by
  obtain ⟨f0, f1, f2, f3, f4, f5, f6, f7, f8, f9, f10, f11, f12, f13, f14, f15, f16, f17, _⟩ := h
  exact q_261v_4 (n0 := ρ 2) (n1 := ρ 1) (n2 := ρ 0) (n3 := ρ 3) (n4 := ρ 10) (n5 := ρ 11) (n6 := ρ 12) (n7 := ρ 14) (n8 := ρ 15) (H0 := η 0) (H1 := η 1) (H2 := η 2) f17 f16 f15 f14 f13 f12 f11 f10 f9 f8 f7 f6 f5 f4 f3 f2 f1 f0
theorem q_261v_10 {n0 n1 n2 n3 n4 n5 n6 n7 n8 n9 n10 n11 n12 n13 n14 n15 n16 n17 n18 n19 n20 n21 n22 n23 n24 : Int} {H0 H1 H2 H3 H4 : gH} (f0 : n0 ≤ 2147483647) (f1 : (-2147483648) ≤ n0) (f2 : n1 ≤ 2147483647) (f3 : (-2147483648) ≤ n1) (f4 : n2 = 285) (f5 : hWt T0 H0 ∧ True) (f6 : n3 ≤ 1) (f7 : 0 ≤ n3) (f8 : (hLe T0 H0 H1 ∧ hFr s_250.2.2.2.2 H0 H1 ∧ ((0 : Int) = 0 → H1.length = H0.length) ∧ hWt T0 H1) ∧ postb_250 n3 n2 n1 H0 H1) (f9 : n3 ≠ 0) (f10 : n4 = 328) (f11 : n4 = hV H1 (n2).toNat 66) (f12 : n5 ≤ 6) (f13 : 0 ≤ n5) (f14 : n5 = hV H1 (n4).toNat (n1).toNat) (f15 : n6 = 2) (f16 : n5 = n6) (f17 : n7 = 338) (f18 : n7 = hV H1 (n2).toNat 76) (f19 : n8 ≤ 8) (f20 : 0 ≤ n8) (f21 : n8 = hV H1 (n7).toNat (n1).toNat) (f22 : n9 = 8) (f23 : n8 ≠ n9) (f24 : n10 = 0) (f25 : n11 = 59) (f26 : n12 ≤ 1) (f27 : 0 ≤ n12) (f28 : (hLe T0 H1 H2 ∧ hFr s_251.2.2.2.2 H1 H2 ∧ ((0 : Int) = 0 → H2.length = H1.length) ∧ hWt T0 H2) ∧ postb_251 n12 n0 n10 n11 H1 H2) (f29 : n12 ≠ 0) (f30 : n13 = 339) (f31 : n13 = hV H2 (n2).toNat 77) (f32 : n14 = 8) (f33 : n15 = w32 (n14 * n1)) (f34 : n16 = 338) (f35 : n16 = hV H2 (n2).toNat 76) (f36 : n17 ≤ 8) (f37 : 0 ≤ n17) (f38 : n17 = hV H2 (n16).toNat (n1).toNat) (f39 : n18 = w32 (n15 + n17)) (f40 : hUpd H3 H2 n13 n18 n0) (f41 : n19 = 338) (f42 : n19 = hV H3 (n2).toNat 76) (f43 : n20 ≤ 8) (f44 : 0 ≤ n20) (f45 : n20 = hV H3 (n19).toNat (n1).toNat) (f46 : n21 = 1) (f47 : n22 = w32 (n20 + n21)) (f48 : hUpd H4 H3 n19 n1 n22) (f49 : n23 = 338) (f50 : n23 = hV H4 (n2).toNat 76) (f51 : n24 ≤ 8) (f52 : 0 ≤ n24) (f53 : n24 = hV H4 (n23).toNat (n1).toNat) : postb_261v n24 n2 n1 n0 H0 H4 := by
  unfold postb_250 at f8
  unfold postb_251 at f28
  unfold postb_261v
  have e0 : hV H1 328 = hV H0 328 := fRow f8.1.2.1 328 (by decide +kernel)
  have e1 : n5 = hV H0 328 (n1).toNat := (by rw [f10] at f14; exact f14 : n5 = hV H1 328 (n1).toNat).trans ((congrFun e0 _))
  have e2 : hV H1 338 = hV H0 338 := fRow f8.1.2.1 338 (by decide +kernel)
  have e3 : n8 = hV H0 338 (n1).toNat := (by rw [f17] at f21; exact f21 : n8 = hV H1 338 (n1).toNat).trans ((congrFun e2 _))
  have e4 : hV H2 338 = hV H1 338 := fRow f28.1.2.1 338 (by decide +kernel)
  have e5 : n17 = hV H0 338 (n1).toNat := (by rw [f34] at f38; exact f38 : n17 = hV H2 338 (n1).toNat).trans (((congrFun e4 _)).trans ((congrFun e2 _)))
  have e6 : hV H3 338 = hV H2 338 := uRowNe f40 _ (iS (show n13 = ((339 : Nat) : Int) from f30) rfl)
  have e7 : n20 = hV H0 338 (n1).toNat := (by rw [f41] at f45; exact f45 : n20 = hV H3 338 (n1).toNat).trans (((congrFun e6 _)).trans (((congrFun e4 _)).trans ((congrFun e2 _))))
  have e8 : hV H4 338 = uF (hV H3 338) n1 n22 := uRow f48 _ f41.symm
  have e9 : hV H4 338 (n1).toNat = n22 := uSame f48 _ _ f41.symm (Int.toNat_of_nonneg (by omega))
  have e10 : n24 = n22 := (by rw [f49] at f53; exact f53 : n24 = hV H4 338 (n1).toNat).trans (e9)
  have e11 : hV H1 285 64 = hV H0 285 64 := f8.1.2.1.1 285 64 (by decide +kernel)
  have e12 : hV H1 285 64 = hV H0 285 64 := e11
  have e13 : hV H2 338 = hV H0 338 := e4.trans e2
  have e14 : hV H3 338 = hV H0 338 := e6.trans e13
  have e15 : hV H4 338 = (uF (hV H0 338) n1 n22) := e8.trans (congrArg (fun z => uF z n1 n22) e14)
  have e16 : (0 : Int) ≤ hV H0 285 64 ∧ hV H0 285 64 ≤ 20 := f5.1 285 64 _ _ (by decide +kernel)
  have e17 : (0 : Int) ≤ hV H1 285 64 ∧ hV H1 285 64 ≤ 20 := f8.1.2.2.2 285 64 _ _ (by decide +kernel)
  try simp only [e12, e15] at f8
  try simp only [e12, e15] at f28
  try simp only [e12, e15] at e16
  try simp only [e12, e15] at e17
  try simp only [e12, e15]
  have r0_0 := f8.2
  have r1_0 := f28.2
  try simp only [e12, e15] at r0_0
  try simp only [e12, e15] at r1_0
  clear f11 f14 f18 f21 f31 f35 f38 f42 f45 f50 f53 e0 e2 e4 e6 e11 e12 e13 e14 e15
  subst e1
  subst e3
  subst e5
  subst e7
  rw [f32] at f33
  unfold w32 at *
  try (have ix0 : n15 = 8 * n1 := (by omega); subst ix0)
  try (have ix1 : n18 = (8 * n1) + hV H0 338 (n1).toNat := (by omega); subst ix1)
  try (have ix2 : n22 = hV H0 338 (n1).toNat + 1 := (by omega); subst ix2)

  refine .inl ⟨by omega, by (try simp only [uF_at]); omega, ?_⟩
  first | rfl | (congr 1; (try simp only [uF_at]); omega) | (congr 1 <;> ((try simp only [uF_at]); omega))
def g_261v_s_14 : vG := ([(22, [24, 23, 1], [4], 0), (90, [24], [], 0), (91, [24], [], 8), (20, [23, 0], [4], 76), (0, [23], [], 338), (80, [19, 1, 22], [4, 3], 0), (1, [22, 20, 21], [], 0), (0, [21], [], 1), (22, [20, 19, 1], [3], 0), (90, [20], [], 0), (91, [20], [], 8), (20, [19, 0], [3], 76), (0, [19], [], 338), (80, [13, 18, 2], [3, 2], 0), (1, [18, 15, 17], [], 0), (22, [17, 16, 1], [2], 0), (90, [17], [], 0), (91, [17], [], 8), (20, [16, 0], [2], 76), (0, [16], [], 338), (3, [15, 14, 1], [], 0), (0, [14], [], 8), (20, [13, 0], [2], 77), (0, [13], [], 339), (31, [12], [], 0), (1251, [12, 2, 10, 11], [1, 2], 0), (90, [12], [], 0), (91, [12], [], 1), (0, [11], [], 59), (0, [10], [], 0), (41, [8, 9], [], 0), (0, [9], [], 8), (22, [8, 7, 1], [1], 0), (90, [8], [], 0), (91, [8], [], 8), (20, [7, 0], [1], 76), (0, [7], [], 338), (40, [5, 6], [], 0), (0, [6], [], 2), (22, [5, 4, 1], [1], 0), (90, [5], [], 0), (91, [5], [], 6), (20, [4, 0], [1], 66), (0, [4], [], 328), (31, [3], [], 0), (1250, [3, 0, 1], [0, 1], 0), (90, [3], [], 0), (91, [3], [], 1), (6000, [0, 1, 2], [0], 0), (0, [0], [], 285), (90, [1], [], -2147483648), (91, [1], [], 2147483647), (90, [2], [], -2147483648), (91, [2], [], 2147483647)], (3000, [24], [4], 74))
theorem c_261v_s_14 : vOkm T0 (eP e_261v L_261v A_261v mu_261v none) 3 g_261v_s_14 := vOk_in fun ρ η h => by
  obtain ⟨f0, f1, f2, f3, f4, f5, f6, f7, f8, f9, f10, f11, f12, f13, f14, f15, f16, f17, f18, f19, f20, f21, f22, f23, f24, f25, f26, f27, f28, f29, f30, f31, f32, f33, f34, f35, f36, f37, f38, f39, f40, f41, f42, f43, f44, f45, f46, f47, f48, f49, f50, f51, f52, f53, _⟩ := h
  exact q_261v_10 (n0 := ρ 2) (n1 := ρ 1) (n2 := ρ 0) (n3 := ρ 3) (n4 := ρ 4) (n5 := ρ 5) (n6 := ρ 6) (n7 := ρ 7) (n8 := ρ 8) (n9 := ρ 9) (n10 := ρ 10) (n11 := ρ 11) (n12 := ρ 12) (n13 := ρ 13) (n14 := ρ 14) (n15 := ρ 15) (n16 := ρ 16) (n17 := ρ 17) (n18 := ρ 18) (n19 := ρ 19) (n20 := ρ 20) (n21 := ρ 21) (n22 := ρ 22) (n23 := ρ 23) (n24 := ρ 24) (H0 := η 0) (H1 := η 1) (H2 := η 2) (H3 := η 3) (H4 := η 4) f53 f52 f51 f50 f49 f48 f47 f46 f45 f44 f43 f42 f41 f40 f39 f38 f37 f36 f35 f34 f33 f32 f31 f30 f29 f28 f27 f26 f25 f24 f23 f22 f21 f20 f19 f18 f17 f16 f15 f14 f13 f12 f11 f10 f9 f8 f7 f6 f5 f4 f3 f2 f1 f0
theorem q_261v_11 {n0 n1 n2 n3 n4 n5 n6 n7 n8 n9 n10 n11 n12 n13 : Int} {H0 H1 H2 : gH} (f0 : n0 ≤ 2147483647) (f1 : (-2147483648) ≤ n0) (f2 : n1 ≤ 2147483647) (f3 : (-2147483648) ≤ n1) (f4 : n2 = 285) (f5 : hWt T0 H0 ∧ True) (f6 : n3 ≤ 1) (f7 : 0 ≤ n3) (f8 : (hLe T0 H0 H1 ∧ hFr s_250.2.2.2.2 H0 H1 ∧ ((0 : Int) = 0 → H1.length = H0.length) ∧ hWt T0 H1) ∧ postb_250 n3 n2 n1 H0 H1) (f9 : n3 ≠ 0) (f10 : n4 = 328) (f11 : n4 = hV H1 (n2).toNat 66) (f12 : n5 ≤ 6) (f13 : 0 ≤ n5) (f14 : n5 = hV H1 (n4).toNat (n1).toNat) (f15 : n6 = 2) (f16 : n5 = n6) (f17 : n7 = 338) (f18 : n7 = hV H1 (n2).toNat 76) (f19 : n8 ≤ 8) (f20 : 0 ≤ n8) (f21 : n8 = hV H1 (n7).toNat (n1).toNat) (f22 : n9 = 8) (f23 : n8 ≠ n9) (f24 : n10 = 0) (f25 : n11 = 59) (f26 : n12 ≤ 1) (f27 : 0 ≤ n12) (f28 : (hLe T0 H1 H2 ∧ hFr s_251.2.2.2.2 H1 H2 ∧ ((0 : Int) = 0 → H2.length = H1.length) ∧ hWt T0 H2) ∧ postb_251 n12 n0 n10 n11 H1 H2) (f29 : n12 = 0) (f30 : n13 = (-1)) : postb_261v n13 n2 n1 n0 H0 H2 := by
  unfold postb_250 at f8
  unfold postb_251 at f28
  unfold postb_261v
  have e0 : hV H1 328 = hV H0 328 := fRow f8.1.2.1 328 (by decide +kernel)
  have e1 : n5 = hV H0 328 (n1).toNat := (by rw [f10] at f14; exact f14 : n5 = hV H1 328 (n1).toNat).trans ((congrFun e0 _))
  have e2 : hV H1 338 = hV H0 338 := fRow f8.1.2.1 338 (by decide +kernel)
  have e3 : n8 = hV H0 338 (n1).toNat := (by rw [f17] at f21; exact f21 : n8 = hV H1 338 (n1).toNat).trans ((congrFun e2 _))
  have e4 : hV H1 285 64 = hV H0 285 64 := f8.1.2.1.1 285 64 (by decide +kernel)
  have e5 : hV H1 285 64 = hV H0 285 64 := e4
  have e6 : hV H2 338 = hV H1 338 := fRow f28.1.2.1 338 (by decide +kernel)
  have e7 : hV H2 338 = hV H0 338 := e6.trans e2
  have e8 : (0 : Int) ≤ hV H0 285 64 ∧ hV H0 285 64 ≤ 20 := f5.1 285 64 _ _ (by decide +kernel)
  have e9 : (0 : Int) ≤ hV H1 285 64 ∧ hV H1 285 64 ≤ 20 := f8.1.2.2.2 285 64 _ _ (by decide +kernel)
  try simp only [e5, e7] at f8
  try simp only [e5, e7] at f28
  try simp only [e5, e7] at e8
  try simp only [e5, e7] at e9
  try simp only [e5, e7]
  have r0_0 := f8.2
  have r1_0 := f28.2
  try simp only [e5, e7] at r0_0
  try simp only [e5, e7] at r1_0
  clear f11 f14 f18 f21 e0 e2 e4 e5 e6 e7
  subst e1
  subst e3

  refine .inr ⟨by omega, by omega, by first | trivial | rfl | assumption⟩
def g_261v_s_15 : vG := ([(0, [13], [], -1), (30, [12], [], 0), (1251, [12, 2, 10, 11], [1, 2], 0), (90, [12], [], 0), (91, [12], [], 1), (0, [11], [], 59), (0, [10], [], 0), (41, [8, 9], [], 0), (0, [9], [], 8), (22, [8, 7, 1], [1], 0), (90, [8], [], 0), (91, [8], [], 8), (20, [7, 0], [1], 76), (0, [7], [], 338), (40, [5, 6], [], 0), (0, [6], [], 2), (22, [5, 4, 1], [1], 0), (90, [5], [], 0), (91, [5], [], 6), (20, [4, 0], [1], 66), (0, [4], [], 328), (31, [3], [], 0), (1250, [3, 0, 1], [0, 1], 0), (90, [3], [], 0), (91, [3], [], 1), (6000, [0, 1, 2], [0], 0), (0, [0], [], 285), (90, [1], [], -2147483648), (91, [1], [], 2147483647), (90, [2], [], -2147483648), (91, [2], [], 2147483647)], (3000, [13], [2], 40))
theorem c_261v_s_15 : vOkm T0 (eP e_261v L_261v A_261v mu_261v none) 3 g_261v_s_15 := vOk_in fun ρ η h => by
  obtain ⟨f0, f1, f2, f3, f4, f5, f6, f7, f8, f9, f10, f11, f12, f13, f14, f15, f16, f17, f18, f19, f20, f21, f22, f23, f24, f25, f26, f27, f28, f29, f30, _⟩ := h
  exact q_261v_11 (n0 := ρ 2) (n1 := ρ 1) (n2 := ρ 0) (n3 := ρ 3) (n4 := ρ 4) (n5 := ρ 5) (n6 := ρ 6) (n7 := ρ 7) (n8 := ρ 8) (n9 := ρ 9) (n10 := ρ 10) (n11 := ρ 11) (n12 := ρ 12) (n13 := ρ 13) (H0 := η 0) (H1 := η 1) (H2 := η 2) f30 f29 f28 f27 f26 f25 f24 f23 f22 f21 f20 f19 f18 f17 f16 f15 f14 f13 f12 f11 f10 f9 f8 f7 f6 f5 f4 f3 f2 f1 f0
def p_261v_s : List vG := [g_261v_s_0,
  g_261v_s_1,
  g_261v_s_2,
  g_261v_s_3,
  g_261v_s_4,
  g_261v_s_5,
  g_261v_s_6,
  g_261v_s_7,
  g_261v_s_8,
  g_261v_s_9,
  g_261v_s_10,
  g_261v_s_11,
  g_261v_s_12,
  g_261v_s_13,
  g_261v_s_14,
  g_261v_s_15]
theorem r_261v_s : vCovO false (eR0 e_261v L_261v cs_261v 2000) p_261v_s = true := by decide +kernel
theorem m_261v (d : Nat) : eC e_261v (d + 2) := eC_ok (e := e_261v) (L := L_261v) (cs := cs_261v) (n := 2000) (d := d + 1) (A := A_261v) (μ := mu_261v) (tp := false) (p0 := p_261v_s) rfl ⟨m_250 d, ⟨m_251 d, trivial⟩⟩ rfl (.inr pre0_ok) (by decide +kernel) (fun z => nomatch z) r_261v_s (allC c_261v_s_0 (allC c_261v_s_1 (allC c_261v_s_2 (allC c_261v_s_3 (allC c_261v_s_4 (allC c_261v_s_5 (allC c_261v_s_6 (allC c_261v_s_7 (allC c_261v_s_8 (allC c_261v_s_9 (allC c_261v_s_10 (allC c_261v_s_11 (allC c_261v_s_12 (allC c_261v_s_13 (allC c_261v_s_14 (allC c_261v_s_15 allN)))))))))))))))) allN
