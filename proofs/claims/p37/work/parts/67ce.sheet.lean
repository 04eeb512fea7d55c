/-! CONTRACTS of methods told more fully. -/
/- MixStageModel.sound (IIII)I -/
noncomputable def s_253v : vM := ([(3, 12, 285, 0), (0, -2147483648, 2147483647, 0), (0, -2147483648, 2147483647, 0), (0, -2147483648, 2147483647, 0), (0, -2147483648, 2147483647, 0)], (0, -2147483648, 2147483647, 0), 1, 0, [(12, 64), (12, 65), (452, 0), (460, 0), (468, 0), (476, 0), (484, 0), (492, 0), (500, 0), (508, 0), (516, 0), (532, 0)])
def preb_253v (a0 a1 a2 a3 a4 : Int) (h : gH) : Prop := hV h 285 65 ≤ 20000 ∧ SO h ∧ SS h ∧ AC h
def pre_253v : List Int → gH → Prop := fun xs h => match xs with
  | [a0, a1, a2, a3, a4] => preb_253v a0 a1 a2 a3 a4 h
  | _ => False
def postb_253v (r a0 a1 a2 a3 a4 : Int) (h0 h : gH) : Prop := SO h ∧ SS h ∧ hV h 285 65 ≤ hV h0 285 65 + 1 ∧ AC h ∧ ((SNCp a1 a2 a3 a4 ∧ hV h0 285 64 ≤ 19 ∧ ADDm r a1 a2 (hV h0 285 64) (hV h 285 64) (hV h0 328) (hV h0 338) (hV h0 329) (hV h 328) (hV h 338) (hV h 329)) ∨ (¬ (SNCp a1 a2 a3 a4 ∧ hV h0 285 64 ≤ 19) ∧ r = -1 ∧ SAMm (hV h0 285 64) (hV h 285 64) (hV h0 328) (hV h0 338) (hV h0 329) (hV h 328) (hV h 338) (hV h 329)))
def post_253v : List Int → gH → gH → Prop := fun xs h0 h => match xs with
  | [r, a0, a1, a2, a3, a4] => postb_253v r a0 a1 a2 a3 a4 h0 h
  | _ => True
noncomputable def e_253v : vE := (253, s_253v, pre_253v, post_253v)
noncomputable def L_253v : List vE := [e_251, e_252v]
def cs_253v : List vC := [(36, [(0, (3, 12, 285, 0)), (1, (0, -2147483648, 2147483647, 0)), (2, (0, -2147483648, 2147483647, 0)), (3, (0, -2147483648, 2147483647, 0)), (4, (0, -2147483648, 2147483647, 0))]), (85, [(0, (3, 12, 285, 0)), (1, (0, -2147483648, 2147483647, 0)), (2, (0, -2147483648, 2147483647, 0)), (3, (0, -2147483648, 2147483647, 0)), (4, (0, -2147483648, 2147483647, 0))])]
def Ab_253v_36 (a0 a1 a2 a3 a4 x0 x1 x2 x3 x4 : Int) (h0 h : gH) : Prop := x1 = a1 ∧ x2 = a2 ∧ x3 = a3 ∧ x4 = a4 ∧ hV h 285 64 ≤ 19 ∧ 0 ≤ a1 ∧ a1 ≤ 3 ∧ -1 ≤ a2 ∧ a2 ≤ 240 ∧ hV h 285 65 ≤ hV h0 285 65 ∧ SO h ∧ SS h ∧ AC h ∧ ¬ a2 = 0 ∧ hV h 285 64 = hV h0 285 64 ∧ (hV h 328) = (hV h0 328) ∧ (hV h 338) = (hV h0 338) ∧ (hV h 329) = (hV h0 329)
def mub_253v_36 (a0 a1 a2 a3 a4 x0 x1 x2 x3 x4 : Int) (h0 h : gH) : Nat := 1
def Ab_253v_85 (a0 a1 a2 a3 a4 x0 x1 x2 x3 x4 : Int) (h0 h : gH) : Prop := x1 = a1 ∧ x2 = a2 ∧ x3 = a3 ∧ x4 = a4 ∧ hV h 285 64 ≤ 19 ∧ 0 ≤ a1 ∧ a1 ≤ 3 ∧ -1 ≤ a2 ∧ a2 ≤ 240 ∧ hV h 285 65 ≤ hV h0 285 65 ∧ SO h ∧ SS h ∧ AC h ∧ ¬ a2 = 0 ∧ hV h 285 64 = hV h0 285 64 ∧ (hV h 328) = (hV h0 328) ∧ (hV h 338) = (hV h0 338) ∧ (hV h 329) = (hV h0 329) ∧ (a1 = 1 → 0 ≤ a3 ∧ a3 < a4 ∧ a4 ≤ 240 ∧ (a2 = -1 ∨ a4 ≤ a2)) ∧ (a1 = 3 → 0 ≤ a3 ∧ a3 ≤ 7)
def mub_253v_85 (a0 a1 a2 a3 a4 x0 x1 x2 x3 x4 : Int) (h0 h : gH) : Nat := 0
def A_253v : Int → List Int → gH → gH → Prop := fun c xs h0 h => match c.toNat with
  | 36 => (match xs with
    | [a0, a1, a2, a3, a4, x0, x1, x2, x3, x4] => Ab_253v_36 a0 a1 a2 a3 a4 x0 x1 x2 x3 x4 h0 h
    | _ => False)
  | 85 => (match xs with
    | [a0, a1, a2, a3, a4, x0, x1, x2, x3, x4] => Ab_253v_85 a0 a1 a2 a3 a4 x0 x1 x2 x3 x4 h0 h
    | _ => False)
  | _ => True
def mu_253v : Int → List Int → gH → gH → Nat := fun c xs h0 h => match c.toNat with
  | 36 => 1
  | 85 => 0
  | _ => 0
theorem q_253v_0 {n0 n1 n2 n3 n4 n5 n6 n7 : Int} {H0 : gH} (f0 : n0 ≤ 2147483647) (f1 : (-2147483648) ≤ n0) (f2 : n1 ≤ 2147483647) (f3 : (-2147483648) ≤ n1) (f4 : n2 ≤ 2147483647) (f5 : (-2147483648) ≤ n2) (f6 : n3 ≤ 2147483647) (f7 : (-2147483648) ≤ n3) (f8 : n4 = 285) (f9 : hWt T0 H0 ∧ preb_253v n4 n3 n2 n1 n0 H0) (f10 : n5 ≤ 20) (f11 : 0 ≤ n5) (f12 : n5 = hV H0 (n4).toNat 64) (f13 : n6 = 20) (f14 : n5 = n6) (f15 : n7 = (-1)) : postb_253v n7 n4 n3 n2 n1 n0 H0 H0 := by
  unfold preb_253v at f9
  unfold postb_253v
  have e0 : n5 = hV H0 285 64 := (by rw [f8] at f12; exact f12 : n5 = hV H0 285 64)
  have e1 : (0 : Int) ≤ hV H0 285 64 ∧ hV H0 285 64 ≤ 20 := f9.1 285 64 _ _ (by decide +kernel)
  have e2 : (0 : Int) ≤ hV H0 285 65 ∧ hV H0 285 65 ≤ 2147483647 := f9.1 285 65 _ _ (by decide +kernel)
  have p0 := f9.2.1
  have p1 := f9.2.2.1
  have p2 := f9.2.2.2.1
  have p3 := f9.2.2.2.2
  clear f12
  subst e0

  refine ⟨?_, ?_, ?_, ?_, ?_⟩
  · assumption
  · assumption
  · omega
  · assumption
  · exact .inr ⟨fun z => by have z1 := z.1; unfold SNCp at z1; omega, by omega, by omega, by first | rfl | assumption, by first | rfl | assumption, by first | rfl | assumption⟩
def g_253v_s_0 : vG := ([(0, [7], [], -1), (40, [5, 6], [], 0), (0, [6], [], 20), (20, [5, 0], [0], 64), (90, [5], [], 0), (91, [5], [], 20), (6000, [0, 1, 2, 3, 4], [0], 0), (0, [0], [], 285), (90, [1], [], -2147483648), (91, [1], [], 2147483647), (90, [2], [], -2147483648), (91, [2], [], 2147483647), (90, [3], [], -2147483648), (91, [3], [], 2147483647), (90, [4], [], -2147483648), (91, [4], [], 2147483647)], (3000, [7], [0], 35))
theorem c_253v_s_0 : vOkm T0 (eP e_253v L_253v A_253v mu_253v none) 5 g_253v_s_0 := vOk_in fun ρ η h => by
  obtain ⟨f0, f1, f2, f3, f4, f5, f6, f7, f8, f9, f10, f11, f12, f13, f14, f15, _⟩ := h
  exact q_253v_0 (n0 := ρ 4) (n1 := ρ 3) (n2 := ρ 2) (n3 := ρ 1) (n4 := ρ 0) (n5 := ρ 5) (n6 := ρ 6) (n7 := ρ 7) (H0 := η 0) f15 f14 f13 f12 f11 f10 f9 f8 f7 f6 f5 f4 f3 f2 f1 f0
theorem q_253v_1 {n0 n1 n2 n3 n4 n5 n6 n7 n8 n9 n10 : Int} {H0 H1 : gH} (f0 : n0 ≤ 2147483647) (f1 : (-2147483648) ≤ n0) (f2 : n1 ≤ 2147483647) (f3 : (-2147483648) ≤ n1) (f4 : n2 ≤ 2147483647) (f5 : (-2147483648) ≤ n2) (f6 : n3 ≤ 2147483647) (f7 : (-2147483648) ≤ n3) (f8 : n4 = 285) (f9 : hWt T0 H0 ∧ preb_253v n4 n3 n2 n1 n0 H0) (f10 : n5 ≤ 20) (f11 : 0 ≤ n5) (f12 : n5 = hV H0 (n4).toNat 64) (f13 : n6 = 20) (f14 : n5 ≠ n6) (f15 : n7 = 0) (f16 : n8 = 3) (f17 : n9 ≤ 1) (f18 : 0 ≤ n9) (f19 : (hLe T0 H0 H1 ∧ hFr s_251.2.2.2.2 H0 H1 ∧ ((0 : Int) = 0 → H1.length = H0.length) ∧ hWt T0 H1) ∧ postb_251 n9 n3 n7 n8 H0 H1) (f20 : n9 = 0) (f21 : n10 = (-1)) : postb_253v n10 n4 n3 n2 n1 n0 H0 H1 := by
  unfold preb_253v at f9
  unfold postb_251 at f19
  unfold postb_253v
  have e0 : n5 = hV H0 285 64 := (by rw [f8] at f12; exact f12 : n5 = hV H0 285 64)
  have e1 : hV H1 285 64 = hV H0 285 64 := f19.1.2.1.1 285 64 (by decide +kernel)
  have e2 : hV H1 285 64 = hV H0 285 64 := e1
  have e3 : hV H1 285 65 = hV H0 285 65 := f19.1.2.1.1 285 65 (by decide +kernel)
  have e4 : hV H1 285 65 = hV H0 285 65 := e3
  have e5 : hV H1 328 = hV H0 328 := fRow f19.1.2.1 328 (by decide +kernel)
  have e6 : hV H1 329 = hV H0 329 := fRow f19.1.2.1 329 (by decide +kernel)
  have e7 : hV H1 338 = hV H0 338 := fRow f19.1.2.1 338 (by decide +kernel)
  have e8 : AC H1 = AC H0 := AC_fr f19.1.2.1 (by decide +kernel)
  have e9 : SO H1 = SO H0 := SO_fr f19.1.2.1 (by decide +kernel)
  have e10 : SS H1 = SS H0 := SS_fr f19.1.2.1 (by decide +kernel)
  have e11 : (0 : Int) ≤ hV H0 285 64 ∧ hV H0 285 64 ≤ 20 := f9.1 285 64 _ _ (by decide +kernel)
  have e12 : (0 : Int) ≤ hV H0 285 65 ∧ hV H0 285 65 ≤ 2147483647 := f9.1 285 65 _ _ (by decide +kernel)
  have e13 : (0 : Int) ≤ hV H1 285 64 ∧ hV H1 285 64 ≤ 20 := f19.1.2.2.2 285 64 _ _ (by decide +kernel)
  have e14 : (0 : Int) ≤ hV H1 285 65 ∧ hV H1 285 65 ≤ 2147483647 := f19.1.2.2.2 285 65 _ _ (by decide +kernel)
  try simp only [e2, e4, e5, e6, e7, e8, e9, e10] at f9
  try simp only [e2, e4, e5, e6, e7, e8, e9, e10] at f19
  try simp only [e2, e4, e5, e6, e7, e8, e9, e10] at e11
  try simp only [e2, e4, e5, e6, e7, e8, e9, e10] at e12
  try simp only [e2, e4, e5, e6, e7, e8, e9, e10] at e13
  try simp only [e2, e4, e5, e6, e7, e8, e9, e10] at e14
  try simp only [e2, e4, e5, e6, e7, e8, e9, e10]
  have p0 := f9.2.1
  have p1 := f9.2.2.1
  have p2 := f9.2.2.2.1
  have p3 := f9.2.2.2.2
  have r0_0 := f19.2
  try simp only [e2, e4, e5, e6, e7, e8, e9, e10] at p0
  try simp only [e2, e4, e5, e6, e7, e8, e9, e10] at p1
  try simp only [e2, e4, e5, e6, e7, e8, e9, e10] at p2
  try simp only [e2, e4, e5, e6, e7, e8, e9, e10] at p3
  try simp only [e2, e4, e5, e6, e7, e8, e9, e10] at r0_0
  clear f12 e1 e2 e3 e4 e5 e6 e7 e8 e9 e10
  subst e0

  refine ⟨?_, ?_, ?_, ?_, ?_⟩
  · assumption
  · assumption
  · omega
  · assumption
  · exact .inr ⟨fun z => by have z1 := z.1; unfold SNCp at z1; omega, by omega, by omega, by first | rfl | assumption, by first | rfl | assumption, by first | rfl | assumption⟩
def g_253v_s_1 : vG := ([(0, [10], [], -1), (30, [9], [], 0), (1251, [9, 1, 7, 8], [0, 1], 0), (90, [9], [], 0), (91, [9], [], 1), (0, [8], [], 3), (0, [7], [], 0), (41, [5, 6], [], 0), (0, [6], [], 20), (20, [5, 0], [0], 64), (90, [5], [], 0), (91, [5], [], 20), (6000, [0, 1, 2, 3, 4], [0], 0), (0, [0], [], 285), (90, [1], [], -2147483648), (91, [1], [], 2147483647), (90, [2], [], -2147483648), (91, [2], [], 2147483647), (90, [3], [], -2147483648), (91, [3], [], 2147483647), (90, [4], [], -2147483648), (91, [4], [], 2147483647)], (3000, [10], [1], 35))
theorem c_253v_s_1 : vOkm T0 (eP e_253v L_253v A_253v mu_253v none) 5 g_253v_s_1 := vOk_in fun ρ η h => by
  obtain ⟨f0, f1, f2, f3, f4, f5, f6, f7, f8, f9, f10, f11, f12, f13, f14, f15, f16, f17, f18, f19, f20, f21, _⟩ := h
  exact q_253v_1 (n0 := ρ 4) (n1 := ρ 3) (n2 := ρ 2) (n3 := ρ 1) (n4 := ρ 0) (n5 := ρ 5) (n6 := ρ 6) (n7 := ρ 7) (n8 := ρ 8) (n9 := ρ 9) (n10 := ρ 10) (H0 := η 0) (H1 := η 1) f21 f20 f19 f18 f17 f16 f15 f14 f13 f12 f11 f10 f9 f8 f7 f6 f5 f4 f3 f2 f1 f0
theorem q_253v_2 {n0 n1 n2 n3 n4 n5 n6 n7 n8 n9 n10 : Int} {H0 H1 : gH} (f0 : n0 ≤ 2147483647) (f1 : (-2147483648) ≤ n0) (f2 : n1 ≤ 2147483647) (f3 : (-2147483648) ≤ n1) (f4 : n2 ≤ 2147483647) (f5 : (-2147483648) ≤ n2) (f6 : n3 ≤ 2147483647) (f7 : (-2147483648) ≤ n3) (f8 : n4 = 285) (f9 : hWt T0 H0 ∧ preb_253v n4 n3 n2 n1 n0 H0) (f10 : n5 ≤ 20) (f11 : 0 ≤ n5) (f12 : n5 = hV H0 (n4).toNat 64) (f13 : n6 = 20) (f14 : n5 ≠ n6) (f15 : n7 = 0) (f16 : n8 = 3) (f17 : n9 ≤ 1) (f18 : 0 ≤ n9) (f19 : (hLe T0 H0 H1 ∧ hFr s_251.2.2.2.2 H0 H1 ∧ ((0 : Int) = 0 → H1.length = H0.length) ∧ hWt T0 H1) ∧ postb_251 n9 n3 n7 n8 H0 H1) (f20 : n9 ≠ 0) (f21 : n10 = (-1)) (f22 : n2 = n10) : Ab_253v_36 n4 n3 n2 n1 n0 n4 n3 n2 n1 n0 H0 H1 ∧ ∀ q, none = some q → mub_253v_36 n4 n3 n2 n1 n0 n4 n3 n2 n1 n0 H0 H1 < q := by
  unfold preb_253v at f9
  unfold postb_251 at f19
  unfold Ab_253v_36
  have e0 : n5 = hV H0 285 64 := (by rw [f8] at f12; exact f12 : n5 = hV H0 285 64)
  have e1 : hV H1 285 64 = hV H0 285 64 := f19.1.2.1.1 285 64 (by decide +kernel)
  have e2 : hV H1 285 64 = hV H0 285 64 := e1
  have e3 : hV H1 285 65 = hV H0 285 65 := f19.1.2.1.1 285 65 (by decide +kernel)
  have e4 : hV H1 285 65 = hV H0 285 65 := e3
  have e5 : hV H1 328 = hV H0 328 := fRow f19.1.2.1 328 (by decide +kernel)
  have e6 : hV H1 329 = hV H0 329 := fRow f19.1.2.1 329 (by decide +kernel)
  have e7 : hV H1 338 = hV H0 338 := fRow f19.1.2.1 338 (by decide +kernel)
  have e8 : AC H1 = AC H0 := AC_fr f19.1.2.1 (by decide +kernel)
  have e9 : SO H1 = SO H0 := SO_fr f19.1.2.1 (by decide +kernel)
  have e10 : SS H1 = SS H0 := SS_fr f19.1.2.1 (by decide +kernel)
  have e11 : (0 : Int) ≤ hV H0 285 64 ∧ hV H0 285 64 ≤ 20 := f9.1 285 64 _ _ (by decide +kernel)
  have e12 : (0 : Int) ≤ hV H0 285 65 ∧ hV H0 285 65 ≤ 2147483647 := f9.1 285 65 _ _ (by decide +kernel)
  have e13 : (0 : Int) ≤ hV H1 285 64 ∧ hV H1 285 64 ≤ 20 := f19.1.2.2.2 285 64 _ _ (by decide +kernel)
  have e14 : (0 : Int) ≤ hV H1 285 65 ∧ hV H1 285 65 ≤ 2147483647 := f19.1.2.2.2 285 65 _ _ (by decide +kernel)
  try simp only [e2, e4, e5, e6, e7, e8, e9, e10] at f9
  try simp only [e2, e4, e5, e6, e7, e8, e9, e10] at f19
  try simp only [e2, e4, e5, e6, e7, e8, e9, e10] at e11
  try simp only [e2, e4, e5, e6, e7, e8, e9, e10] at e12
  try simp only [e2, e4, e5, e6, e7, e8, e9, e10] at e13
  try simp only [e2, e4, e5, e6, e7, e8, e9, e10] at e14
  try simp only [e2, e4, e5, e6, e7, e8, e9, e10]
  have p0 := f9.2.1
  have p1 := f9.2.2.1
  have p2 := f9.2.2.2.1
  have p3 := f9.2.2.2.2
  have r0_0 := f19.2
  try simp only [e2, e4, e5, e6, e7, e8, e9, e10] at p0
  try simp only [e2, e4, e5, e6, e7, e8, e9, e10] at p1
  try simp only [e2, e4, e5, e6, e7, e8, e9, e10] at p2
  try simp only [e2, e4, e5, e6, e7, e8, e9, e10] at p3
  try simp only [e2, e4, e5, e6, e7, e8, e9, e10] at r0_0
  clear f12 e1 e2 e3 e4 e5 e6 e7 e8 e9 e10
  subst e0
  refine ⟨?_, fun q hq => ?_⟩
  · refine ⟨?_, ?_, ?_, ?_, ?_, ?_, ?_, ?_, ?_, ?_, ?_, ?_, ?_, ?_, ?_, ?_, ?_, ?_⟩ <;> first | assumption | omega | trivial
  · exact nomatch hq
def g_253v_s_2 : vG := ([(40, [2, 10], [], 0), (0, [10], [], -1), (31, [9], [], 0), (1251, [9, 1, 7, 8], [0, 1], 0), (90, [9], [], 0), (91, [9], [], 1), (0, [8], [], 3), (0, [7], [], 0), (41, [5, 6], [], 0), (0, [6], [], 20), (20, [5, 0], [0], 64), (90, [5], [], 0), (91, [5], [], 20), (6000, [0, 1, 2, 3, 4], [0], 0), (0, [0], [], 285), (90, [1], [], -2147483648), (91, [1], [], 2147483647), (90, [2], [], -2147483648), (91, [2], [], 2147483647), (90, [3], [], -2147483648), (91, [3], [], 2147483647), (90, [4], [], -2147483648), (91, [4], [], 2147483647)], (4000, [0, 1, 2, 3, 4], [1], 36))
theorem c_253v_s_2 : vOkm T0 (eP e_253v L_253v A_253v mu_253v none) 5 g_253v_s_2 := vOk_in fun ρ η h => by
  obtain ⟨f0, f1, f2, f3, f4, f5, f6, f7, f8, f9, f10, f11, f12, f13, f14, f15, f16, f17, f18, f19, f20, f21, f22, _⟩ := h
  exact q_253v_2 (n0 := ρ 4) (n1 := ρ 3) (n2 := ρ 2) (n3 := ρ 1) (n4 := ρ 0) (n5 := ρ 5) (n6 := ρ 6) (n7 := ρ 7) (n8 := ρ 8) (n9 := ρ 9) (n10 := ρ 10) (H0 := η 0) (H1 := η 1) f22 f21 f20 f19 f18 f17 f16 f15 f14 f13 f12 f11 f10 f9 f8 f7 f6 f5 f4 f3 f2 f1 f0
theorem q_253v_3 {n0 n1 n2 n3 n4 n5 n6 n7 n8 n9 n10 n11 n12 n13 : Int} {H0 H1 H2 : gH} (f0 : n0 ≤ 2147483647) (f1 : (-2147483648) ≤ n0) (f2 : n1 ≤ 2147483647) (f3 : (-2147483648) ≤ n1) (f4 : n2 ≤ 2147483647) (f5 : (-2147483648) ≤ n2) (f6 : n3 ≤ 2147483647) (f7 : (-2147483648) ≤ n3) (f8 : n4 = 285) (f9 : hWt T0 H0 ∧ preb_253v n4 n3 n2 n1 n0 H0) (f10 : n5 ≤ 20) (f11 : 0 ≤ n5) (f12 : n5 = hV H0 (n4).toNat 64) (f13 : n6 = 20) (f14 : n5 ≠ n6) (f15 : n7 = 0) (f16 : n8 = 3) (f17 : n9 ≤ 1) (f18 : 0 ≤ n9) (f19 : (hLe T0 H0 H1 ∧ hFr s_251.2.2.2.2 H0 H1 ∧ ((0 : Int) = 0 → H1.length = H0.length) ∧ hWt T0 H1) ∧ postb_251 n9 n3 n7 n8 H0 H1) (f20 : n9 ≠ 0) (f21 : n10 = (-1)) (f22 : n2 ≠ n10) (f23 : n11 = 1) (f24 : n12 = 240) (f25 : n13 ≤ 1) (f26 : 0 ≤ n13) (f27 : (hLe T0 H1 H2 ∧ hFr s_251.2.2.2.2 H1 H2 ∧ ((0 : Int) = 0 → H2.length = H1.length) ∧ hWt T0 H2) ∧ postb_251 n13 n2 n11 n12 H1 H2) (f28 : n13 ≠ 0) : Ab_253v_36 n4 n3 n2 n1 n0 n4 n3 n2 n1 n0 H0 H2 ∧ ∀ q, none = some q → mub_253v_36 n4 n3 n2 n1 n0 n4 n3 n2 n1 n0 H0 H2 < q := by
  unfold preb_253v at f9
  unfold postb_251 at f19
  unfold postb_251 at f27
  unfold Ab_253v_36
  have e0 : n5 = hV H0 285 64 := (by rw [f8] at f12; exact f12 : n5 = hV H0 285 64)
  have e1 : hV H2 285 64 = hV H1 285 64 := f27.1.2.1.1 285 64 (by decide +kernel)
  have e2 : hV H1 285 64 = hV H0 285 64 := f19.1.2.1.1 285 64 (by decide +kernel)
  have e3 : hV H2 285 64 = hV H0 285 64 := (e1).trans e2
  have e4 : hV H2 285 65 = hV H1 285 65 := f27.1.2.1.1 285 65 (by decide +kernel)
  have e5 : hV H1 285 65 = hV H0 285 65 := f19.1.2.1.1 285 65 (by decide +kernel)
  have e6 : hV H2 285 65 = hV H0 285 65 := (e4).trans e5
  have e7 : hV H2 328 = hV H1 328 := fRow f27.1.2.1 328 (by decide +kernel)
  have e8 : hV H1 328 = hV H0 328 := fRow f19.1.2.1 328 (by decide +kernel)
  have e9 : hV H2 328 = hV H0 328 := e7.trans e8
  have e10 : hV H2 329 = hV H1 329 := fRow f27.1.2.1 329 (by decide +kernel)
  have e11 : hV H1 329 = hV H0 329 := fRow f19.1.2.1 329 (by decide +kernel)
  have e12 : hV H2 329 = hV H0 329 := e10.trans e11
  have e13 : hV H2 338 = hV H1 338 := fRow f27.1.2.1 338 (by decide +kernel)
  have e14 : hV H1 338 = hV H0 338 := fRow f19.1.2.1 338 (by decide +kernel)
  have e15 : hV H2 338 = hV H0 338 := e13.trans e14
  have e16 : AC H1 = AC H0 := AC_fr f19.1.2.1 (by decide +kernel)
  have e17 : AC H2 = AC H1 := AC_fr f27.1.2.1 (by decide +kernel)
  have e18 : AC H2 = AC H0 := e17.trans e16
  have e19 : SO H1 = SO H0 := SO_fr f19.1.2.1 (by decide +kernel)
  have e20 : SO H2 = SO H1 := SO_fr f27.1.2.1 (by decide +kernel)
  have e21 : SO H2 = SO H0 := e20.trans e19
  have e22 : SS H1 = SS H0 := SS_fr f19.1.2.1 (by decide +kernel)
  have e23 : SS H2 = SS H1 := SS_fr f27.1.2.1 (by decide +kernel)
  have e24 : SS H2 = SS H0 := e23.trans e22
  have e25 : (0 : Int) ≤ hV H0 285 64 ∧ hV H0 285 64 ≤ 20 := f9.1 285 64 _ _ (by decide +kernel)
  have e26 : (0 : Int) ≤ hV H0 285 65 ∧ hV H0 285 65 ≤ 2147483647 := f9.1 285 65 _ _ (by decide +kernel)
  have e27 : (0 : Int) ≤ hV H2 285 64 ∧ hV H2 285 64 ≤ 20 := f27.1.2.2.2 285 64 _ _ (by decide +kernel)
  have e28 : (0 : Int) ≤ hV H2 285 65 ∧ hV H2 285 65 ≤ 2147483647 := f27.1.2.2.2 285 65 _ _ (by decide +kernel)
  try simp only [e3, e6, e9, e12, e15, e18, e21, e24] at f9
  try simp only [e3, e6, e9, e12, e15, e18, e21, e24] at f19
  try simp only [e3, e6, e9, e12, e15, e18, e21, e24] at f27
  try simp only [e3, e6, e9, e12, e15, e18, e21, e24] at e25
  try simp only [e3, e6, e9, e12, e15, e18, e21, e24] at e26
  try simp only [e3, e6, e9, e12, e15, e18, e21, e24] at e27
  try simp only [e3, e6, e9, e12, e15, e18, e21, e24] at e28
  try simp only [e3, e6, e9, e12, e15, e18, e21, e24]
  have p0 := f9.2.1
  have p1 := f9.2.2.1
  have p2 := f9.2.2.2.1
  have p3 := f9.2.2.2.2
  have r0_0 := f19.2
  have r1_0 := f27.2
  try simp only [e3, e6, e9, e12, e15, e18, e21, e24] at p0
  try simp only [e3, e6, e9, e12, e15, e18, e21, e24] at p1
  try simp only [e3, e6, e9, e12, e15, e18, e21, e24] at p2
  try simp only [e3, e6, e9, e12, e15, e18, e21, e24] at p3
  try simp only [e3, e6, e9, e12, e15, e18, e21, e24] at r0_0
  try simp only [e3, e6, e9, e12, e15, e18, e21, e24] at r1_0
  clear f12 e1 e2 e3 e4 e5 e6 e7 e8 e9 e10 e11 e12 e13 e14 e15 e16 e17 e18 e19 e20 e21 e22 e23 e24
  subst e0
  refine ⟨?_, fun q hq => ?_⟩
  · refine ⟨?_, ?_, ?_, ?_, ?_, ?_, ?_, ?_, ?_, ?_, ?_, ?_, ?_, ?_, ?_, ?_, ?_, ?_⟩ <;> first | assumption | omega | trivial
  · exact nomatch hq
def g_253v_s_3 : vG := ([(31, [13], [], 0), (1251, [13, 2, 11, 12], [1, 2], 0), (90, [13], [], 0), (91, [13], [], 1), (0, [12], [], 240), (0, [11], [], 1), (41, [2, 10], [], 0), (0, [10], [], -1), (31, [9], [], 0), (1251, [9, 1, 7, 8], [0, 1], 0), (90, [9], [], 0), (91, [9], [], 1), (0, [8], [], 3), (0, [7], [], 0), (41, [5, 6], [], 0), (0, [6], [], 20), (20, [5, 0], [0], 64), (90, [5], [], 0), (91, [5], [], 20), (6000, [0, 1, 2, 3, 4], [0], 0), (0, [0], [], 285), (90, [1], [], -2147483648), (91, [1], [], 2147483647), (90, [2], [], -2147483648), (91, [2], [], 2147483647), (90, [3], [], -2147483648), (91, [3], [], 2147483647), (90, [4], [], -2147483648), (91, [4], [], 2147483647)], (4000, [0, 1, 2, 3, 4], [2], 36))
theorem c_253v_s_3 : vOkm T0 (eP e_253v L_253v A_253v mu_253v none) 5 g_253v_s_3 := vOk_in fun ρ η h => by
  obtain ⟨f0, f1, f2, f3, f4, f5, f6, f7, f8, f9, f10, f11, f12, f13, f14, f15, f16, f17, f18, f19, f20, f21, f22, f23, f24, f25, f26, f27, f28, _⟩ := h
  exact q_253v_3 (n0 := ρ 4) (n1 := ρ 3) (n2 := ρ 2) (n3 := ρ 1) (n4 := ρ 0) (n5 := ρ 5) (n6 := ρ 6) (n7 := ρ 7) (n8 := ρ 8) (n9 := ρ 9) (n10 := ρ 10) (n11 := ρ 11) (n12 := ρ 12) (n13 := ρ 13) (H0 := η 0) (H1 := η 1) (H2 := η 2) f28 f27 f26 f25 f24 f23 f22 f21 f20 f19 f18 f17 f16 f15 f14 f13 f12 f11 f10 f9 f8 f7 f6 f5 f4 f3 f2 f1 f0
theorem q_253v_4 {n0 n1 n2 n3 n4 n5 n6 n7 n8 n9 n10 n11 n12 n13 n14 : Int} {H0 H1 H2 : gH} (f0 : n0 ≤ 2147483647) (f1 : (-2147483648) ≤ n0) (f2 : n1 ≤ 2147483647) (f3 : (-2147483648) ≤ n1) (f4 : n2 ≤ 2147483647) (f5 : (-2147483648) ≤ n2) (f6 : n3 ≤ 2147483647) (f7 : (-2147483648) ≤ n3) (f8 : n4 = 285) (f9 : hWt T0 H0 ∧ preb_253v n4 n3 n2 n1 n0 H0) (f10 : n5 ≤ 20) (f11 : 0 ≤ n5) (f12 : n5 = hV H0 (n4).toNat 64) (f13 : n6 = 20) (f14 : n5 ≠ n6) (f15 : n7 = 0) (f16 : n8 = 3) (f17 : n9 ≤ 1) (f18 : 0 ≤ n9) (f19 : (hLe T0 H0 H1 ∧ hFr s_251.2.2.2.2 H0 H1 ∧ ((0 : Int) = 0 → H1.length = H0.length) ∧ hWt T0 H1) ∧ postb_251 n9 n3 n7 n8 H0 H1) (f20 : n9 ≠ 0) (f21 : n10 = (-1)) (f22 : n2 ≠ n10) (f23 : n11 = 1) (f24 : n12 = 240) (f25 : n13 ≤ 1) (f26 : 0 ≤ n13) (f27 : (hLe T0 H1 H2 ∧ hFr s_251.2.2.2.2 H1 H2 ∧ ((0 : Int) = 0 → H2.length = H1.length) ∧ hWt T0 H2) ∧ postb_251 n13 n2 n11 n12 H1 H2) (f28 : n13 = 0) (f29 : n14 = (-1)) : postb_253v n14 n4 n3 n2 n1 n0 H0 H2 := by
  unfold preb_253v at f9
  unfold postb_251 at f19
  unfold postb_251 at f27
  unfold postb_253v
  have e0 : n5 = hV H0 285 64 := (by rw [f8] at f12; exact f12 : n5 = hV H0 285 64)
  have e1 : hV H2 285 64 = hV H1 285 64 := f27.1.2.1.1 285 64 (by decide +kernel)
  have e2 : hV H1 285 64 = hV H0 285 64 := f19.1.2.1.1 285 64 (by decide +kernel)
  have e3 : hV H2 285 64 = hV H0 285 64 := (e1).trans e2
  have e4 : hV H2 285 65 = hV H1 285 65 := f27.1.2.1.1 285 65 (by decide +kernel)
  have e5 : hV H1 285 65 = hV H0 285 65 := f19.1.2.1.1 285 65 (by decide +kernel)
  have e6 : hV H2 285 65 = hV H0 285 65 := (e4).trans e5
  have e7 : hV H2 328 = hV H1 328 := fRow f27.1.2.1 328 (by decide +kernel)
  have e8 : hV H1 328 = hV H0 328 := fRow f19.1.2.1 328 (by decide +kernel)
  have e9 : hV H2 328 = hV H0 328 := e7.trans e8
  have e10 : hV H2 329 = hV H1 329 := fRow f27.1.2.1 329 (by decide +kernel)
  have e11 : hV H1 329 = hV H0 329 := fRow f19.1.2.1 329 (by decide +kernel)
  have e12 : hV H2 329 = hV H0 329 := e10.trans e11
  have e13 : hV H2 338 = hV H1 338 := fRow f27.1.2.1 338 (by decide +kernel)
  have e14 : hV H1 338 = hV H0 338 := fRow f19.1.2.1 338 (by decide +kernel)
  have e15 : hV H2 338 = hV H0 338 := e13.trans e14
  have e16 : AC H1 = AC H0 := AC_fr f19.1.2.1 (by decide +kernel)
  have e17 : AC H2 = AC H1 := AC_fr f27.1.2.1 (by decide +kernel)
  have e18 : AC H2 = AC H0 := e17.trans e16
  have e19 : SO H1 = SO H0 := SO_fr f19.1.2.1 (by decide +kernel)
  have e20 : SO H2 = SO H1 := SO_fr f27.1.2.1 (by decide +kernel)
  have e21 : SO H2 = SO H0 := e20.trans e19
  have e22 : SS H1 = SS H0 := SS_fr f19.1.2.1 (by decide +kernel)
  have e23 : SS H2 = SS H1 := SS_fr f27.1.2.1 (by decide +kernel)
  have e24 : SS H2 = SS H0 := e23.trans e22
  have e25 : (0 : Int) ≤ hV H0 285 64 ∧ hV H0 285 64 ≤ 20 := f9.1 285 64 _ _ (by decide +kernel)
  have e26 : (0 : Int) ≤ hV H0 285 65 ∧ hV H0 285 65 ≤ 2147483647 := f9.1 285 65 _ _ (by decide +kernel)
  have e27 : (0 : Int) ≤ hV H2 285 64 ∧ hV H2 285 64 ≤ 20 := f27.1.2.2.2 285 64 _ _ (by decide +kernel)
  have e28 : (0 : Int) ≤ hV H2 285 65 ∧ hV H2 285 65 ≤ 2147483647 := f27.1.2.2.2 285 65 _ _ (by decide +kernel)
  try simp only [e3, e6, e9, e12, e15, e18, e21, e24] at f9
  try simp only [e3, e6, e9, e12, e15, e18, e21, e24] at f19
  try simp only [e3, e6, e9, e12, e15, e18, e21, e24] at f27
  try simp only [e3, e6, e9, e12, e15, e18, e21, e24] at e25
  try simp only [e3, e6, e9, e12, e15, e18, e21, e24] at e26
  try simp only [e3, e6, e9, e12, e15, e18, e21, e24] at e27
  try simp only [e3, e6, e9, e12, e15, e18, e21, e24] at e28
  try simp only [e3, e6, e9, e12, e15, e18, e21, e24]
  have p0 := f9.2.1
  have p1 := f9.2.2.1
  have p2 := f9.2.2.2.1
  have p3 := f9.2.2.2.2
  have r0_0 := f19.2
  have r1_0 := f27.2
  try simp only [e3, e6, e9, e12, e15, e18, e21, e24] at p0
  try simp only [e3, e6, e9, e12, e15, e18, e21, e24] at p1
  try simp only [e3, e6, e9, e12, e15, e18, e21, e24] at p2
  try simp only [e3, e6, e9, e12, e15, e18, e21, e24] at p3
  try simp only [e3, e6, e9, e12, e15, e18, e21, e24] at r0_0
  try simp only [e3, e6, e9, e12, e15, e18, e21, e24] at r1_0
  clear f12 e1 e2 e3 e4 e5 e6 e7 e8 e9 e10 e11 e12 e13 e14 e15 e16 e17 e18 e19 e20 e21 e22 e23 e24
  subst e0

  refine ⟨?_, ?_, ?_, ?_, ?_⟩
  · assumption
  · assumption
  · omega
  · assumption
  · exact .inr ⟨fun z => by have z1 := z.1; unfold SNCp at z1; omega, by omega, by omega, by first | rfl | assumption, by first | rfl | assumption, by first | rfl | assumption⟩
def g_253v_s_4 : vG := ([(0, [14], [], -1), (30, [13], [], 0), (1251, [13, 2, 11, 12], [1, 2], 0), (90, [13], [], 0), (91, [13], [], 1), (0, [12], [], 240), (0, [11], [], 1), (41, [2, 10], [], 0), (0, [10], [], -1), (31, [9], [], 0), (1251, [9, 1, 7, 8], [0, 1], 0), (90, [9], [], 0), (91, [9], [], 1), (0, [8], [], 3), (0, [7], [], 0), (41, [5, 6], [], 0), (0, [6], [], 20), (20, [5, 0], [0], 64), (90, [5], [], 0), (91, [5], [], 20), (6000, [0, 1, 2, 3, 4], [0], 0), (0, [0], [], 285), (90, [1], [], -2147483648), (91, [1], [], 2147483647), (90, [2], [], -2147483648), (91, [2], [], 2147483647), (90, [3], [], -2147483648), (91, [3], [], 2147483647), (90, [4], [], -2147483648), (91, [4], [], 2147483647)], (3000, [14], [2], 35))
theorem c_253v_s_4 : vOkm T0 (eP e_253v L_253v A_253v mu_253v none) 5 g_253v_s_4 := vOk_in fun ρ η h => by
  obtain ⟨f0, f1, f2, f3, f4, f5, f6, f7, f8, f9, f10, f11, f12, f13, f14, f15, f16, f17, f18, f19, f20, f21, f22, f23, f24, f25, f26, f27, f28, f29, _⟩ := h
  exact q_253v_4 (n0 := ρ 4) (n1 := ρ 3) (n2 := ρ 2) (n3 := ρ 1) (n4 := ρ 0) (n5 := ρ 5) (n6 := ρ 6) (n7 := ρ 7) (n8 := ρ 8) (n9 := ρ 9) (n10 := ρ 10) (n11 := ρ 11) (n12 := ρ 12) (n13 := ρ 13) (n14 := ρ 14) (H0 := η 0) (H1 := η 1) (H2 := η 2) f29 f28 f27 f26 f25 f24 f23 f22 f21 f20 f19 f18 f17 f16 f15 f14 f13 f12 f11 f10 f9 f8 f7 f6 f5 f4 f3 f2 f1 f0
def p_253v_s : List vG := [g_253v_s_0,
  g_253v_s_1,
  g_253v_s_2,
  g_253v_s_3,
  g_253v_s_4]
theorem r_253v_s : vCovO false (eR0 e_253v L_253v cs_253v 2000) p_253v_s = true := by decide +kernel
theorem q_253v_5 {q0 : Nat} {n0 n1 n2 n3 n4 n5 n6 n7 n8 n9 n10 n11 : Int} {H0 H1 : gH} (f0 : n0 ≤ 2147483647) (f1 : (-2147483648) ≤ n0) (f2 : n1 ≤ 2147483647) (f3 : (-2147483648) ≤ n1) (f4 : n2 ≤ 2147483647) (f5 : (-2147483648) ≤ n2) (f6 : n3 ≤ 2147483647) (f7 : (-2147483648) ≤ n3) (f8 : n4 = 285) (f9 : n5 ≤ 2147483647) (f10 : (-2147483648) ≤ n5) (f11 : n6 ≤ 2147483647) (f12 : (-2147483648) ≤ n6) (f13 : n7 ≤ 2147483647) (f14 : (-2147483648) ≤ n7) (f15 : n8 ≤ 2147483647) (f16 : (-2147483648) ≤ n8) (f17 : n9 = 285) (f18 : (hLe T0 H0 H1 ∧ hFr s_253v.2.2.2.2 H0 H1 ∧ hWt T0 H1) ∧ (Ab_253v_36 n9 n8 n7 n6 n5 n4 n3 n2 n1 n0 H0 H1 ∧ preb_253v n9 n8 n7 n6 n5 H0) ∧ some q0 = some (mub_253v_36 n9 n8 n7 n6 n5 n4 n3 n2 n1 n0 H0 H1)) (f19 : n10 = 1) (f20 : n3 ≠ n10) (f21 : n11 = 3) (f22 : n3 ≠ n11) : Ab_253v_85 n9 n8 n7 n6 n5 n4 n3 n2 n1 n0 H0 H1 ∧ ∀ q, some q0 = some q → mub_253v_85 n9 n8 n7 n6 n5 n4 n3 n2 n1 n0 H0 H1 < q := by
  have g4 := f18.2.1.1
  unfold Ab_253v_36 at g4
  have g3 := f18.2.1.2
  unfold preb_253v at g3
  have g5 := Option.some.inj f18.2.2
  unfold mub_253v_36 at g5
  unfold Ab_253v_85
  unfold mub_253v_85
  have e0 : (0 : Int) ≤ hV H1 285 64 ∧ hV H1 285 64 ≤ 20 := f18.1.2.2 285 64 _ _ (by decide +kernel)
  have e1 : (0 : Int) ≤ hV H1 285 65 ∧ hV H1 285 65 ≤ 2147483647 := f18.1.2.2 285 65 _ _ (by decide +kernel)
  have k0 := g4.1
  have k1 := g4.2.1
  have k2 := g4.2.2.1
  have k3 := g4.2.2.2.1
  have y0 := g4.2.2.2.2.1
  have y1 := g4.2.2.2.2.2.1
  have y2 := g4.2.2.2.2.2.2.1
  have y3 := g4.2.2.2.2.2.2.2.1
  have y4 := g4.2.2.2.2.2.2.2.2.1
  have y5 := g4.2.2.2.2.2.2.2.2.2.1
  have y6 := g4.2.2.2.2.2.2.2.2.2.2.1
  have y7 := g4.2.2.2.2.2.2.2.2.2.2.2.1
  have y8 := g4.2.2.2.2.2.2.2.2.2.2.2.2.1
  have y9 := g4.2.2.2.2.2.2.2.2.2.2.2.2.2.1
  have y10 := g4.2.2.2.2.2.2.2.2.2.2.2.2.2.2.1
  have y11 := g4.2.2.2.2.2.2.2.2.2.2.2.2.2.2.2.1
  have y12 := g4.2.2.2.2.2.2.2.2.2.2.2.2.2.2.2.2.1
  have y13 := g4.2.2.2.2.2.2.2.2.2.2.2.2.2.2.2.2.2
  have p0 := g3.1
  have p1 := g3.2.1
  have p2 := g3.2.2.1
  have p3 := g3.2.2.2
  clear g3
  clear g4
  try subst k3
  try subst k2
  try subst k1
  try subst k0
  refine ⟨?_, fun q hq => ?_⟩
  · refine ⟨?_, ?_, ?_, ?_, ?_, ?_, ?_, ?_, ?_, ?_, ?_, ?_, ?_, ?_, ?_, ?_, ?_, ?_, ?_, ?_⟩ <;> first | assumption | omega | trivial
  · have g6 := Option.some.inj hq
    subst g6
    omega
def g_253v_36_0 : vG := ([(41, [6, 11], [], 0), (0, [11], [], 3), (41, [6, 10], [], 0), (0, [10], [], 1), (5000, [0, 1, 2, 3, 4, 5, 6, 7, 8, 9], [0, 1], 36), (0, [0], [], 285), (90, [1], [], -2147483648), (91, [1], [], 2147483647), (90, [2], [], -2147483648), (91, [2], [], 2147483647), (90, [3], [], -2147483648), (91, [3], [], 2147483647), (90, [4], [], -2147483648), (91, [4], [], 2147483647), (0, [5], [], 285), (90, [6], [], -2147483648), (91, [6], [], 2147483647), (90, [7], [], -2147483648), (91, [7], [], 2147483647), (90, [8], [], -2147483648), (91, [8], [], 2147483647), (90, [9], [], -2147483648), (91, [9], [], 2147483647)], (4000, [5, 6, 7, 8, 9], [1], 85))
theorem c_253v_36_0 {q0 : Nat} : vOkm T0 (eP e_253v L_253v A_253v mu_253v (some q0)) 5 g_253v_36_0 := vOk_in fun ρ η h => by
  obtain ⟨f0, f1, f2, f3, f4, f5, f6, f7, f8, f9, f10, f11, f12, f13, f14, f15, f16, f17, f18, f19, f20, f21, f22, _⟩ := h
  exact q_253v_5 (q0 := q0) (n0 := ρ 9) (n1 := ρ 8) (n2 := ρ 7) (n3 := ρ 6) (n4 := ρ 5) (n5 := ρ 4) (n6 := ρ 3) (n7 := ρ 2) (n8 := ρ 1) (n9 := ρ 0) (n10 := ρ 10) (n11 := ρ 11) (H0 := η 0) (H1 := η 1) f22 f21 f20 f19 f18 f17 f16 f15 f14 f13 f12 f11 f10 f9 f8 f7 f6 f5 f4 f3 f2 f1 f0
theorem q_253v_6 {q0 : Nat} {n0 n1 n2 n3 n4 n5 n6 n7 n8 n9 n10 n11 n12 n13 n14 : Int} {H0 H1 H2 : gH} (f0 : n0 ≤ 2147483647) (f1 : (-2147483648) ≤ n0) (f2 : n1 ≤ 2147483647) (f3 : (-2147483648) ≤ n1) (f4 : n2 ≤ 2147483647) (f5 : (-2147483648) ≤ n2) (f6 : n3 ≤ 2147483647) (f7 : (-2147483648) ≤ n3) (f8 : n4 = 285) (f9 : n5 ≤ 2147483647) (f10 : (-2147483648) ≤ n5) (f11 : n6 ≤ 2147483647) (f12 : (-2147483648) ≤ n6) (f13 : n7 ≤ 2147483647) (f14 : (-2147483648) ≤ n7) (f15 : n8 ≤ 2147483647) (f16 : (-2147483648) ≤ n8) (f17 : n9 = 285) (f18 : (hLe T0 H0 H1 ∧ hFr s_253v.2.2.2.2 H0 H1 ∧ hWt T0 H1) ∧ (Ab_253v_36 n9 n8 n7 n6 n5 n4 n3 n2 n1 n0 H0 H1 ∧ preb_253v n9 n8 n7 n6 n5 H0) ∧ some q0 = some (mub_253v_36 n9 n8 n7 n6 n5 n4 n3 n2 n1 n0 H0 H1)) (f19 : n10 = 1) (f20 : n3 ≠ n10) (f21 : n11 = 3) (f22 : n3 = n11) (f23 : n12 = 0) (f24 : n13 = 7) (f25 : n14 ≤ 1) (f26 : 0 ≤ n14) (f27 : (hLe T0 H1 H2 ∧ hFr s_251.2.2.2.2 H1 H2 ∧ ((0 : Int) = 0 → H2.length = H1.length) ∧ hWt T0 H2) ∧ postb_251 n14 n1 n12 n13 H1 H2) (f28 : n14 ≠ 0) : Ab_253v_85 n9 n8 n7 n6 n5 n4 n3 n2 n1 n0 H0 H2 ∧ ∀ q, some q0 = some q → mub_253v_85 n9 n8 n7 n6 n5 n4 n3 n2 n1 n0 H0 H2 < q := by
  have g4 := f18.2.1.1
  unfold Ab_253v_36 at g4
  have g3 := f18.2.1.2
  unfold preb_253v at g3
  have g5 := Option.some.inj f18.2.2
  unfold mub_253v_36 at g5
  unfold postb_251 at f27
  unfold Ab_253v_85
  unfold mub_253v_85
  have e0 : hV H2 285 64 = hV H1 285 64 := f27.1.2.1.1 285 64 (by decide +kernel)
  have e1 : hV H2 285 64 = hV H1 285 64 := e0
  have e2 : hV H2 285 65 = hV H1 285 65 := f27.1.2.1.1 285 65 (by decide +kernel)
  have e3 : hV H2 285 65 = hV H1 285 65 := e2
  have e4 : hV H2 328 = hV H1 328 := fRow f27.1.2.1 328 (by decide +kernel)
  have e5 : hV H2 329 = hV H1 329 := fRow f27.1.2.1 329 (by decide +kernel)
  have e6 : hV H2 338 = hV H1 338 := fRow f27.1.2.1 338 (by decide +kernel)
  have e7 : AC H2 = AC H1 := AC_fr f27.1.2.1 (by decide +kernel)
  have e8 : SO H2 = SO H1 := SO_fr f27.1.2.1 (by decide +kernel)
  have e9 : SS H2 = SS H1 := SS_fr f27.1.2.1 (by decide +kernel)
  have e10 : (0 : Int) ≤ hV H1 285 64 ∧ hV H1 285 64 ≤ 20 := f18.1.2.2 285 64 _ _ (by decide +kernel)
  have e11 : (0 : Int) ≤ hV H1 285 65 ∧ hV H1 285 65 ≤ 2147483647 := f18.1.2.2 285 65 _ _ (by decide +kernel)
  have e12 : (0 : Int) ≤ hV H2 285 64 ∧ hV H2 285 64 ≤ 20 := f27.1.2.2.2 285 64 _ _ (by decide +kernel)
  have e13 : (0 : Int) ≤ hV H2 285 65 ∧ hV H2 285 65 ≤ 2147483647 := f27.1.2.2.2 285 65 _ _ (by decide +kernel)
  try simp only [e1, e3, e4, e5, e6, e7, e8, e9] at f18
  try simp only [e1, e3, e4, e5, e6, e7, e8, e9] at f27
  try simp only [e1, e3, e4, e5, e6, e7, e8, e9] at e10
  try simp only [e1, e3, e4, e5, e6, e7, e8, e9] at e11
  try simp only [e1, e3, e4, e5, e6, e7, e8, e9] at e12
  try simp only [e1, e3, e4, e5, e6, e7, e8, e9] at e13
  try simp only [e1, e3, e4, e5, e6, e7, e8, e9] at g3
  try simp only [e1, e3, e4, e5, e6, e7, e8, e9] at g4
  try simp only [e1, e3, e4, e5, e6, e7, e8, e9] at g5
  try simp only [e1, e3, e4, e5, e6, e7, e8, e9]
  have k0 := g4.1
  have k1 := g4.2.1
  have k2 := g4.2.2.1
  have k3 := g4.2.2.2.1
  have y0 := g4.2.2.2.2.1
  have y1 := g4.2.2.2.2.2.1
  have y2 := g4.2.2.2.2.2.2.1
  have y3 := g4.2.2.2.2.2.2.2.1
  have y4 := g4.2.2.2.2.2.2.2.2.1
  have y5 := g4.2.2.2.2.2.2.2.2.2.1
  have y6 := g4.2.2.2.2.2.2.2.2.2.2.1
  have y7 := g4.2.2.2.2.2.2.2.2.2.2.2.1
  have y8 := g4.2.2.2.2.2.2.2.2.2.2.2.2.1
  have y9 := g4.2.2.2.2.2.2.2.2.2.2.2.2.2.1
  have y10 := g4.2.2.2.2.2.2.2.2.2.2.2.2.2.2.1
  have y11 := g4.2.2.2.2.2.2.2.2.2.2.2.2.2.2.2.1
  have y12 := g4.2.2.2.2.2.2.2.2.2.2.2.2.2.2.2.2.1
  have y13 := g4.2.2.2.2.2.2.2.2.2.2.2.2.2.2.2.2.2
  have p0 := g3.1
  have p1 := g3.2.1
  have p2 := g3.2.2.1
  have p3 := g3.2.2.2
  have r0_0 := f27.2
  try simp only [e1, e3, e4, e5, e6, e7, e8, e9] at k0
  try simp only [e1, e3, e4, e5, e6, e7, e8, e9] at k1
  try simp only [e1, e3, e4, e5, e6, e7, e8, e9] at k2
  try simp only [e1, e3, e4, e5, e6, e7, e8, e9] at k3
  try simp only [e1, e3, e4, e5, e6, e7, e8, e9] at y0
  try simp only [e1, e3, e4, e5, e6, e7, e8, e9] at y1
  try simp only [e1, e3, e4, e5, e6, e7, e8, e9] at y2
  try simp only [e1, e3, e4, e5, e6, e7, e8, e9] at y3
  try simp only [e1, e3, e4, e5, e6, e7, e8, e9] at y4
  try simp only [e1, e3, e4, e5, e6, e7, e8, e9] at y5
  try simp only [e1, e3, e4, e5, e6, e7, e8, e9] at y6
  try simp only [e1, e3, e4, e5, e6, e7, e8, e9] at y7
  try simp only [e1, e3, e4, e5, e6, e7, e8, e9] at y8
  try simp only [e1, e3, e4, e5, e6, e7, e8, e9] at y9
  try simp only [e1, e3, e4, e5, e6, e7, e8, e9] at y10
  try simp only [e1, e3, e4, e5, e6, e7, e8, e9] at y11
  try simp only [e1, e3, e4, e5, e6, e7, e8, e9] at y12
  try simp only [e1, e3, e4, e5, e6, e7, e8, e9] at y13
  try simp only [e1, e3, e4, e5, e6, e7, e8, e9] at p0
  try simp only [e1, e3, e4, e5, e6, e7, e8, e9] at p1
  try simp only [e1, e3, e4, e5, e6, e7, e8, e9] at p2
  try simp only [e1, e3, e4, e5, e6, e7, e8, e9] at p3
  try simp only [e1, e3, e4, e5, e6, e7, e8, e9] at r0_0
  clear g3
  clear g4
  clear e0 e1 e2 e3 e4 e5 e6 e7 e8 e9
  try subst k3
  try subst k2
  try subst k1
  try subst k0
  refine ⟨?_, fun q hq => ?_⟩
  · refine ⟨?_, ?_, ?_, ?_, ?_, ?_, ?_, ?_, ?_, ?_, ?_, ?_, ?_, ?_, ?_, ?_, ?_, ?_, ?_, ?_⟩ <;> first | assumption | omega | trivial
  · have g6 := Option.some.inj hq
    subst g6
    omega
def g_253v_36_1 : vG := ([(31, [14], [], 0), (1251, [14, 8, 12, 13], [1, 2], 0), (90, [14], [], 0), (91, [14], [], 1), (0, [13], [], 7), (0, [12], [], 0), (40, [6, 11], [], 0), (0, [11], [], 3), (41, [6, 10], [], 0), (0, [10], [], 1), (5000, [0, 1, 2, 3, 4, 5, 6, 7, 8, 9], [0, 1], 36), (0, [0], [], 285), (90, [1], [], -2147483648), (91, [1], [], 2147483647), (90, [2], [], -2147483648), (91, [2], [], 2147483647), (90, [3], [], -2147483648), (91, [3], [], 2147483647), (90, [4], [], -2147483648), (91, [4], [], 2147483647), (0, [5], [], 285), (90, [6], [], -2147483648), (91, [6], [], 2147483647), (90, [7], [], -2147483648), (91, [7], [], 2147483647), (90, [8], [], -2147483648), (91, [8], [], 2147483647), (90, [9], [], -2147483648), (91, [9], [], 2147483647)], (4000, [5, 6, 7, 8, 9], [2], 85))
theorem c_253v_36_1 {q0 : Nat} : vOkm T0 (eP e_253v L_253v A_253v mu_253v (some q0)) 5 g_253v_36_1 := vOk_in fun ρ η h => by
  obtain ⟨f0, f1, f2, f3, f4, f5, f6, f7, f8, f9, f10, f11, f12, f13, f14, f15, f16, f17, f18, f19, f20, f21, f22, f23, f24, f25, f26, f27, f28, _⟩ := h
  exact q_253v_6 (q0 := q0) (n0 := ρ 9) (n1 := ρ 8) (n2 := ρ 7) (n3 := ρ 6) (n4 := ρ 5) (n5 := ρ 4) (n6 := ρ 3) (n7 := ρ 2) (n8 := ρ 1) (n9 := ρ 0) (n10 := ρ 10) (n11 := ρ 11) (n12 := ρ 12) (n13 := ρ 13) (n14 := ρ 14) (H0 := η 0) (H1 := η 1) (H2 := η 2) f28 f27 f26 f25 f24 f23 f22 f21 f20 f19 f18 f17 f16 f15 f14 f13 f12 f11 f10 f9 f8 f7 f6 f5 f4 f3 f2 f1 f0
theorem q_253v_7 {q0 : Nat} {n0 n1 n2 n3 n4 n5 n6 n7 n8 n9 n10 n11 n12 n13 n14 n15 : Int} {H0 H1 H2 : gH} (f0 : n0 ≤ 2147483647) (f1 : (-2147483648) ≤ n0) (f2 : n1 ≤ 2147483647) (f3 : (-2147483648) ≤ n1) (f4 : n2 ≤ 2147483647) (f5 : (-2147483648) ≤ n2) (f6 : n3 ≤ 2147483647) (f7 : (-2147483648) ≤ n3) (f8 : n4 = 285) (f9 : n5 ≤ 2147483647) (f10 : (-2147483648) ≤ n5) (f11 : n6 ≤ 2147483647) (f12 : (-2147483648) ≤ n6) (f13 : n7 ≤ 2147483647) (f14 : (-2147483648) ≤ n7) (f15 : n8 ≤ 2147483647) (f16 : (-2147483648) ≤ n8) (f17 : n9 = 285) (f18 : (hLe T0 H0 H1 ∧ hFr s_253v.2.2.2.2 H0 H1 ∧ hWt T0 H1) ∧ (Ab_253v_36 n9 n8 n7 n6 n5 n4 n3 n2 n1 n0 H0 H1 ∧ preb_253v n9 n8 n7 n6 n5 H0) ∧ some q0 = some (mub_253v_36 n9 n8 n7 n6 n5 n4 n3 n2 n1 n0 H0 H1)) (f19 : n10 = 1) (f20 : n3 ≠ n10) (f21 : n11 = 3) (f22 : n3 = n11) (f23 : n12 = 0) (f24 : n13 = 7) (f25 : n14 ≤ 1) (f26 : 0 ≤ n14) (f27 : (hLe T0 H1 H2 ∧ hFr s_251.2.2.2.2 H1 H2 ∧ ((0 : Int) = 0 → H2.length = H1.length) ∧ hWt T0 H2) ∧ postb_251 n14 n1 n12 n13 H1 H2) (f28 : n14 = 0) (f29 : n15 = (-1)) : postb_253v n15 n9 n8 n7 n6 n5 H0 H2 := by
  have g4 := f18.2.1.1
  unfold Ab_253v_36 at g4
  have g3 := f18.2.1.2
  unfold preb_253v at g3
  unfold postb_251 at f27
  unfold postb_253v
  have e0 : hV H2 285 64 = hV H1 285 64 := f27.1.2.1.1 285 64 (by decide +kernel)
  have e1 : hV H2 285 64 = hV H1 285 64 := e0
  have e2 : hV H2 285 65 = hV H1 285 65 := f27.1.2.1.1 285 65 (by decide +kernel)
  have e3 : hV H2 285 65 = hV H1 285 65 := e2
  have e4 : hV H2 328 = hV H1 328 := fRow f27.1.2.1 328 (by decide +kernel)
  have e5 : hV H2 329 = hV H1 329 := fRow f27.1.2.1 329 (by decide +kernel)
  have e6 : hV H2 338 = hV H1 338 := fRow f27.1.2.1 338 (by decide +kernel)
  have e7 : AC H2 = AC H1 := AC_fr f27.1.2.1 (by decide +kernel)
  have e8 : SO H2 = SO H1 := SO_fr f27.1.2.1 (by decide +kernel)
  have e9 : SS H2 = SS H1 := SS_fr f27.1.2.1 (by decide +kernel)
  have e10 : (0 : Int) ≤ hV H1 285 64 ∧ hV H1 285 64 ≤ 20 := f18.1.2.2 285 64 _ _ (by decide +kernel)
  have e11 : (0 : Int) ≤ hV H1 285 65 ∧ hV H1 285 65 ≤ 2147483647 := f18.1.2.2 285 65 _ _ (by decide +kernel)
  have e12 : (0 : Int) ≤ hV H2 285 64 ∧ hV H2 285 64 ≤ 20 := f27.1.2.2.2 285 64 _ _ (by decide +kernel)
  have e13 : (0 : Int) ≤ hV H2 285 65 ∧ hV H2 285 65 ≤ 2147483647 := f27.1.2.2.2 285 65 _ _ (by decide +kernel)
  try simp only [e1, e3, e4, e5, e6, e7, e8, e9] at f18
  try simp only [e1, e3, e4, e5, e6, e7, e8, e9] at f27
  try simp only [e1, e3, e4, e5, e6, e7, e8, e9] at e10
  try simp only [e1, e3, e4, e5, e6, e7, e8, e9] at e11
  try simp only [e1, e3, e4, e5, e6, e7, e8, e9] at e12
  try simp only [e1, e3, e4, e5, e6, e7, e8, e9] at e13
  try simp only [e1, e3, e4, e5, e6, e7, e8, e9] at g3
  try simp only [e1, e3, e4, e5, e6, e7, e8, e9] at g4
  try simp only [e1, e3, e4, e5, e6, e7, e8, e9]
  have k0 := g4.1
  have k1 := g4.2.1
  have k2 := g4.2.2.1
  have k3 := g4.2.2.2.1
  have y0 := g4.2.2.2.2.1
  have y1 := g4.2.2.2.2.2.1
  have y2 := g4.2.2.2.2.2.2.1
  have y3 := g4.2.2.2.2.2.2.2.1
  have y4 := g4.2.2.2.2.2.2.2.2.1
  have y5 := g4.2.2.2.2.2.2.2.2.2.1
  have y6 := g4.2.2.2.2.2.2.2.2.2.2.1
  have y7 := g4.2.2.2.2.2.2.2.2.2.2.2.1
  have y8 := g4.2.2.2.2.2.2.2.2.2.2.2.2.1
  have y9 := g4.2.2.2.2.2.2.2.2.2.2.2.2.2.1
  have y10 := g4.2.2.2.2.2.2.2.2.2.2.2.2.2.2.1
  have y11 := g4.2.2.2.2.2.2.2.2.2.2.2.2.2.2.2.1
  have y12 := g4.2.2.2.2.2.2.2.2.2.2.2.2.2.2.2.2.1
  have y13 := g4.2.2.2.2.2.2.2.2.2.2.2.2.2.2.2.2.2
  have p0 := g3.1
  have p1 := g3.2.1
  have p2 := g3.2.2.1
  have p3 := g3.2.2.2
  have r0_0 := f27.2
  try simp only [e1, e3, e4, e5, e6, e7, e8, e9] at k0
  try simp only [e1, e3, e4, e5, e6, e7, e8, e9] at k1
  try simp only [e1, e3, e4, e5, e6, e7, e8, e9] at k2
  try simp only [e1, e3, e4, e5, e6, e7, e8, e9] at k3
  try simp only [e1, e3, e4, e5, e6, e7, e8, e9] at y0
  try simp only [e1, e3, e4, e5, e6, e7, e8, e9] at y1
  try simp only [e1, e3, e4, e5, e6, e7, e8, e9] at y2
  try simp only [e1, e3, e4, e5, e6, e7, e8, e9] at y3
  try simp only [e1, e3, e4, e5, e6, e7, e8, e9] at y4
  try simp only [e1, e3, e4, e5, e6, e7, e8, e9] at y5
  try simp only [e1, e3, e4, e5, e6, e7, e8, e9] at y6
  try simp only [e1, e3, e4, e5, e6, e7, e8, e9] at y7
  try simp only [e1, e3, e4, e5, e6, e7, e8, e9] at y8
  try simp only [e1, e3, e4, e5, e6, e7, e8, e9] at y9
  try simp only [e1, e3, e4, e5, e6, e7, e8, e9] at y10
  try simp only [e1, e3, e4, e5, e6, e7, e8, e9] at y11
  try simp only [e1, e3, e4, e5, e6, e7, e8, e9] at y12
  try simp only [e1, e3, e4, e5, e6, e7, e8, e9] at y13
  try simp only [e1, e3, e4, e5, e6, e7, e8, e9] at p0
  try simp only [e1, e3, e4, e5, e6, e7, e8, e9] at p1
  try simp only [e1, e3, e4, e5, e6, e7, e8, e9] at p2
  try simp only [e1, e3, e4, e5, e6, e7, e8, e9] at p3
  try simp only [e1, e3, e4, e5, e6, e7, e8, e9] at r0_0
  clear g3
  clear g4
  clear e0 e1 e2 e3 e4 e5 e6 e7 e8 e9

  try subst k0
  try subst k1
  try subst k2
  try subst k3
  refine ⟨?_, ?_, ?_, ?_, ?_⟩
  · assumption
  · assumption
  · omega
  · assumption
  · exact .inr ⟨fun z => by have z1 := z.1; unfold SNCp at z1; omega, by omega, by omega, by first | rfl | assumption, by first | rfl | assumption, by first | rfl | assumption⟩
def g_253v_36_2 : vG := ([(0, [15], [], -1), (30, [14], [], 0), (1251, [14, 8, 12, 13], [1, 2], 0), (90, [14], [], 0), (91, [14], [], 1), (0, [13], [], 7), (0, [12], [], 0), (40, [6, 11], [], 0), (0, [11], [], 3), (41, [6, 10], [], 0), (0, [10], [], 1), (5000, [0, 1, 2, 3, 4, 5, 6, 7, 8, 9], [0, 1], 36), (0, [0], [], 285), (90, [1], [], -2147483648), (91, [1], [], 2147483647), (90, [2], [], -2147483648), (91, [2], [], 2147483647), (90, [3], [], -2147483648), (91, [3], [], 2147483647), (90, [4], [], -2147483648), (91, [4], [], 2147483647), (0, [5], [], 285), (90, [6], [], -2147483648), (91, [6], [], 2147483647), (90, [7], [], -2147483648), (91, [7], [], 2147483647), (90, [8], [], -2147483648), (91, [8], [], 2147483647), (90, [9], [], -2147483648), (91, [9], [], 2147483647)], (3000, [15], [2], 84))
theorem c_253v_36_2 {q0 : Nat} : vOkm T0 (eP e_253v L_253v A_253v mu_253v (some q0)) 5 g_253v_36_2 := vOk_in fun ρ η h => by
  obtain ⟨f0, f1, f2, f3, f4, f5, f6, f7, f8, f9, f10, f11, f12, f13, f14, f15, f16, f17, f18, f19, f20, f21, f22, f23, f24, f25, f26, f27, f28, f29, _⟩ := h
  exact q_253v_7 (q0 := q0) (n0 := ρ 9) (n1 := ρ 8) (n2 := ρ 7) (n3 := ρ 6) (n4 := ρ 5) (n5 := ρ 4) (n6 := ρ 3) (n7 := ρ 2) (n8 := ρ 1) (n9 := ρ 0) (n10 := ρ 10) (n11 := ρ 11) (n12 := ρ 12) (n13 := ρ 13) (n14 := ρ 14) (n15 := ρ 15) (H0 := η 0) (H1 := η 1) (H2 := η 2) f29 f28 f27 f26 f25 f24 f23 f22 f21 f20 f19 f18 f17 f16 f15 f14 f13 f12 f11 f10 f9 f8 f7 f6 f5 f4 f3 f2 f1 f0
theorem q_253v_8 {q0 : Nat} {n0 n1 n2 n3 n4 n5 n6 n7 n8 n9 n10 n11 : Int} {H0 H1 : gH} (f0 : n0 ≤ 2147483647) (f1 : (-2147483648) ≤ n0) (f2 : n1 ≤ 2147483647) (f3 : (-2147483648) ≤ n1) (f4 : n2 ≤ 2147483647) (f5 : (-2147483648) ≤ n2) (f6 : n3 ≤ 2147483647) (f7 : (-2147483648) ≤ n3) (f8 : n4 = 285) (f9 : n5 ≤ 2147483647) (f10 : (-2147483648) ≤ n5) (f11 : n6 ≤ 2147483647) (f12 : (-2147483648) ≤ n6) (f13 : n7 ≤ 2147483647) (f14 : (-2147483648) ≤ n7) (f15 : n8 ≤ 2147483647) (f16 : (-2147483648) ≤ n8) (f17 : n9 = 285) (f18 : (hLe T0 H0 H1 ∧ hFr s_253v.2.2.2.2 H0 H1 ∧ hWt T0 H1) ∧ (Ab_253v_36 n9 n8 n7 n6 n5 n4 n3 n2 n1 n0 H0 H1 ∧ preb_253v n9 n8 n7 n6 n5 H0) ∧ some q0 = some (mub_253v_36 n9 n8 n7 n6 n5 n4 n3 n2 n1 n0 H0 H1)) (f19 : n10 = 1) (f20 : n3 = n10) (f21 : n1 < 0) (f22 : n11 = (-1)) : postb_253v n11 n9 n8 n7 n6 n5 H0 H1 := by
  have g4 := f18.2.1.1
  unfold Ab_253v_36 at g4
  have g3 := f18.2.1.2
  unfold preb_253v at g3
  unfold postb_253v
  have e0 : (0 : Int) ≤ hV H1 285 64 ∧ hV H1 285 64 ≤ 20 := f18.1.2.2 285 64 _ _ (by decide +kernel)
  have e1 : (0 : Int) ≤ hV H1 285 65 ∧ hV H1 285 65 ≤ 2147483647 := f18.1.2.2 285 65 _ _ (by decide +kernel)
  have k0 := g4.1
  have k1 := g4.2.1
  have k2 := g4.2.2.1
  have k3 := g4.2.2.2.1
  have y0 := g4.2.2.2.2.1
  have y1 := g4.2.2.2.2.2.1
  have y2 := g4.2.2.2.2.2.2.1
  have y3 := g4.2.2.2.2.2.2.2.1
  have y4 := g4.2.2.2.2.2.2.2.2.1
  have y5 := g4.2.2.2.2.2.2.2.2.2.1
  have y6 := g4.2.2.2.2.2.2.2.2.2.2.1
  have y7 := g4.2.2.2.2.2.2.2.2.2.2.2.1
  have y8 := g4.2.2.2.2.2.2.2.2.2.2.2.2.1
  have y9 := g4.2.2.2.2.2.2.2.2.2.2.2.2.2.1
  have y10 := g4.2.2.2.2.2.2.2.2.2.2.2.2.2.2.1
  have y11 := g4.2.2.2.2.2.2.2.2.2.2.2.2.2.2.2.1
  have y12 := g4.2.2.2.2.2.2.2.2.2.2.2.2.2.2.2.2.1
  have y13 := g4.2.2.2.2.2.2.2.2.2.2.2.2.2.2.2.2.2
  have p0 := g3.1
  have p1 := g3.2.1
  have p2 := g3.2.2.1
  have p3 := g3.2.2.2
  clear g3
  clear g4

  try subst k0
  try subst k1
  try subst k2
  try subst k3
  refine ⟨?_, ?_, ?_, ?_, ?_⟩
  · assumption
  · assumption
  · omega
  · assumption
  · exact .inr ⟨fun z => by have z1 := z.1; unfold SNCp at z1; omega, by omega, by omega, by first | rfl | assumption, by first | rfl | assumption, by first | rfl | assumption⟩
def g_253v_36_3 : vG := ([(0, [11], [], -1), (32, [8], [], 0), (40, [6, 10], [], 0), (0, [10], [], 1), (5000, [0, 1, 2, 3, 4, 5, 6, 7, 8, 9], [0, 1], 36), (0, [0], [], 285), (90, [1], [], -2147483648), (91, [1], [], 2147483647), (90, [2], [], -2147483648), (91, [2], [], 2147483647), (90, [3], [], -2147483648), (91, [3], [], 2147483647), (90, [4], [], -2147483648), (91, [4], [], 2147483647), (0, [5], [], 285), (90, [6], [], -2147483648), (91, [6], [], 2147483647), (90, [7], [], -2147483648), (91, [7], [], 2147483647), (90, [8], [], -2147483648), (91, [8], [], 2147483647), (90, [9], [], -2147483648), (91, [9], [], 2147483647)], (3000, [11], [1], 84))
theorem c_253v_36_3 {q0 : Nat} : vOkm T0 (eP e_253v L_253v A_253v mu_253v (some q0)) 5 g_253v_36_3 := vOk_in fun ρ η h => by
  obtain ⟨f0, f1, f2, f3, f4, f5, f6, f7, f8, f9, f10, f11, f12, f13, f14, f15, f16, f17, f18, f19, f20, f21, f22, _⟩ := h
  exact q_253v_8 (q0 := q0) (n0 := ρ 9) (n1 := ρ 8) (n2 := ρ 7) (n3 := ρ 6) (n4 := ρ 5) (n5 := ρ 4) (n6 := ρ 3) (n7 := ρ 2) (n8 := ρ 1) (n9 := ρ 0) (n10 := ρ 10) (n11 := ρ 11) (H0 := η 0) (H1 := η 1) f22 f21 f20 f19 f18 f17 f16 f15 f14 f13 f12 f11 f10 f9 f8 f7 f6 f5 f4 f3 f2 f1 f0
theorem q_253v_9 {q0 : Nat} {n0 n1 n2 n3 n4 n5 n6 n7 n8 n9 n10 n11 : Int} {H0 H1 : gH} (f0 : n0 ≤ 2147483647) (f1 : (-2147483648) ≤ n0) (f2 : n1 ≤ 2147483647) (f3 : (-2147483648) ≤ n1) (f4 : n2 ≤ 2147483647) (f5 : (-2147483648) ≤ n2) (f6 : n3 ≤ 2147483647) (f7 : (-2147483648) ≤ n3) (f8 : n4 = 285) (f9 : n5 ≤ 2147483647) (f10 : (-2147483648) ≤ n5) (f11 : n6 ≤ 2147483647) (f12 : (-2147483648) ≤ n6) (f13 : n7 ≤ 2147483647) (f14 : (-2147483648) ≤ n7) (f15 : n8 ≤ 2147483647) (f16 : (-2147483648) ≤ n8) (f17 : n9 = 285) (f18 : (hLe T0 H0 H1 ∧ hFr s_253v.2.2.2.2 H0 H1 ∧ hWt T0 H1) ∧ (Ab_253v_36 n9 n8 n7 n6 n5 n4 n3 n2 n1 n0 H0 H1 ∧ preb_253v n9 n8 n7 n6 n5 H0) ∧ some q0 = some (mub_253v_36 n9 n8 n7 n6 n5 n4 n3 n2 n1 n0 H0 H1)) (f19 : n10 = 1) (f20 : n3 = n10) (f21 : 0 ≤ n1) (f22 : n0 ≤ n1) (f23 : n11 = (-1)) : postb_253v n11 n9 n8 n7 n6 n5 H0 H1 := by
  have g4 := f18.2.1.1
  unfold Ab_253v_36 at g4
  have g3 := f18.2.1.2
  unfold preb_253v at g3
  unfold postb_253v
  have e0 : (0 : Int) ≤ hV H1 285 64 ∧ hV H1 285 64 ≤ 20 := f18.1.2.2 285 64 _ _ (by decide +kernel)
  have e1 : (0 : Int) ≤ hV H1 285 65 ∧ hV H1 285 65 ≤ 2147483647 := f18.1.2.2 285 65 _ _ (by decide +kernel)
  have k0 := g4.1
  have k1 := g4.2.1
  have k2 := g4.2.2.1
  have k3 := g4.2.2.2.1
  have y0 := g4.2.2.2.2.1
  have y1 := g4.2.2.2.2.2.1
  have y2 := g4.2.2.2.2.2.2.1
  have y3 := g4.2.2.2.2.2.2.2.1
  have y4 := g4.2.2.2.2.2.2.2.2.1
  have y5 := g4.2.2.2.2.2.2.2.2.2.1
  have y6 := g4.2.2.2.2.2.2.2.2.2.2.1
  have y7 := g4.2.2.2.2.2.2.2.2.2.2.2.1
  have y8 := g4.2.2.2.2.2.2.2.2.2.2.2.2.1
  have y9 := g4.2.2.2.2.2.2.2.2.2.2.2.2.2.1
  have y10 := g4.2.2.2.2.2.2.2.2.2.2.2.2.2.2.1
  have y11 := g4.2.2.2.2.2.2.2.2.2.2.2.2.2.2.2.1
  have y12 := g4.2.2.2.2.2.2.2.2.2.2.2.2.2.2.2.2.1
  have y13 := g4.2.2.2.2.2.2.2.2.2.2.2.2.2.2.2.2.2
  have p0 := g3.1
  have p1 := g3.2.1
  have p2 := g3.2.2.1
  have p3 := g3.2.2.2
  clear g3
  clear g4

  try subst k0
  try subst k1
  try subst k2
  try subst k3
  refine ⟨?_, ?_, ?_, ?_, ?_⟩
  · assumption
  · assumption
  · omega
  · assumption
  · exact .inr ⟨fun z => by have z1 := z.1; unfold SNCp at z1; omega, by omega, by omega, by first | rfl | assumption, by first | rfl | assumption, by first | rfl | assumption⟩
def g_253v_36_4 : vG := ([(0, [11], [], -1), (43, [8, 9], [], 0), (33, [8], [], 0), (40, [6, 10], [], 0), (0, [10], [], 1), (5000, [0, 1, 2, 3, 4, 5, 6, 7, 8, 9], [0, 1], 36), (0, [0], [], 285), (90, [1], [], -2147483648), (91, [1], [], 2147483647), (90, [2], [], -2147483648), (91, [2], [], 2147483647), (90, [3], [], -2147483648), (91, [3], [], 2147483647), (90, [4], [], -2147483648), (91, [4], [], 2147483647), (0, [5], [], 285), (90, [6], [], -2147483648), (91, [6], [], 2147483647), (90, [7], [], -2147483648), (91, [7], [], 2147483647), (90, [8], [], -2147483648), (91, [8], [], 2147483647), (90, [9], [], -2147483648), (91, [9], [], 2147483647)], (3000, [11], [1], 84))
theorem c_253v_36_4 {q0 : Nat} : vOkm T0 (eP e_253v L_253v A_253v mu_253v (some q0)) 5 g_253v_36_4 := vOk_in fun ρ η h => by
  obtain ⟨f0, f1, f2, f3, f4, f5, f6, f7, f8, f9, f10, f11, f12, f13, f14, f15, f16, f17, f18, f19, f20, f21, f22, f23, _⟩ := h
  exact q_253v_9 (q0 := q0) (n0 := ρ 9) (n1 := ρ 8) (n2 := ρ 7) (n3 := ρ 6) (n4 := ρ 5) (n5 := ρ 4) (n6 := ρ 3) (n7 := ρ 2) (n8 := ρ 1) (n9 := ρ 0) (n10 := ρ 10) (n11 := ρ 11) (H0 := η 0) (H1 := η 1) f23 f22 f21 f20 f19 f18 f17 f16 f15 f14 f13 f12 f11 f10 f9 f8 f7 f6 f5 f4 f3 f2 f1 f0
theorem q_253v_10 {q0 : Nat} {n0 n1 n2 n3 n4 n5 n6 n7 n8 n9 n10 n11 n12 : Int} {H0 H1 : gH} (f0 : n0 ≤ 2147483647) (f1 : (-2147483648) ≤ n0) (f2 : n1 ≤ 2147483647) (f3 : (-2147483648) ≤ n1) (f4 : n2 ≤ 2147483647) (f5 : (-2147483648) ≤ n2) (f6 : n3 ≤ 2147483647) (f7 : (-2147483648) ≤ n3) (f8 : n4 = 285) (f9 : n5 ≤ 2147483647) (f10 : (-2147483648) ≤ n5) (f11 : n6 ≤ 2147483647) (f12 : (-2147483648) ≤ n6) (f13 : n7 ≤ 2147483647) (f14 : (-2147483648) ≤ n7) (f15 : n8 ≤ 2147483647) (f16 : (-2147483648) ≤ n8) (f17 : n9 = 285) (f18 : (hLe T0 H0 H1 ∧ hFr s_253v.2.2.2.2 H0 H1 ∧ hWt T0 H1) ∧ (Ab_253v_36 n9 n8 n7 n6 n5 n4 n3 n2 n1 n0 H0 H1 ∧ preb_253v n9 n8 n7 n6 n5 H0) ∧ some q0 = some (mub_253v_36 n9 n8 n7 n6 n5 n4 n3 n2 n1 n0 H0 H1)) (f19 : n10 = 1) (f20 : n3 = n10) (f21 : 0 ≤ n1) (f22 : n1 < n0) (f23 : n11 = (-1)) (f24 : n2 ≠ n11) (f25 : n2 < n0) (f26 : n12 = (-1)) : postb_253v n12 n9 n8 n7 n6 n5 H0 H1 := by
  have g4 := f18.2.1.1
  unfold Ab_253v_36 at g4
  have g3 := f18.2.1.2
  unfold preb_253v at g3
  unfold postb_253v
  have e0 : (0 : Int) ≤ hV H1 285 64 ∧ hV H1 285 64 ≤ 20 := f18.1.2.2 285 64 _ _ (by decide +kernel)
  have e1 : (0 : Int) ≤ hV H1 285 65 ∧ hV H1 285 65 ≤ 2147483647 := f18.1.2.2 285 65 _ _ (by decide +kernel)
  have k0 := g4.1
  have k1 := g4.2.1
  have k2 := g4.2.2.1
  have k3 := g4.2.2.2.1
  have y0 := g4.2.2.2.2.1
  have y1 := g4.2.2.2.2.2.1
  have y2 := g4.2.2.2.2.2.2.1
  have y3 := g4.2.2.2.2.2.2.2.1
  have y4 := g4.2.2.2.2.2.2.2.2.1
  have y5 := g4.2.2.2.2.2.2.2.2.2.1
  have y6 := g4.2.2.2.2.2.2.2.2.2.2.1
  have y7 := g4.2.2.2.2.2.2.2.2.2.2.2.1
  have y8 := g4.2.2.2.2.2.2.2.2.2.2.2.2.1
  have y9 := g4.2.2.2.2.2.2.2.2.2.2.2.2.2.1
  have y10 := g4.2.2.2.2.2.2.2.2.2.2.2.2.2.2.1
  have y11 := g4.2.2.2.2.2.2.2.2.2.2.2.2.2.2.2.1
  have y12 := g4.2.2.2.2.2.2.2.2.2.2.2.2.2.2.2.2.1
  have y13 := g4.2.2.2.2.2.2.2.2.2.2.2.2.2.2.2.2.2
  have p0 := g3.1
  have p1 := g3.2.1
  have p2 := g3.2.2.1
  have p3 := g3.2.2.2
  clear g3
  clear g4

  try subst k0
  try subst k1
  try subst k2
  try subst k3
  refine ⟨?_, ?_, ?_, ?_, ?_⟩
  · assumption
  · assumption
  · omega
  · assumption
  · exact .inr ⟨fun z => by have z1 := z.1; unfold SNCp at z1; omega, by omega, by omega, by first | rfl | assumption, by first | rfl | assumption, by first | rfl | assumption⟩
def g_253v_36_5 : vG := ([(0, [12], [], -1), (44, [9, 7], [], 0), (41, [7, 11], [], 0), (0, [11], [], -1), (42, [8, 9], [], 0), (33, [8], [], 0), (40, [6, 10], [], 0), (0, [10], [], 1), (5000, [0, 1, 2, 3, 4, 5, 6, 7, 8, 9], [0, 1], 36), (0, [0], [], 285), (90, [1], [], -2147483648), (91, [1], [], 2147483647), (90, [2], [], -2147483648), (91, [2], [], 2147483647), (90, [3], [], -2147483648), (91, [3], [], 2147483647), (90, [4], [], -2147483648), (91, [4], [], 2147483647), (0, [5], [], 285), (90, [6], [], -2147483648), (91, [6], [], 2147483647), (90, [7], [], -2147483648), (91, [7], [], 2147483647), (90, [8], [], -2147483648), (91, [8], [], 2147483647), (90, [9], [], -2147483648), (91, [9], [], 2147483647)], (3000, [12], [1], 84))
theorem c_253v_36_5 {q0 : Nat} : vOkm T0 (eP e_253v L_253v A_253v mu_253v (some q0)) 5 g_253v_36_5 := vOk_in fun ρ η h => by
  obtain ⟨f0, f1, f2, f3, f4, f5, f6, f7, f8, f9, f10, f11, f12, f13, f14, f15, f16, f17, f18, f19, f20, f21, f22, f23, f24, f25, f26, _⟩ := h
  exact q_253v_10 (q0 := q0) (n0 := ρ 9) (n1 := ρ 8) (n2 := ρ 7) (n3 := ρ 6) (n4 := ρ 5) (n5 := ρ 4) (n6 := ρ 3) (n7 := ρ 2) (n8 := ρ 1) (n9 := ρ 0) (n10 := ρ 10) (n11 := ρ 11) (n12 := ρ 12) (H0 := η 0) (H1 := η 1) f26 f25 f24 f23 f22 f21 f20 f19 f18 f17 f16 f15 f14 f13 f12 f11 f10 f9 f8 f7 f6 f5 f4 f3 f2 f1 f0
theorem q_253v_11 {q0 : Nat} {n0 n1 n2 n3 n4 n5 n6 n7 n8 n9 n10 n11 n12 : Int} {H0 H1 : gH} (f0 : n0 ≤ 2147483647) (f1 : (-2147483648) ≤ n0) (f2 : n1 ≤ 2147483647) (f3 : (-2147483648) ≤ n1) (f4 : n2 ≤ 2147483647) (f5 : (-2147483648) ≤ n2) (f6 : n3 ≤ 2147483647) (f7 : (-2147483648) ≤ n3) (f8 : n4 = 285) (f9 : n5 ≤ 2147483647) (f10 : (-2147483648) ≤ n5) (f11 : n6 ≤ 2147483647) (f12 : (-2147483648) ≤ n6) (f13 : n7 ≤ 2147483647) (f14 : (-2147483648) ≤ n7) (f15 : n8 ≤ 2147483647) (f16 : (-2147483648) ≤ n8) (f17 : n9 = 285) (f18 : (hLe T0 H0 H1 ∧ hFr s_253v.2.2.2.2 H0 H1 ∧ hWt T0 H1) ∧ (Ab_253v_36 n9 n8 n7 n6 n5 n4 n3 n2 n1 n0 H0 H1 ∧ preb_253v n9 n8 n7 n6 n5 H0) ∧ some q0 = some (mub_253v_36 n9 n8 n7 n6 n5 n4 n3 n2 n1 n0 H0 H1)) (f19 : n10 = 1) (f20 : n3 = n10) (f21 : 0 ≤ n1) (f22 : n1 < n0) (f23 : n11 = (-1)) (f24 : n2 ≠ n11) (f25 : n0 ≤ n2) (f26 : n12 = 3) (f27 : n3 ≠ n12) : Ab_253v_85 n9 n8 n7 n6 n5 n4 n3 n2 n1 n0 H0 H1 ∧ ∀ q, some q0 = some q → mub_253v_85 n9 n8 n7 n6 n5 n4 n3 n2 n1 n0 H0 H1 < q := by
  have g4 := f18.2.1.1
  unfold Ab_253v_36 at g4
  have g3 := f18.2.1.2
  unfold preb_253v at g3
  have g5 := Option.some.inj f18.2.2
  unfold mub_253v_36 at g5
  unfold Ab_253v_85
  unfold mub_253v_85
  have e0 : (0 : Int) ≤ hV H1 285 64 ∧ hV H1 285 64 ≤ 20 := f18.1.2.2 285 64 _ _ (by decide +kernel)
  have e1 : (0 : Int) ≤ hV H1 285 65 ∧ hV H1 285 65 ≤ 2147483647 := f18.1.2.2 285 65 _ _ (by decide +kernel)
  have k0 := g4.1
  have k1 := g4.2.1
  have k2 := g4.2.2.1
  have k3 := g4.2.2.2.1
  have y0 := g4.2.2.2.2.1
  have y1 := g4.2.2.2.2.2.1
  have y2 := g4.2.2.2.2.2.2.1
  have y3 := g4.2.2.2.2.2.2.2.1
  have y4 := g4.2.2.2.2.2.2.2.2.1
  have y5 := g4.2.2.2.2.2.2.2.2.2.1
  have y6 := g4.2.2.2.2.2.2.2.2.2.2.1
  have y7 := g4.2.2.2.2.2.2.2.2.2.2.2.1
  have y8 := g4.2.2.2.2.2.2.2.2.2.2.2.2.1
  have y9 := g4.2.2.2.2.2.2.2.2.2.2.2.2.2.1
  have y10 := g4.2.2.2.2.2.2.2.2.2.2.2.2.2.2.1
  have y11 := g4.2.2.2.2.2.2.2.2.2.2.2.2.2.2.2.1
  have y12 := g4.2.2.2.2.2.2.2.2.2.2.2.2.2.2.2.2.1
  have y13 := g4.2.2.2.2.2.2.2.2.2.2.2.2.2.2.2.2.2
  have p0 := g3.1
  have p1 := g3.2.1
  have p2 := g3.2.2.1
  have p3 := g3.2.2.2
  clear g3
  clear g4
  try subst k3
  try subst k2
  try subst k1
  try subst k0
  refine ⟨?_, fun q hq => ?_⟩
  · refine ⟨?_, ?_, ?_, ?_, ?_, ?_, ?_, ?_, ?_, ?_, ?_, ?_, ?_, ?_, ?_, ?_, ?_, ?_, ?_, ?_⟩ <;> first | assumption | omega | trivial
  · have g6 := Option.some.inj hq
    subst g6
    omega
def g_253v_36_6 : vG := ([(41, [6, 12], [], 0), (0, [12], [], 3), (45, [9, 7], [], 0), (41, [7, 11], [], 0), (0, [11], [], -1), (42, [8, 9], [], 0), (33, [8], [], 0), (40, [6, 10], [], 0), (0, [10], [], 1), (5000, [0, 1, 2, 3, 4, 5, 6, 7, 8, 9], [0, 1], 36), (0, [0], [], 285), (90, [1], [], -2147483648), (91, [1], [], 2147483647), (90, [2], [], -2147483648), (91, [2], [], 2147483647), (90, [3], [], -2147483648), (91, [3], [], 2147483647), (90, [4], [], -2147483648), (91, [4], [], 2147483647), (0, [5], [], 285), (90, [6], [], -2147483648), (91, [6], [], 2147483647), (90, [7], [], -2147483648), (91, [7], [], 2147483647), (90, [8], [], -2147483648), (91, [8], [], 2147483647), (90, [9], [], -2147483648), (91, [9], [], 2147483647)], (4000, [5, 6, 7, 8, 9], [1], 85))
theorem c_253v_36_6 {q0 : Nat} : vOkm T0 (eP e_253v L_253v A_253v mu_253v (some q0)) 5 g_253v_36_6 := vOk_in fun ρ η h => by
  obtain ⟨f0, f1, f2, f3, f4, f5, f6, f7, f8, f9, f10, f11, f12, f13, f14, f15, f16, f17, f18, f19, f20, f21, f22, f23, f24, f25, f26, f27, _⟩ := h
  exact q_253v_11 (q0 := q0) (n0 := ρ 9) (n1 := ρ 8) (n2 := ρ 7) (n3 := ρ 6) (n4 := ρ 5) (n5 := ρ 4) (n6 := ρ 3) (n7 := ρ 2) (n8 := ρ 1) (n9 := ρ 0) (n10 := ρ 10) (n11 := ρ 11) (n12 := ρ 12) (H0 := η 0) (H1 := η 1) f27 f26 f25 f24 f23 f22 f21 f20 f19 f18 f17 f16 f15 f14 f13 f12 f11 f10 f9 f8 f7 f6 f5 f4 f3 f2 f1 f0
theorem q_253v_12 {q0 : Nat} {n0 n1 n2 n3 n4 n5 n6 n7 n8 n9 n10 n11 n12 n13 n14 n15 : Int} {H0 H1 H2 : gH} (f0 : n0 ≤ 2147483647) (f1 : (-2147483648) ≤ n0) (f2 : n1 ≤ 2147483647) (f3 : (-2147483648) ≤ n1) (f4 : n2 ≤ 2147483647) (f5 : (-2147483648) ≤ n2) (f6 : n3 ≤ 2147483647) (f7 : (-2147483648) ≤ n3) (f8 : n4 = 285) (f9 : n5 ≤ 2147483647) (f10 : (-2147483648) ≤ n5) (f11 : n6 ≤ 2147483647) (f12 : (-2147483648) ≤ n6) (f13 : n7 ≤ 2147483647) (f14 : (-2147483648) ≤ n7) (f15 : n8 ≤ 2147483647) (f16 : (-2147483648) ≤ n8) (f17 : n9 = 285) (f18 : (hLe T0 H0 H1 ∧ hFr s_253v.2.2.2.2 H0 H1 ∧ hWt T0 H1) ∧ (Ab_253v_36 n9 n8 n7 n6 n5 n4 n3 n2 n1 n0 H0 H1 ∧ preb_253v n9 n8 n7 n6 n5 H0) ∧ some q0 = some (mub_253v_36 n9 n8 n7 n6 n5 n4 n3 n2 n1 n0 H0 H1)) (f19 : n10 = 1) (f20 : n3 = n10) (f21 : 0 ≤ n1) (f22 : n1 < n0) (f23 : n11 = (-1)) (f24 : n2 ≠ n11) (f25 : n0 ≤ n2) (f26 : n12 = 3) (f27 : n3 = n12) (f28 : n13 = 0) (f29 : n14 = 7) (f30 : n15 ≤ 1) (f31 : 0 ≤ n15) (f32 : (hLe T0 H1 H2 ∧ hFr s_251.2.2.2.2 H1 H2 ∧ ((0 : Int) = 0 → H2.length = H1.length) ∧ hWt T0 H2) ∧ postb_251 n15 n1 n13 n14 H1 H2) (f33 : n15 ≠ 0) : Ab_253v_85 n9 n8 n7 n6 n5 n4 n3 n2 n1 n0 H0 H2 ∧ ∀ q, some q0 = some q → mub_253v_85 n9 n8 n7 n6 n5 n4 n3 n2 n1 n0 H0 H2 < q := by
  have g4 := f18.2.1.1
  unfold Ab_253v_36 at g4
  have g3 := f18.2.1.2
  unfold preb_253v at g3
  have g5 := Option.some.inj f18.2.2
  unfold mub_253v_36 at g5
  unfold postb_251 at f32
  unfold Ab_253v_85
  unfold mub_253v_85
  have e0 : hV H2 285 64 = hV H1 285 64 := f32.1.2.1.1 285 64 (by decide +kernel)
  have e1 : hV H2 285 64 = hV H1 285 64 := e0
  have e2 : hV H2 285 65 = hV H1 285 65 := f32.1.2.1.1 285 65 (by decide +kernel)
  have e3 : hV H2 285 65 = hV H1 285 65 := e2
  have e4 : hV H2 328 = hV H1 328 := fRow f32.1.2.1 328 (by decide +kernel)
  have e5 : hV H2 329 = hV H1 329 := fRow f32.1.2.1 329 (by decide +kernel)
  have e6 : hV H2 338 = hV H1 338 := fRow f32.1.2.1 338 (by decide +kernel)
  have e7 : AC H2 = AC H1 := AC_fr f32.1.2.1 (by decide +kernel)
  have e8 : SO H2 = SO H1 := SO_fr f32.1.2.1 (by decide +kernel)
  have e9 : SS H2 = SS H1 := SS_fr f32.1.2.1 (by decide +kernel)
  have e10 : (0 : Int) ≤ hV H1 285 64 ∧ hV H1 285 64 ≤ 20 := f18.1.2.2 285 64 _ _ (by decide +kernel)
  have e11 : (0 : Int) ≤ hV H1 285 65 ∧ hV H1 285 65 ≤ 2147483647 := f18.1.2.2 285 65 _ _ (by decide +kernel)
  have e12 : (0 : Int) ≤ hV H2 285 64 ∧ hV H2 285 64 ≤ 20 := f32.1.2.2.2 285 64 _ _ (by decide +kernel)
  have e13 : (0 : Int) ≤ hV H2 285 65 ∧ hV H2 285 65 ≤ 2147483647 := f32.1.2.2.2 285 65 _ _ (by decide +kernel)
  try simp only [e1, e3, e4, e5, e6, e7, e8, e9] at f18
  try simp only [e1, e3, e4, e5, e6, e7, e8, e9] at f32
  try simp only [e1, e3, e4, e5, e6, e7, e8, e9] at e10
  try simp only [e1, e3, e4, e5, e6, e7, e8, e9] at e11
  try simp only [e1, e3, e4, e5, e6, e7, e8, e9] at e12
  try simp only [e1, e3, e4, e5, e6, e7, e8, e9] at e13
  try simp only [e1, e3, e4, e5, e6, e7, e8, e9] at g3
  try simp only [e1, e3, e4, e5, e6, e7, e8, e9] at g4
  try simp only [e1, e3, e4, e5, e6, e7, e8, e9] at g5
  try simp only [e1, e3, e4, e5, e6, e7, e8, e9]
  have k0 := g4.1
  have k1 := g4.2.1
  have k2 := g4.2.2.1
  have k3 := g4.2.2.2.1
  have y0 := g4.2.2.2.2.1
  have y1 := g4.2.2.2.2.2.1
  have y2 := g4.2.2.2.2.2.2.1
  have y3 := g4.2.2.2.2.2.2.2.1
  have y4 := g4.2.2.2.2.2.2.2.2.1
  have y5 := g4.2.2.2.2.2.2.2.2.2.1
  have y6 := g4.2.2.2.2.2.2.2.2.2.2.1
  have y7 := g4.2.2.2.2.2.2.2.2.2.2.2.1
  have y8 := g4.2.2.2.2.2.2.2.2.2.2.2.2.1
  have y9 := g4.2.2.2.2.2.2.2.2.2.2.2.2.2.1
  have y10 := g4.2.2.2.2.2.2.2.2.2.2.2.2.2.2.1
  have y11 := g4.2.2.2.2.2.2.2.2.2.2.2.2.2.2.2.1
  have y12 := g4.2.2.2.2.2.2.2.2.2.2.2.2.2.2.2.2.1
  have y13 := g4.2.2.2.2.2.2.2.2.2.2.2.2.2.2.2.2.2
  have p0 := g3.1
  have p1 := g3.2.1
  have p2 := g3.2.2.1
  have p3 := g3.2.2.2
  have r0_0 := f32.2
  try simp only [e1, e3, e4, e5, e6, e7, e8, e9] at k0
  try simp only [e1, e3, e4, e5, e6, e7, e8, e9] at k1
  try simp only [e1, e3, e4, e5, e6, e7, e8, e9] at k2
  try simp only [e1, e3, e4, e5, e6, e7, e8, e9] at k3
  try simp only [e1, e3, e4, e5, e6, e7, e8, e9] at y0
  try simp only [e1, e3, e4, e5, e6, e7, e8, e9] at y1
  try simp only [e1, e3, e4, e5, e6, e7, e8, e9] at y2
  try simp only [e1, e3, e4, e5, e6, e7, e8, e9] at y3
  try simp only [e1, e3, e4, e5, e6, e7, e8, e9] at y4
  try simp only [e1, e3, e4, e5, e6, e7, e8, e9] at y5
  try simp only [e1, e3, e4, e5, e6, e7, e8, e9] at y6
  try simp only [e1, e3, e4, e5, e6, e7, e8, e9] at y7
  try simp only [e1, e3, e4, e5, e6, e7, e8, e9] at y8
  try simp only [e1, e3, e4, e5, e6, e7, e8, e9] at y9
  try simp only [e1, e3, e4, e5, e6, e7, e8, e9] at y10
  try simp only [e1, e3, e4, e5, e6, e7, e8, e9] at y11
  try simp only [e1, e3, e4, e5, e6, e7, e8, e9] at y12
  try simp only [e1, e3, e4, e5, e6, e7, e8, e9] at y13
  try simp only [e1, e3, e4, e5, e6, e7, e8, e9] at p0
  try simp only [e1, e3, e4, e5, e6, e7, e8, e9] at p1
  try simp only [e1, e3, e4, e5, e6, e7, e8, e9] at p2
  try simp only [e1, e3, e4, e5, e6, e7, e8, e9] at p3
  try simp only [e1, e3, e4, e5, e6, e7, e8, e9] at r0_0
  clear g3
  clear g4
  clear e0 e1 e2 e3 e4 e5 e6 e7 e8 e9
  try subst k3
  try subst k2
  try subst k1
  try subst k0
  refine ⟨?_, fun q hq => ?_⟩
  · refine ⟨?_, ?_, ?_, ?_, ?_, ?_, ?_, ?_, ?_, ?_, ?_, ?_, ?_, ?_, ?_, ?_, ?_, ?_, ?_, ?_⟩ <;> first | assumption | omega | trivial
  · have g6 := Option.some.inj hq
    subst g6
    omega
def g_253v_36_7 : vG := ([(31, [15], [], 0), (1251, [15, 8, 13, 14], [1, 2], 0), (90, [15], [], 0), (91, [15], [], 1), (0, [14], [], 7), (0, [13], [], 0), (40, [6, 12], [], 0), (0, [12], [], 3), (45, [9, 7], [], 0), (41, [7, 11], [], 0), (0, [11], [], -1), (42, [8, 9], [], 0), (33, [8], [], 0), (40, [6, 10], [], 0), (0, [10], [], 1), (5000, [0, 1, 2, 3, 4, 5, 6, 7, 8, 9], [0, 1], 36), (0, [0], [], 285), (90, [1], [], -2147483648), (91, [1], [], 2147483647), (90, [2], [], -2147483648), (91, [2], [], 2147483647), (90, [3], [], -2147483648), (91, [3], [], 2147483647), (90, [4], [], -2147483648), (91, [4], [], 2147483647), (0, [5], [], 285), (90, [6], [], -2147483648), (91, [6], [], 2147483647), (90, [7], [], -2147483648), (91, [7], [], 2147483647), (90, [8], [], -2147483648), (91, [8], [], 2147483647), (90, [9], [], -2147483648), (91, [9], [], 2147483647)], (4000, [5, 6, 7, 8, 9], [2], 85))
theorem c_253v_36_7 {q0 : Nat} : vOkm T0 (eP e_253v L_253v A_253v mu_253v (some q0)) 5 g_253v_36_7 := vOk_in fun ρ η h => by
  obtain ⟨f0, f1, f2, f3, f4, f5, f6, f7, f8, f9, f10, f11, f12, f13, f14, f15, f16, f17, f18, f19, f20, f21, f22, f23, f24, f25, f26, f27, f28, f29, f30, f31, f32, f33, _⟩ := h
  exact q_253v_12 (q0 := q0) (n0 := ρ 9) (n1 := ρ 8) (n2 := ρ 7) (n3 := ρ 6) (n4 := ρ 5) (n5 := ρ 4) (n6 := ρ 3) (n7 := ρ 2) (n8 := ρ 1) (n9 := ρ 0) (n10 := ρ 10) (n11 := ρ 11) (n12 := ρ 12) (n13 := ρ 13) (n14 := ρ 14) (n15 := ρ 15) (H0 := η 0) (H1 := η 1) (H2 := η 2) f33 f32 f31 f30 f29 f28 f27 f26 f25 f24 f23 f22 f21 f20 f19 f18 f17 f16 f15 f14 f13 f12 f11 f10 f9 f8 f7 f6 f5 f4 f3 f2 f1 f0
theorem q_253v_13 {q0 : Nat} {n0 n1 n2 n3 n4 n5 n6 n7 n8 n9 n10 n11 n12 n13 n14 n15 n16 : Int} {H0 H1 H2 : gH} (f0 : n0 ≤ 2147483647) (f1 : (-2147483648) ≤ n0) (f2 : n1 ≤ 2147483647) (f3 : (-2147483648) ≤ n1) (f4 : n2 ≤ 2147483647) (f5 : (-2147483648) ≤ n2) (f6 : n3 ≤ 2147483647) (f7 : (-2147483648) ≤ n3) (f8 : n4 = 285) (f9 : n5 ≤ 2147483647) (f10 : (-2147483648) ≤ n5) (f11 : n6 ≤ 2147483647) (f12 : (-2147483648) ≤ n6) (f13 : n7 ≤ 2147483647) (f14 : (-2147483648) ≤ n7) (f15 : n8 ≤ 2147483647) (f16 : (-2147483648) ≤ n8) (f17 : n9 = 285) (f18 : (hLe T0 H0 H1 ∧ hFr s_253v.2.2.2.2 H0 H1 ∧ hWt T0 H1) ∧ (Ab_253v_36 n9 n8 n7 n6 n5 n4 n3 n2 n1 n0 H0 H1 ∧ preb_253v n9 n8 n7 n6 n5 H0) ∧ some q0 = some (mub_253v_36 n9 n8 n7 n6 n5 n4 n3 n2 n1 n0 H0 H1)) (f19 : n10 = 1) (f20 : n3 = n10) (f21 : 0 ≤ n1) (f22 : n1 < n0) (f23 : n11 = (-1)) (f24 : n2 ≠ n11) (f25 : n0 ≤ n2) (f26 : n12 = 3) (f27 : n3 = n12) (f28 : n13 = 0) (f29 : n14 = 7) (f30 : n15 ≤ 1) (f31 : 0 ≤ n15) (f32 : (hLe T0 H1 H2 ∧ hFr s_251.2.2.2.2 H1 H2 ∧ ((0 : Int) = 0 → H2.length = H1.length) ∧ hWt T0 H2) ∧ postb_251 n15 n1 n13 n14 H1 H2) (f33 : n15 = 0) (f34 : n16 = (-1)) : postb_253v n16 n9 n8 n7 n6 n5 H0 H2 := by
  have g4 := f18.2.1.1
  unfold Ab_253v_36 at g4
  have g3 := f18.2.1.2
  unfold preb_253v at g3
  unfold postb_251 at f32
  unfold postb_253v
  have e0 : hV H2 285 64 = hV H1 285 64 := f32.1.2.1.1 285 64 (by decide +kernel)
  have e1 : hV H2 285 64 = hV H1 285 64 := e0
  have e2 : hV H2 285 65 = hV H1 285 65 := f32.1.2.1.1 285 65 (by decide +kernel)
  have e3 : hV H2 285 65 = hV H1 285 65 := e2
  have e4 : hV H2 328 = hV H1 328 := fRow f32.1.2.1 328 (by decide +kernel)
  have e5 : hV H2 329 = hV H1 329 := fRow f32.1.2.1 329 (by decide +kernel)
  have e6 : hV H2 338 = hV H1 338 := fRow f32.1.2.1 338 (by decide +kernel)
  have e7 : AC H2 = AC H1 := AC_fr f32.1.2.1 (by decide +kernel)
  have e8 : SO H2 = SO H1 := SO_fr f32.1.2.1 (by decide +kernel)
  have e9 : SS H2 = SS H1 := SS_fr f32.1.2.1 (by decide +kernel)
  have e10 : (0 : Int) ≤ hV H1 285 64 ∧ hV H1 285 64 ≤ 20 := f18.1.2.2 285 64 _ _ (by decide +kernel)
  have e11 : (0 : Int) ≤ hV H1 285 65 ∧ hV H1 285 65 ≤ 2147483647 := f18.1.2.2 285 65 _ _ (by decide +kernel)
  have e12 : (0 : Int) ≤ hV H2 285 64 ∧ hV H2 285 64 ≤ 20 := f32.1.2.2.2 285 64 _ _ (by decide +kernel)
  have e13 : (0 : Int) ≤ hV H2 285 65 ∧ hV H2 285 65 ≤ 2147483647 := f32.1.2.2.2 285 65 _ _ (by decide +kernel)
  try simp only [e1, e3, e4, e5, e6, e7, e8, e9] at f18
  try simp only [e1, e3, e4, e5, e6, e7, e8, e9] at f32
  try simp only [e1, e3, e4, e5, e6, e7, e8, e9] at e10
  try simp only [e1, e3, e4, e5, e6, e7, e8, e9] at e11
  try simp only [e1, e3, e4, e5, e6, e7, e8, e9] at e12
  try simp only [e1, e3, e4, e5, e6, e7, e8, e9] at e13
  try simp only [e1, e3, e4, e5, e6, e7, e8, e9] at g3
  try simp only [e1, e3, e4, e5, e6, e7, e8, e9] at g4
  try simp only [e1, e3, e4, e5, e6, e7, e8, e9]
  have k0 := g4.1
  have k1 := g4.2.1
  have k2 := g4.2.2.1
  have k3 := g4.2.2.2.1
  have y0 := g4.2.2.2.2.1
  have y1 := g4.2.2.2.2.2.1
  have y2 := g4.2.2.2.2.2.2.1
  have y3 := g4.2.2.2.2.2.2.2.1
  have y4 := g4.2.2.2.2.2.2.2.2.1
  have y5 := g4.2.2.2.2.2.2.2.2.2.1
  have y6 := g4.2.2.2.2.2.2.2.2.2.2.1
  have y7 := g4.2.2.2.2.2.2.2.2.2.2.2.1
  have y8 := g4.2.2.2.2.2.2.2.2.2.2.2.2.1
  have y9 := g4.2.2.2.2.2.2.2.2.2.2.2.2.2.1
  have y10 := g4.2.2.2.2.2.2.2.2.2.2.2.2.2.2.1
  have y11 := g4.2.2.2.2.2.2.2.2.2.2.2.2.2.2.2.1
  have y12 := g4.2.2.2.2.2.2.2.2.2.2.2.2.2.2.2.2.1
  have y13 := g4.2.2.2.2.2.2.2.2.2.2.2.2.2.2.2.2.2
  have p0 := g3.1
  have p1 := g3.2.1
  have p2 := g3.2.2.1
  have p3 := g3.2.2.2
  have r0_0 := f32.2
  try simp only [e1, e3, e4, e5, e6, e7, e8, e9] at k0
  try simp only [e1, e3, e4, e5, e6, e7, e8, e9] at k1
  try simp only [e1, e3, e4, e5, e6, e7, e8, e9] at k2
  try simp only [e1, e3, e4, e5, e6, e7, e8, e9] at k3
  try simp only [e1, e3, e4, e5, e6, e7, e8, e9] at y0
  try simp only [e1, e3, e4, e5, e6, e7, e8, e9] at y1
  try simp only [e1, e3, e4, e5, e6, e7, e8, e9] at y2
  try simp only [e1, e3, e4, e5, e6, e7, e8, e9] at y3
  try simp only [e1, e3, e4, e5, e6, e7, e8, e9] at y4
  try simp only [e1, e3, e4, e5, e6, e7, e8, e9] at y5
  try simp only [e1, e3, e4, e5, e6, e7, e8, e9] at y6
  try simp only [e1, e3, e4, e5, e6, e7, e8, e9] at y7
  try simp only [e1, e3, e4, e5, e6, e7, e8, e9] at y8
  try simp only [e1, e3, e4, e5, e6, e7, e8, e9] at y9
  try simp only [e1, e3, e4, e5, e6, e7, e8, e9] at y10
  try simp only [e1, e3, e4, e5, e6, e7, e8, e9] at y11
  try simp only [e1, e3, e4, e5, e6, e7, e8, e9] at y12
  try simp only [e1, e3, e4, e5, e6, e7, e8, e9] at y13
  try simp only [e1, e3, e4, e5, e6, e7, e8, e9] at p0
  try simp only [e1, e3, e4, e5, e6, e7, e8, e9] at p1
  try simp only [e1, e3, e4, e5, e6, e7, e8, e9] at p2
  try simp only [e1, e3, e4, e5, e6, e7, e8, e9] at p3
  try simp only [e1, e3, e4, e5, e6, e7, e8, e9] at r0_0
  clear g3
  clear g4
  clear e0 e1 e2 e3 e4 e5 e6 e7 e8 e9

  try subst k0
  try subst k1
  try subst k2
  try subst k3
  refine ⟨?_, ?_, ?_, ?_, ?_⟩
  · assumption
  · assumption
  · omega
  · assumption
  · exact .inr ⟨fun z => by have z1 := z.1; unfold SNCp at z1; omega, by omega, by omega, by first | rfl | assumption, by first | rfl | assumption, by first | rfl | assumption⟩
def g_253v_36_8 : vG := ([(0, [16], [], -1), (30, [15], [], 0), (1251, [15, 8, 13, 14], [1, 2], 0), (90, [15], [], 0), (91, [15], [], 1), (0, [14], [], 7), (0, [13], [], 0), (40, [6, 12], [], 0), (0, [12], [], 3), (45, [9, 7], [], 0), (41, [7, 11], [], 0), (0, [11], [], -1), (42, [8, 9], [], 0), (33, [8], [], 0), (40, [6, 10], [], 0), (0, [10], [], 1), (5000, [0, 1, 2, 3, 4, 5, 6, 7, 8, 9], [0, 1], 36), (0, [0], [], 285), (90, [1], [], -2147483648), (91, [1], [], 2147483647), (90, [2], [], -2147483648), (91, [2], [], 2147483647), (90, [3], [], -2147483648), (91, [3], [], 2147483647), (90, [4], [], -2147483648), (91, [4], [], 2147483647), (0, [5], [], 285), (90, [6], [], -2147483648), (91, [6], [], 2147483647), (90, [7], [], -2147483648), (91, [7], [], 2147483647), (90, [8], [], -2147483648), (91, [8], [], 2147483647), (90, [9], [], -2147483648), (91, [9], [], 2147483647)], (3000, [16], [2], 84))
theorem c_253v_36_8 {q0 : Nat} : vOkm T0 (eP e_253v L_253v A_253v mu_253v (some q0)) 5 g_253v_36_8 := vOk_in fun ρ η h => by
  obtain ⟨f0, f1, f2, f3, f4, f5, f6, f7, f8, f9, f10, f11, f12, f13, f14, f15, f16, f17, f18, f19, f20, f21, f22, f23, f24, f25, f26, f27, f28, f29, f30, f31, f32, f33, f34, _⟩ := h
  exact q_253v_13 (q0 := q0) (n0 := ρ 9) (n1 := ρ 8) (n2 := ρ 7) (n3 := ρ 6) (n4 := ρ 5) (n5 := ρ 4) (n6 := ρ 3) (n7 := ρ 2) (n8 := ρ 1) (n9 := ρ 0) (n10 := ρ 10) (n11 := ρ 11) (n12 := ρ 12) (n13 := ρ 13) (n14 := ρ 14) (n15 := ρ 15) (n16 := ρ 16) (H0 := η 0) (H1 := η 1) (H2 := η 2) f34 f33 f32 f31 f30 f29 f28 f27 f26 f25 f24 f23 f22 f21 f20 f19 f18 f17 f16 f15 f14 f13 f12 f11 f10 f9 f8 f7 f6 f5 f4 f3 f2 f1 f0
theorem q_253v_14 {q0 : Nat} {n0 n1 n2 n3 n4 n5 n6 n7 n8 n9 n10 n11 n12 n13 : Int} {H0 H1 : gH} (f0 : n0 ≤ 2147483647) (f1 : (-2147483648) ≤ n0) (f2 : n1 ≤ 2147483647) (f3 : (-2147483648) ≤ n1) (f4 : n2 ≤ 2147483647) (f5 : (-2147483648) ≤ n2) (f6 : n3 ≤ 2147483647) (f7 : (-2147483648) ≤ n3) (f8 : n4 = 285) (f9 : n5 ≤ 2147483647) (f10 : (-2147483648) ≤ n5) (f11 : n6 ≤ 2147483647) (f12 : (-2147483648) ≤ n6) (f13 : n7 ≤ 2147483647) (f14 : (-2147483648) ≤ n7) (f15 : n8 ≤ 2147483647) (f16 : (-2147483648) ≤ n8) (f17 : n9 = 285) (f18 : (hLe T0 H0 H1 ∧ hFr s_253v.2.2.2.2 H0 H1 ∧ hWt T0 H1) ∧ (Ab_253v_36 n9 n8 n7 n6 n5 n4 n3 n2 n1 n0 H0 H1 ∧ preb_253v n9 n8 n7 n6 n5 H0) ∧ some q0 = some (mub_253v_36 n9 n8 n7 n6 n5 n4 n3 n2 n1 n0 H0 H1)) (f19 : n10 = 1) (f20 : n3 = n10) (f21 : 0 ≤ n1) (f22 : n1 < n0) (f23 : n11 = (-1)) (f24 : n2 = n11) (f25 : n12 = 240) (f26 : n12 < n0) (f27 : n13 = (-1)) : postb_253v n13 n9 n8 n7 n6 n5 H0 H1 := by
  have g4 := f18.2.1.1
  unfold Ab_253v_36 at g4
  have g3 := f18.2.1.2
  unfold preb_253v at g3
  unfold postb_253v
  have e0 : (0 : Int) ≤ hV H1 285 64 ∧ hV H1 285 64 ≤ 20 := f18.1.2.2 285 64 _ _ (by decide +kernel)
  have e1 : (0 : Int) ≤ hV H1 285 65 ∧ hV H1 285 65 ≤ 2147483647 := f18.1.2.2 285 65 _ _ (by decide +kernel)
  have k0 := g4.1
  have k1 := g4.2.1
  have k2 := g4.2.2.1
  have k3 := g4.2.2.2.1
  have y0 := g4.2.2.2.2.1
  have y1 := g4.2.2.2.2.2.1
  have y2 := g4.2.2.2.2.2.2.1
  have y3 := g4.2.2.2.2.2.2.2.1
  have y4 := g4.2.2.2.2.2.2.2.2.1
  have y5 := g4.2.2.2.2.2.2.2.2.2.1
  have y6 := g4.2.2.2.2.2.2.2.2.2.2.1
  have y7 := g4.2.2.2.2.2.2.2.2.2.2.2.1
  have y8 := g4.2.2.2.2.2.2.2.2.2.2.2.2.1
  have y9 := g4.2.2.2.2.2.2.2.2.2.2.2.2.2.1
  have y10 := g4.2.2.2.2.2.2.2.2.2.2.2.2.2.2.1
  have y11 := g4.2.2.2.2.2.2.2.2.2.2.2.2.2.2.2.1
  have y12 := g4.2.2.2.2.2.2.2.2.2.2.2.2.2.2.2.2.1
  have y13 := g4.2.2.2.2.2.2.2.2.2.2.2.2.2.2.2.2.2
  have p0 := g3.1
  have p1 := g3.2.1
  have p2 := g3.2.2.1
  have p3 := g3.2.2.2
  clear g3
  clear g4

  try subst k0
  try subst k1
  try subst k2
  try subst k3
  refine ⟨?_, ?_, ?_, ?_, ?_⟩
  · assumption
  · assumption
  · omega
  · assumption
  · exact .inr ⟨fun z => by have z1 := z.1; unfold SNCp at z1; omega, by omega, by omega, by first | rfl | assumption, by first | rfl | assumption, by first | rfl | assumption⟩
def g_253v_36_9 : vG := ([(0, [13], [], -1), (44, [9, 12], [], 0), (0, [12], [], 240), (40, [7, 11], [], 0), (0, [11], [], -1), (42, [8, 9], [], 0), (33, [8], [], 0), (40, [6, 10], [], 0), (0, [10], [], 1), (5000, [0, 1, 2, 3, 4, 5, 6, 7, 8, 9], [0, 1], 36), (0, [0], [], 285), (90, [1], [], -2147483648), (91, [1], [], 2147483647), (90, [2], [], -2147483648), (91, [2], [], 2147483647), (90, [3], [], -2147483648), (91, [3], [], 2147483647), (90, [4], [], -2147483648), (91, [4], [], 2147483647), (0, [5], [], 285), (90, [6], [], -2147483648), (91, [6], [], 2147483647), (90, [7], [], -2147483648), (91, [7], [], 2147483647), (90, [8], [], -2147483648), (91, [8], [], 2147483647), (90, [9], [], -2147483648), (91, [9], [], 2147483647)], (3000, [13], [1], 84))
theorem c_253v_36_9 {q0 : Nat} : vOkm T0 (eP e_253v L_253v A_253v mu_253v (some q0)) 5 g_253v_36_9 := vOk_in fun ρ η h => by
  obtain ⟨f0, f1, f2, f3, f4, f5, f6, f7, f8, f9, f10, f11, f12, f13, f14, f15, f16, f17, f18, f19, f20, f21, f22, f23, f24, f25, f26, f27, _⟩ := h
  exact q_253v_14 (q0 := q0) (n0 := ρ 9) (n1 := ρ 8) (n2 := ρ 7) (n3 := ρ 6) (n4 := ρ 5) (n5 := ρ 4) (n6 := ρ 3) (n7 := ρ 2) (n8 := ρ 1) (n9 := ρ 0) (n10 := ρ 10) (n11 := ρ 11) (n12 := ρ 12) (n13 := ρ 13) (H0 := η 0) (H1 := η 1) f27 f26 f25 f24 f23 f22 f21 f20 f19 f18 f17 f16 f15 f14 f13 f12 f11 f10 f9 f8 f7 f6 f5 f4 f3 f2 f1 f0
theorem q_253v_15 {q0 : Nat} {n0 n1 n2 n3 n4 n5 n6 n7 n8 n9 n10 n11 n12 n13 : Int} {H0 H1 : gH} (f0 : n0 ≤ 2147483647) (f1 : (-2147483648) ≤ n0) (f2 : n1 ≤ 2147483647) (f3 : (-2147483648) ≤ n1) (f4 : n2 ≤ 2147483647) (f5 : (-2147483648) ≤ n2) (f6 : n3 ≤ 2147483647) (f7 : (-2147483648) ≤ n3) (f8 : n4 = 285) (f9 : n5 ≤ 2147483647) (f10 : (-2147483648) ≤ n5) (f11 : n6 ≤ 2147483647) (f12 : (-2147483648) ≤ n6) (f13 : n7 ≤ 2147483647) (f14 : (-2147483648) ≤ n7) (f15 : n8 ≤ 2147483647) (f16 : (-2147483648) ≤ n8) (f17 : n9 = 285) (f18 : (hLe T0 H0 H1 ∧ hFr s_253v.2.2.2.2 H0 H1 ∧ hWt T0 H1) ∧ (Ab_253v_36 n9 n8 n7 n6 n5 n4 n3 n2 n1 n0 H0 H1 ∧ preb_253v n9 n8 n7 n6 n5 H0) ∧ some q0 = some (mub_253v_36 n9 n8 n7 n6 n5 n4 n3 n2 n1 n0 H0 H1)) (f19 : n10 = 1) (f20 : n3 = n10) (f21 : 0 ≤ n1) (f22 : n1 < n0) (f23 : n11 = (-1)) (f24 : n2 = n11) (f25 : n12 = 240) (f26 : n0 ≤ n12) (f27 : n13 = 3) (f28 : n3 ≠ n13) : Ab_253v_85 n9 n8 n7 n6 n5 n4 n3 n2 n1 n0 H0 H1 ∧ ∀ q, some q0 = some q → mub_253v_85 n9 n8 n7 n6 n5 n4 n3 n2 n1 n0 H0 H1 < q := by
  have g4 := f18.2.1.1
  unfold Ab_253v_36 at g4
  have g3 := f18.2.1.2
  unfold preb_253v at g3
  have g5 := Option.some.inj f18.2.2
  unfold mub_253v_36 at g5
  unfold Ab_253v_85
  unfold mub_253v_85
  have e0 : (0 : Int) ≤ hV H1 285 64 ∧ hV H1 285 64 ≤ 20 := f18.1.2.2 285 64 _ _ (by decide +kernel)
  have e1 : (0 : Int) ≤ hV H1 285 65 ∧ hV H1 285 65 ≤ 2147483647 := f18.1.2.2 285 65 _ _ (by decide +kernel)
  have k0 := g4.1
  have k1 := g4.2.1
  have k2 := g4.2.2.1
  have k3 := g4.2.2.2.1
  have y0 := g4.2.2.2.2.1
  have y1 := g4.2.2.2.2.2.1
  have y2 := g4.2.2.2.2.2.2.1
  have y3 := g4.2.2.2.2.2.2.2.1
  have y4 := g4.2.2.2.2.2.2.2.2.1
  have y5 := g4.2.2.2.2.2.2.2.2.2.1
  have y6 := g4.2.2.2.2.2.2.2.2.2.2.1
  have y7 := g4.2.2.2.2.2.2.2.2.2.2.2.1
  have y8 := g4.2.2.2.2.2.2.2.2.2.2.2.2.1
  have y9 := g4.2.2.2.2.2.2.2.2.2.2.2.2.2.1
  have y10 := g4.2.2.2.2.2.2.2.2.2.2.2.2.2.2.1
  have y11 := g4.2.2.2.2.2.2.2.2.2.2.2.2.2.2.2.1
  have y12 := g4.2.2.2.2.2.2.2.2.2.2.2.2.2.2.2.2.1
  have y13 := g4.2.2.2.2.2.2.2.2.2.2.2.2.2.2.2.2.2
  have p0 := g3.1
  have p1 := g3.2.1
  have p2 := g3.2.2.1
  have p3 := g3.2.2.2
  clear g3
  clear g4
  try subst k3
  try subst k2
  try subst k1
  try subst k0
  refine ⟨?_, fun q hq => ?_⟩
  · refine ⟨?_, ?_, ?_, ?_, ?_, ?_, ?_, ?_, ?_, ?_, ?_, ?_, ?_, ?_, ?_, ?_, ?_, ?_, ?_, ?_⟩ <;> first | assumption | omega | trivial
  · have g6 := Option.some.inj hq
    subst g6
    omega
def g_253v_36_10 : vG := ([(41, [6, 13], [], 0), (0, [13], [], 3), (45, [9, 12], [], 0), (0, [12], [], 240), (40, [7, 11], [], 0), (0, [11], [], -1), (42, [8, 9], [], 0), (33, [8], [], 0), (40, [6, 10], [], 0), (0, [10], [], 1), (5000, [0, 1, 2, 3, 4, 5, 6, 7, 8, 9], [0, 1], 36), (0, [0], [], 285), (90, [1], [], -2147483648), (91, [1], [], 2147483647), (90, [2], [], -2147483648), (91, [2], [], 2147483647), (90, [3], [], -2147483648), (91, [3], [], 2147483647), (90, [4], [], -2147483648), (91, [4], [], 2147483647), (0, [5], [], 285), (90, [6], [], -2147483648), (91, [6], [], 2147483647), (90, [7], [], -2147483648), (91, [7], [], 2147483647), (90, [8], [], -2147483648), (91, [8], [], 2147483647), (90, [9], [], -2147483648), (91, [9], [], 2147483647)], (4000, [5, 6, 7, 8, 9], [1], 85))
theorem c_253v_36_10 {q0 : Nat} : vOkm T0 (eP e_253v L_253v A_253v mu_253v (some q0)) 5 g_253v_36_10 := vOk_in fun ρ η h => by
  obtain ⟨f0, f1, f2, f3, f4, f5, f6, f7, f8, f9, f10, f11, f12, f13, f14, f15, f16, f17, f18, f19, f20, f21, f22, f23, f24, f25, f26, f27, f28, _⟩ := h
  exact q_253v_15 (q0 := q0) (n0 := ρ 9) (n1 := ρ 8) (n2 := ρ 7) (n3 := ρ 6) (n4 := ρ 5) (n5 := ρ 4) (n6 := ρ 3) (n7 := ρ 2) (n8 := ρ 1) (n9 := ρ 0) (n10 := ρ 10) (n11 := ρ 11) (n12 := ρ 12) (n13 := ρ 13) (H0 := η 0) (H1 := η 1) f28 f27 f26 f25 f24 f23 f22 f21 f20 f19 f18 f17 f16 f15 f14 f13 f12 f11 f10 f9 f8 f7 f6 f5 f4 f3 f2 f1 f0
theorem q_253v_16 {q0 : Nat} {n0 n1 n2 n3 n4 n5 n6 n7 n8 n9 n10 n11 n12 n13 n14 n15 n16 : Int} {H0 H1 H2 : gH} (f0 : n0 ≤ 2147483647) (f1 : (-2147483648) ≤ n0) (f2 : n1 ≤ 2147483647) (f3 : (-2147483648) ≤ n1) (f4 : n2 ≤ 2147483647) (f5 : (-2147483648) ≤ n2) (f6 : n3 ≤ 2147483647) (f7 : (-2147483648) ≤ n3) (f8 : n4 = 285) (f9 : n5 ≤ 2147483647) (f10 : (-2147483648) ≤ n5) (f11 : n6 ≤ 2147483647) (f12 : (-2147483648) ≤ n6) (f13 : n7 ≤ 2147483647) (f14 : (-2147483648) ≤ n7) (f15 : n8 ≤ 2147483647) (f16 : (-2147483648) ≤ n8) (f17 : n9 = 285) (f18 : (hLe T0 H0 H1 ∧ hFr s_253v.2.2.2.2 H0 H1 ∧ hWt T0 H1) ∧ (Ab_253v_36 n9 n8 n7 n6 n5 n4 n3 n2 n1 n0 H0 H1 ∧ preb_253v n9 n8 n7 n6 n5 H0) ∧ some q0 = some (mub_253v_36 n9 n8 n7 n6 n5 n4 n3 n2 n1 n0 H0 H1)) (f19 : n10 = 1) (f20 : n3 = n10) (f21 : 0 ≤ n1) (f22 : n1 < n0) (f23 : n11 = (-1)) (f24 : n2 = n11) (f25 : n12 = 240) (f26 : n0 ≤ n12) (f27 : n13 = 3) (f28 : n3 = n13) (f29 : n14 = 0) (f30 : n15 = 7) (f31 : n16 ≤ 1) (f32 : 0 ≤ n16) (f33 : (hLe T0 H1 H2 ∧ hFr s_251.2.2.2.2 H1 H2 ∧ ((0 : Int) = 0 → H2.length = H1.length) ∧ hWt T0 H2) ∧ postb_251 n16 n1 n14 n15 H1 H2) (f34 : n16 ≠ 0) : Ab_253v_85 n9 n8 n7 n6 n5 n4 n3 n2 n1 n0 H0 H2 ∧ ∀ q, some q0 = some q → mub_253v_85 n9 n8 n7 n6 n5 n4 n3 n2 n1 n0 H0 H2 < q := by
  have g4 := f18.2.1.1
  unfold Ab_253v_36 at g4
  have g3 := f18.2.1.2
  unfold preb_253v at g3
  have g5 := Option.some.inj f18.2.2
  unfold mub_253v_36 at g5
  unfold postb_251 at f33
  unfold Ab_253v_85
  unfold mub_253v_85
  have e0 : hV H2 285 64 = hV H1 285 64 := f33.1.2.1.1 285 64 (by decide +kernel)
  have e1 : hV H2 285 64 = hV H1 285 64 := e0
  have e2 : hV H2 285 65 = hV H1 285 65 := f33.1.2.1.1 285 65 (by decide +kernel)
  have e3 : hV H2 285 65 = hV H1 285 65 := e2
  have e4 : hV H2 328 = hV H1 328 := fRow f33.1.2.1 328 (by decide +kernel)
  have e5 : hV H2 329 = hV H1 329 := fRow f33.1.2.1 329 (by decide +kernel)
  have e6 : hV H2 338 = hV H1 338 := fRow f33.1.2.1 338 (by decide +kernel)
  have e7 : AC H2 = AC H1 := AC_fr f33.1.2.1 (by decide +kernel)
  have e8 : SO H2 = SO H1 := SO_fr f33.1.2.1 (by decide +kernel)
  have e9 : SS H2 = SS H1 := SS_fr f33.1.2.1 (by decide +kernel)
  have e10 : (0 : Int) ≤ hV H1 285 64 ∧ hV H1 285 64 ≤ 20 := f18.1.2.2 285 64 _ _ (by decide +kernel)
  have e11 : (0 : Int) ≤ hV H1 285 65 ∧ hV H1 285 65 ≤ 2147483647 := f18.1.2.2 285 65 _ _ (by decide +kernel)
  have e12 : (0 : Int) ≤ hV H2 285 64 ∧ hV H2 285 64 ≤ 20 := f33.1.2.2.2 285 64 _ _ (by decide +kernel)
  have e13 : (0 : Int) ≤ hV H2 285 65 ∧ hV H2 285 65 ≤ 2147483647 := f33.1.2.2.2 285 65 _ _ (by decide +kernel)
  try simp only [e1, e3, e4, e5, e6, e7, e8, e9] at f18
  try simp only [e1, e3, e4, e5, e6, e7, e8, e9] at f33
  try simp only [e1, e3, e4, e5, e6, e7, e8, e9] at e10
  try simp only [e1, e3, e4, e5, e6, e7, e8, e9] at e11
  try simp only [e1, e3, e4, e5, e6, e7, e8, e9] at e12
  try simp only [e1, e3, e4, e5, e6, e7, e8, e9] at e13
  try simp only [e1, e3, e4, e5, e6, e7, e8, e9] at g3
  try simp only [e1, e3, e4, e5, e6, e7, e8, e9] at g4
  try simp only [e1, e3, e4, e5, e6, e7, e8, e9] at g5
  try simp only [e1, e3, e4, e5, e6, e7, e8, e9]
  have k0 := g4.1
  have k1 := g4.2.1
  have k2 := g4.2.2.1
  have k3 := g4.2.2.2.1
  have y0 := g4.2.2.2.2.1
  have y1 := g4.2.2.2.2.2.1
  have y2 := g4.2.2.2.2.2.2.1
  have y3 := g4.2.2.2.2.2.2.2.1
  have y4 := g4.2.2.2.2.2.2.2.2.1
  have y5 := g4.2.2.2.2.2.2.2.2.2.1
  have y6 := g4.2.2.2.2.2.2.2.2.2.2.1
  have y7 := g4.2.2.2.2.2.2.2.2.2.2.2.1
  have y8 := g4.2.2.2.2.2.2.2.2.2.2.2.2.1
  have y9 := g4.2.2.2.2.2.2.2.2.2.2.2.2.2.1
  have y10 := g4.2.2.2.2.2.2.2.2.2.2.2.2.2.2.1
  have y11 := g4.2.2.2.2.2.2.2.2.2.2.2.2.2.2.2.1
  have y12 := g4.2.2.2.2.2.2.2.2.2.2.2.2.2.2.2.2.1
  have y13 := g4.2.2.2.2.2.2.2.2.2.2.2.2.2.2.2.2.2
  have p0 := g3.1
  have p1 := g3.2.1
  have p2 := g3.2.2.1
  have p3 := g3.2.2.2
  have r0_0 := f33.2
  try simp only [e1, e3, e4, e5, e6, e7, e8, e9] at k0
  try simp only [e1, e3, e4, e5, e6, e7, e8, e9] at k1
  try simp only [e1, e3, e4, e5, e6, e7, e8, e9] at k2
  try simp only [e1, e3, e4, e5, e6, e7, e8, e9] at k3
  try simp only [e1, e3, e4, e5, e6, e7, e8, e9] at y0
  try simp only [e1, e3, e4, e5, e6, e7, e8, e9] at y1
  try simp only [e1, e3, e4, e5, e6, e7, e8, e9] at y2
  try simp only [e1, e3, e4, e5, e6, e7, e8, e9] at y3
  try simp only [e1, e3, e4, e5, e6, e7, e8, e9] at y4
  try simp only [e1, e3, e4, e5, e6, e7, e8, e9] at y5
  try simp only [e1, e3, e4, e5, e6, e7, e8, e9] at y6
  try simp only [e1, e3, e4, e5, e6, e7, e8, e9] at y7
  try simp only [e1, e3, e4, e5, e6, e7, e8, e9] at y8
  try simp only [e1, e3, e4, e5, e6, e7, e8, e9] at y9
  try simp only [e1, e3, e4, e5, e6, e7, e8, e9] at y10
  try simp only [e1, e3, e4, e5, e6, e7, e8, e9] at y11
  try simp only [e1, e3, e4, e5, e6, e7, e8, e9] at y12
  try simp only [e1, e3, e4, e5, e6, e7, e8, e9] at y13
  try simp only [e1, e3, e4, e5, e6, e7, e8, e9] at p0
  try simp only [e1, e3, e4, e5, e6, e7, e8, e9] at p1
  try simp only [e1, e3, e4, e5, e6, e7, e8, e9] at p2
  try simp only [e1, e3, e4, e5, e6, e7, e8, e9] at p3
  try simp only [e1, e3, e4, e5, e6, e7, e8, e9] at r0_0
  clear g3
  clear g4
  clear e0 e1 e2 e3 e4 e5 e6 e7 e8 e9
  try subst k3
  try subst k2
  try subst k1
  try subst k0
  refine ⟨?_, fun q hq => ?_⟩
  · refine ⟨?_, ?_, ?_, ?_, ?_, ?_, ?_, ?_, ?_, ?_, ?_, ?_, ?_, ?_, ?_, ?_, ?_, ?_, ?_, ?_⟩ <;> first | assumption | omega | trivial
  · have g6 := Option.some.inj hq
    subst g6
    omega
def g_253v_36_11 : vG := ([(31, [16], [], 0), (1251, [16, 8, 14, 15], [1, 2], 0), (90, [16], [], 0), (91, [16], [], 1), (0, [15], [], 7), (0, [14], [], 0), (40, [6, 13], [], 0), (0, [13], [], 3), (45, [9, 12], [], 0), (0, [12], [], 240), (40, [7, 11], [], 0), (0, [11], [], -1), (42, [8, 9], [], 0), (33, [8], [], 0), (40, [6, 10], [], 0), (0, [10], [], 1), (5000, [0, 1, 2, 3, 4, 5, 6, 7, 8, 9], [0, 1], 36), (0, [0], [], 285), (90, [1], [], -2147483648), (91, [1], [], 2147483647), (90, [2], [], -2147483648), (91, [2], [], 2147483647), (90, [3], [], -2147483648), (91, [3], [], 2147483647), (90, [4], [], -2147483648), (91, [4], [], 2147483647), (0, [5], [], 285), (90, [6], [], -2147483648), (91, [6], [], 2147483647), (90, [7], [], -2147483648), (91, [7], [], 2147483647), (90, [8], [], -2147483648), (91, [8], [], 2147483647), (90, [9], [], -2147483648), (91, [9], [], 2147483647)], (4000, [5, 6, 7, 8, 9], [2], 85))
theorem c_253v_36_11 {q0 : Nat} : vOkm T0 (eP e_253v L_253v A_253v mu_253v (some q0)) 5 g_253v_36_11 := vOk_in fun ρ η h => by
  obtain ⟨f0, f1, f2, f3, f4, f5, f6, f7, f8, f9, f10, f11, f12, f13, f14, f15, f16, f17, f18, f19, f20, f21, f22, f23, f24, f25, f26, f27, f28, f29, f30, f31, f32, f33, f34, _⟩ := h
  exact q_253v_16 (q0 := q0) (n0 := ρ 9) (n1 := ρ 8) (n2 := ρ 7) (n3 := ρ 6) (n4 := ρ 5) (n5 := ρ 4) (n6 := ρ 3) (n7 := ρ 2) (n8 := ρ 1) (n9 := ρ 0) (n10 := ρ 10) (n11 := ρ 11) (n12 := ρ 12) (n13 := ρ 13) (n14 := ρ 14) (n15 := ρ 15) (n16 := ρ 16) (H0 := η 0) (H1 := η 1) (H2 := η 2) f34 f33 f32 f31 f30 f29 f28 f27 f26 f25 f24 f23 f22 f21 f20 f19 f18 f17 f16 f15 f14 f13 f12 f11 f10 f9 f8 f7 f6 f5 f4 f3 f2 f1 f0
theorem q_253v_17 {q0 : Nat} {n0 n1 n2 n3 n4 n5 n6 n7 n8 n9 n10 n11 n12 n13 n14 n15 n16 n17 : Int} {H0 H1 H2 : gH} (f0 : n0 ≤ 2147483647) (f1 : (-2147483648) ≤ n0) (f2 : n1 ≤ 2147483647) (f3 : (-2147483648) ≤ n1) (f4 : n2 ≤ 2147483647) (f5 : (-2147483648) ≤ n2) (f6 : n3 ≤ 2147483647) (f7 : (-2147483648) ≤ n3) (f8 : n4 = 285) (f9 : n5 ≤ 2147483647) (f10 : (-2147483648) ≤ n5) (f11 : n6 ≤ 2147483647) (f12 : (-2147483648) ≤ n6) (f13 : n7 ≤ 2147483647) (f14 : (-2147483648) ≤ n7) (f15 : n8 ≤ 2147483647) (f16 : (-2147483648) ≤ n8) (f17 : n9 = 285) (f18 : (hLe T0 H0 H1 ∧ hFr s_253v.2.2.2.2 H0 H1 ∧ hWt T0 H1) ∧ (Ab_253v_36 n9 n8 n7 n6 n5 n4 n3 n2 n1 n0 H0 H1 ∧ preb_253v n9 n8 n7 n6 n5 H0) ∧ some q0 = some (mub_253v_36 n9 n8 n7 n6 n5 n4 n3 n2 n1 n0 H0 H1)) (f19 : n10 = 1) (f20 : n3 = n10) (f21 : 0 ≤ n1) (f22 : n1 < n0) (f23 : n11 = (-1)) (f24 : n2 = n11) (f25 : n12 = 240) (f26 : n0 ≤ n12) (f27 : n13 = 3) (f28 : n3 = n13) (f29 : n14 = 0) (f30 : n15 = 7) (f31 : n16 ≤ 1) (f32 : 0 ≤ n16) (f33 : (hLe T0 H1 H2 ∧ hFr s_251.2.2.2.2 H1 H2 ∧ ((0 : Int) = 0 → H2.length = H1.length) ∧ hWt T0 H2) ∧ postb_251 n16 n1 n14 n15 H1 H2) (f34 : n16 = 0) (f35 : n17 = (-1)) : postb_253v n17 n9 n8 n7 n6 n5 H0 H2 := by
  have g4 := f18.2.1.1
  unfold Ab_253v_36 at g4
  have g3 := f18.2.1.2
  unfold preb_253v at g3
  unfold postb_251 at f33
  unfold postb_253v
  have e0 : hV H2 285 64 = hV H1 285 64 := f33.1.2.1.1 285 64 (by decide +kernel)
  have e1 : hV H2 285 64 = hV H1 285 64 := e0
  have e2 : hV H2 285 65 = hV H1 285 65 := f33.1.2.1.1 285 65 (by decide +kernel)
  have e3 : hV H2 285 65 = hV H1 285 65 := e2
  have e4 : hV H2 328 = hV H1 328 := fRow f33.1.2.1 328 (by decide +kernel)
  have e5 : hV H2 329 = hV H1 329 := fRow f33.1.2.1 329 (by decide +kernel)
  have e6 : hV H2 338 = hV H1 338 := fRow f33.1.2.1 338 (by decide +kernel)
  have e7 : AC H2 = AC H1 := AC_fr f33.1.2.1 (by decide +kernel)
  have e8 : SO H2 = SO H1 := SO_fr f33.1.2.1 (by decide +kernel)
  have e9 : SS H2 = SS H1 := SS_fr f33.1.2.1 (by decide +kernel)
  have e10 : (0 : Int) ≤ hV H1 285 64 ∧ hV H1 285 64 ≤ 20 := f18.1.2.2 285 64 _ _ (by decide +kernel)
  have e11 : (0 : Int) ≤ hV H1 285 65 ∧ hV H1 285 65 ≤ 2147483647 := f18.1.2.2 285 65 _ _ (by decide +kernel)
  have e12 : (0 : Int) ≤ hV H2 285 64 ∧ hV H2 285 64 ≤ 20 := f33.1.2.2.2 285 64 _ _ (by decide +kernel)
  have e13 : (0 : Int) ≤ hV H2 285 65 ∧ hV H2 285 65 ≤ 2147483647 := f33.1.2.2.2 285 65 _ _ (by decide +kernel)
  try simp only [e1, e3, e4, e5, e6, e7, e8, e9] at f18
  try simp only [e1, e3, e4, e5, e6, e7, e8, e9] at f33
  try simp only [e1, e3, e4, e5, e6, e7, e8, e9] at e10
  try simp only [e1, e3, e4, e5, e6, e7, e8, e9] at e11
  try simp only [e1, e3, e4, e5, e6, e7, e8, e9] at e12
  try simp only [e1, e3, e4, e5, e6, e7, e8, e9] at e13
  try simp only [e1, e3, e4, e5, e6, e7, e8, e9] at g3
  try simp only [e1, e3, e4, e5, e6, e7, e8, e9] at g4
  try simp only [e1, e3, e4, e5, e6, e7, e8, e9]
  have k0 := g4.1
  have k1 := g4.2.1
  have k2 := g4.2.2.1
  have k3 := g4.2.2.2.1
  have y0 := g4.2.2.2.2.1
  have y1 := g4.2.2.2.2.2.1
  have y2 := g4.2.2.2.2.2.2.1
  have y3 := g4.2.2.2.2.2.2.2.1
  have y4 := g4.2.2.2.2.2.2.2.2.1
  have y5 := g4.2.2.2.2.2.2.2.2.2.1
  have y6 := g4.2.2.2.2.2.2.2.2.2.2.1
  have y7 := g4.2.2.2.2.2.2.2.2.2.2.2.1
  have y8 := g4.2.2.2.2.2.2.2.2.2.2.2.2.1
  have y9 := g4.2.2.2.2.2.2.2.2.2.2.2.2.2.1
  have y10 := g4.2.2.2.2.2.2.2.2.2.2.2.2.2.2.1
  have y11 := g4.2.2.2.2.2.2.2.2.2.2.2.2.2.2.2.1
  have y12 := g4.2.2.2.2.2.2.2.2.2.2.2.2.2.2.2.2.1
  have y13 := g4.2.2.2.2.2.2.2.2.2.2.2.2.2.2.2.2.2
  have p0 := g3.1
  have p1 := g3.2.1
  have p2 := g3.2.2.1
  have p3 := g3.2.2.2
  have r0_0 := f33.2
  try simp only [e1, e3, e4, e5, e6, e7, e8, e9] at k0
  try simp only [e1, e3, e4, e5, e6, e7, e8, e9] at k1
  try simp only [e1, e3, e4, e5, e6, e7, e8, e9] at k2
  try simp only [e1, e3, e4, e5, e6, e7, e8, e9] at k3
  try simp only [e1, e3, e4, e5, e6, e7, e8, e9] at y0
  try simp only [e1, e3, e4, e5, e6, e7, e8, e9] at y1
  try simp only [e1, e3, e4, e5, e6, e7, e8, e9] at y2
  try simp only [e1, e3, e4, e5, e6, e7, e8, e9] at y3
  try simp only [e1, e3, e4, e5, e6, e7, e8, e9] at y4
  try simp only [e1, e3, e4, e5, e6, e7, e8, e9] at y5
  try simp only [e1, e3, e4, e5, e6, e7, e8, e9] at y6
  try simp only [e1, e3, e4, e5, e6, e7, e8, e9] at y7
  try simp only [e1, e3, e4, e5, e6, e7, e8, e9] at y8
  try simp only [e1, e3, e4, e5, e6, e7, e8, e9] at y9
  try simp only [e1, e3, e4, e5, e6, e7, e8, e9] at y10
  try simp only [e1, e3, e4, e5, e6, e7, e8, e9] at y11
  try simp only [e1, e3, e4, e5, e6, e7, e8, e9] at y12
  try simp only [e1, e3, e4, e5, e6, e7, e8, e9] at y13
  try simp only [e1, e3, e4, e5, e6, e7, e8, e9] at p0
  try simp only [e1, e3, e4, e5, e6, e7, e8, e9] at p1
  try simp only [e1, e3, e4, e5, e6, e7, e8, e9] at p2
  try simp only [e1, e3, e4, e5, e6, e7, e8, e9] at p3
  try simp only [e1, e3, e4, e5, e6, e7, e8, e9] at r0_0
  clear g3
  clear g4
  clear e0 e1 e2 e3 e4 e5 e6 e7 e8 e9

  try subst k0
  try subst k1
  try subst k2
  try subst k3
  refine ⟨?_, ?_, ?_, ?_, ?_⟩
  · assumption
  · assumption
  · omega
  · assumption
  · exact .inr ⟨fun z => by have z1 := z.1; unfold SNCp at z1; omega, by omega, by omega, by first | rfl | assumption, by first | rfl | assumption, by first | rfl | assumption⟩
def g_253v_36_12 : vG := ([(0, [17], [], -1), (30, [16], [], 0), (1251, [16, 8, 14, 15], [1, 2], 0), (90, [16], [], 0), (91, [16], [], 1), (0, [15], [], 7), (0, [14], [], 0), (40, [6, 13], [], 0), (0, [13], [], 3), (45, [9, 12], [], 0), (0, [12], [], 240), (40, [7, 11], [], 0), (0, [11], [], -1), (42, [8, 9], [], 0), (33, [8], [], 0), (40, [6, 10], [], 0), (0, [10], [], 1), (5000, [0, 1, 2, 3, 4, 5, 6, 7, 8, 9], [0, 1], 36), (0, [0], [], 285), (90, [1], [], -2147483648), (91, [1], [], 2147483647), (90, [2], [], -2147483648), (91, [2], [], 2147483647), (90, [3], [], -2147483648), (91, [3], [], 2147483647), (90, [4], [], -2147483648), (91, [4], [], 2147483647), (0, [5], [], 285), (90, [6], [], -2147483648), (91, [6], [], 2147483647), (90, [7], [], -2147483648), (91, [7], [], 2147483647), (90, [8], [], -2147483648), (91, [8], [], 2147483647), (90, [9], [], -2147483648), (91, [9], [], 2147483647)], (3000, [17], [2], 84))
theorem c_253v_36_12 {q0 : Nat} : vOkm T0 (eP e_253v L_253v A_253v mu_253v (some q0)) 5 g_253v_36_12 := vOk_in fun ρ η h => by
  obtain ⟨f0, f1, f2, f3, f4, f5, f6, f7, f8, f9, f10, f11, f12, f13, f14, f15, f16, f17, f18, f19, f20, f21, f22, f23, f24, f25, f26, f27, f28, f29, f30, f31, f32, f33, f34, f35, _⟩ := h
  exact q_253v_17 (q0 := q0) (n0 := ρ 9) (n1 := ρ 8) (n2 := ρ 7) (n3 := ρ 6) (n4 := ρ 5) (n5 := ρ 4) (n6 := ρ 3) (n7 := ρ 2) (n8 := ρ 1) (n9 := ρ 0) (n10 := ρ 10) (n11 := ρ 11) (n12 := ρ 12) (n13 := ρ 13) (n14 := ρ 14) (n15 := ρ 15) (n16 := ρ 16) (n17 := ρ 17) (H0 := η 0) (H1 := η 1) (H2 := η 2) f35 f34 f33 f32 f31 f30 f29 f28 f27 f26 f25 f24 f23 f22 f21 f20 f19 f18 f17 f16 f15 f14 f13 f12 f11 f10 f9 f8 f7 f6 f5 f4 f3 f2 f1 f0
def p_253v_36 : List vG := [g_253v_36_0,
  g_253v_36_1,
  g_253v_36_2,
  g_253v_36_3,
  g_253v_36_4,
  g_253v_36_5,
  g_253v_36_6,
  g_253v_36_7,
  g_253v_36_8,
  g_253v_36_9,
  g_253v_36_10,
  g_253v_36_11,
  g_253v_36_12]
theorem r_253v_36 : vCovO false (eRc e_253v L_253v cs_253v 2000 (36, [(0, (3, 12, 285, 0)), (1, (0, -2147483648, 2147483647, 0)), (2, (0, -2147483648, 2147483647, 0)), (3, (0, -2147483648, 2147483647, 0)), (4, (0, -2147483648, 2147483647, 0))])) p_253v_36 = true := by decide +kernel
theorem q_253v_18 {q0 : Nat} {n0 n1 n2 n3 n4 n5 n6 n7 n8 n9 : Int} {H0 H1 : gH} (f0 : n0 ≤ 2147483647) (f1 : (-2147483648) ≤ n0) (f2 : n1 ≤ 2147483647) (f3 : (-2147483648) ≤ n1) (f4 : n2 ≤ 2147483647) (f5 : (-2147483648) ≤ n2) (f6 : n3 ≤ 2147483647) (f7 : (-2147483648) ≤ n3) (f8 : n4 = 285) (f9 : n5 ≤ 2147483647) (f10 : (-2147483648) ≤ n5) (f11 : n6 ≤ 2147483647) (f12 : (-2147483648) ≤ n6) (f13 : n7 ≤ 2147483647) (f14 : (-2147483648) ≤ n7) (f15 : n8 ≤ 2147483647) (f16 : (-2147483648) ≤ n8) (f17 : n9 = 285) (f18 : (hLe T0 H0 H1 ∧ hFr s_253v.2.2.2.2 H0 H1 ∧ hWt T0 H1) ∧ (Ab_253v_85 n9 n8 n7 n6 n5 n4 n3 n2 n1 n0 H0 H1 ∧ preb_253v n9 n8 n7 n6 n5 H0) ∧ some q0 = some (mub_253v_85 n9 n8 n7 n6 n5 n4 n3 n2 n1 n0 H0 H1)) : 0 ≤ n3 := by
  have g4 := f18.2.1.1
  unfold Ab_253v_85 at g4
  have g3 := f18.2.1.2
  unfold preb_253v at g3
  have e0 : (0 : Int) ≤ hV H1 285 64 ∧ hV H1 285 64 ≤ 20 := f18.1.2.2 285 64 _ _ (by decide +kernel)
  have e1 : (0 : Int) ≤ hV H1 285 65 ∧ hV H1 285 65 ≤ 2147483647 := f18.1.2.2 285 65 _ _ (by decide +kernel)
  have k0 := g4.1
  have k1 := g4.2.1
  have k2 := g4.2.2.1
  have k3 := g4.2.2.2.1
  have y0 := g4.2.2.2.2.1
  have y1 := g4.2.2.2.2.2.1
  have y2 := g4.2.2.2.2.2.2.1
  have y3 := g4.2.2.2.2.2.2.2.1
  have y4 := g4.2.2.2.2.2.2.2.2.1
  have y5 := g4.2.2.2.2.2.2.2.2.2.1
  have y6 := g4.2.2.2.2.2.2.2.2.2.2.1
  have y7 := g4.2.2.2.2.2.2.2.2.2.2.2.1
  have y8 := g4.2.2.2.2.2.2.2.2.2.2.2.2.1
  have y9 := g4.2.2.2.2.2.2.2.2.2.2.2.2.2.1
  have y10 := g4.2.2.2.2.2.2.2.2.2.2.2.2.2.2.1
  have y11 := g4.2.2.2.2.2.2.2.2.2.2.2.2.2.2.2.1
  have y12 := g4.2.2.2.2.2.2.2.2.2.2.2.2.2.2.2.2.1
  have y13 := g4.2.2.2.2.2.2.2.2.2.2.2.2.2.2.2.2.2.1
  have y14 := g4.2.2.2.2.2.2.2.2.2.2.2.2.2.2.2.2.2.2.1
  have y15 := g4.2.2.2.2.2.2.2.2.2.2.2.2.2.2.2.2.2.2.2
  have p0 := g3.1
  have p1 := g3.2.1
  have p2 := g3.2.2.1
  have p3 := g3.2.2.2
  clear g3
  clear g4
  try subst k3
  try subst k2
  try subst k1
  try subst k0
  omega
def g_253v_85_0 : vG := ([(5000, [0, 1, 2, 3, 4, 5, 6, 7, 8, 9], [0, 1], 85), (0, [0], [], 285), (90, [1], [], -2147483648), (91, [1], [], 2147483647), (90, [2], [], -2147483648), (91, [2], [], 2147483647), (90, [3], [], -2147483648), (91, [3], [], 2147483647), (90, [4], [], -2147483648), (91, [4], [], 2147483647), (0, [5], [], 285), (90, [6], [], -2147483648), (91, [6], [], 2147483647), (90, [7], [], -2147483648), (91, [7], [], 2147483647), (90, [8], [], -2147483648), (91, [8], [], 2147483647), (90, [9], [], -2147483648), (91, [9], [], 2147483647)], (90, [6], [], 0))
theorem c_253v_85_0 {q0 : Nat} : vOkm T0 (eP e_253v L_253v A_253v mu_253v (some q0)) 5 g_253v_85_0 := vOk_in fun ρ η h => by
  obtain ⟨f0, f1, f2, f3, f4, f5, f6, f7, f8, f9, f10, f11, f12, f13, f14, f15, f16, f17, f18, _⟩ := h
  exact q_253v_18 (q0 := q0) (n0 := ρ 9) (n1 := ρ 8) (n2 := ρ 7) (n3 := ρ 6) (n4 := ρ 5) (n5 := ρ 4) (n6 := ρ 3) (n7 := ρ 2) (n8 := ρ 1) (n9 := ρ 0) (H0 := η 0) (H1 := η 1) f18 f17 f16 f15 f14 f13 f12 f11 f10 f9 f8 f7 f6 f5 f4 f3 f2 f1 f0
theorem q_253v_19 {q0 : Nat} {n0 n1 n2 n3 n4 n5 n6 n7 n8 n9 : Int} {H0 H1 : gH} (f0 : n0 ≤ 2147483647) (f1 : (-2147483648) ≤ n0) (f2 : n1 ≤ 2147483647) (f3 : (-2147483648) ≤ n1) (f4 : n2 ≤ 2147483647) (f5 : (-2147483648) ≤ n2) (f6 : n3 ≤ 2147483647) (f7 : (-2147483648) ≤ n3) (f8 : n4 = 285) (f9 : n5 ≤ 2147483647) (f10 : (-2147483648) ≤ n5) (f11 : n6 ≤ 2147483647) (f12 : (-2147483648) ≤ n6) (f13 : n7 ≤ 2147483647) (f14 : (-2147483648) ≤ n7) (f15 : n8 ≤ 2147483647) (f16 : (-2147483648) ≤ n8) (f17 : n9 = 285) (f18 : (hLe T0 H0 H1 ∧ hFr s_253v.2.2.2.2 H0 H1 ∧ hWt T0 H1) ∧ (Ab_253v_85 n9 n8 n7 n6 n5 n4 n3 n2 n1 n0 H0 H1 ∧ preb_253v n9 n8 n7 n6 n5 H0) ∧ some q0 = some (mub_253v_85 n9 n8 n7 n6 n5 n4 n3 n2 n1 n0 H0 H1)) : n3 ≤ 6 := by
  have g4 := f18.2.1.1
  unfold Ab_253v_85 at g4
  have g3 := f18.2.1.2
  unfold preb_253v at g3
  have e0 : (0 : Int) ≤ hV H1 285 64 ∧ hV H1 285 64 ≤ 20 := f18.1.2.2 285 64 _ _ (by decide +kernel)
  have e1 : (0 : Int) ≤ hV H1 285 65 ∧ hV H1 285 65 ≤ 2147483647 := f18.1.2.2 285 65 _ _ (by decide +kernel)
  have k0 := g4.1
  have k1 := g4.2.1
  have k2 := g4.2.2.1
  have k3 := g4.2.2.2.1
  have y0 := g4.2.2.2.2.1
  have y1 := g4.2.2.2.2.2.1
  have y2 := g4.2.2.2.2.2.2.1
  have y3 := g4.2.2.2.2.2.2.2.1
  have y4 := g4.2.2.2.2.2.2.2.2.1
  have y5 := g4.2.2.2.2.2.2.2.2.2.1
  have y6 := g4.2.2.2.2.2.2.2.2.2.2.1
  have y7 := g4.2.2.2.2.2.2.2.2.2.2.2.1
  have y8 := g4.2.2.2.2.2.2.2.2.2.2.2.2.1
  have y9 := g4.2.2.2.2.2.2.2.2.2.2.2.2.2.1
  have y10 := g4.2.2.2.2.2.2.2.2.2.2.2.2.2.2.1
  have y11 := g4.2.2.2.2.2.2.2.2.2.2.2.2.2.2.2.1
  have y12 := g4.2.2.2.2.2.2.2.2.2.2.2.2.2.2.2.2.1
  have y13 := g4.2.2.2.2.2.2.2.2.2.2.2.2.2.2.2.2.2.1
  have y14 := g4.2.2.2.2.2.2.2.2.2.2.2.2.2.2.2.2.2.2.1
  have y15 := g4.2.2.2.2.2.2.2.2.2.2.2.2.2.2.2.2.2.2.2
  have p0 := g3.1
  have p1 := g3.2.1
  have p2 := g3.2.2.1
  have p3 := g3.2.2.2
  clear g3
  clear g4
  try subst k3
  try subst k2
  try subst k1
  try subst k0
  omega
def g_253v_85_1 : vG := ([(5000, [0, 1, 2, 3, 4, 5, 6, 7, 8, 9], [0, 1], 85), (0, [0], [], 285), (90, [1], [], -2147483648), (91, [1], [], 2147483647), (90, [2], [], -2147483648), (91, [2], [], 2147483647), (90, [3], [], -2147483648), (91, [3], [], 2147483647), (90, [4], [], -2147483648), (91, [4], [], 2147483647), (0, [5], [], 285), (90, [6], [], -2147483648), (91, [6], [], 2147483647), (90, [7], [], -2147483648), (91, [7], [], 2147483647), (90, [8], [], -2147483648), (91, [8], [], 2147483647), (90, [9], [], -2147483648), (91, [9], [], 2147483647)], (91, [6], [], 6))
theorem c_253v_85_1 {q0 : Nat} : vOkm T0 (eP e_253v L_253v A_253v mu_253v (some q0)) 5 g_253v_85_1 := vOk_in fun ρ η h => by
  obtain ⟨f0, f1, f2, f3, f4, f5, f6, f7, f8, f9, f10, f11, f12, f13, f14, f15, f16, f17, f18, _⟩ := h
  exact q_253v_19 (q0 := q0) (n0 := ρ 9) (n1 := ρ 8) (n2 := ρ 7) (n3 := ρ 6) (n4 := ρ 5) (n5 := ρ 4) (n6 := ρ 3) (n7 := ρ 2) (n8 := ρ 1) (n9 := ρ 0) (H0 := η 0) (H1 := η 1) f18 f17 f16 f15 f14 f13 f12 f11 f10 f9 f8 f7 f6 f5 f4 f3 f2 f1 f0
theorem q_253v_20 {q0 : Nat} {n0 n1 n2 n3 n4 n5 n6 n7 n8 n9 : Int} {H0 H1 : gH} (f0 : n0 ≤ 2147483647) (f1 : (-2147483648) ≤ n0) (f2 : n1 ≤ 2147483647) (f3 : (-2147483648) ≤ n1) (f4 : n2 ≤ 2147483647) (f5 : (-2147483648) ≤ n2) (f6 : n3 ≤ 2147483647) (f7 : (-2147483648) ≤ n3) (f8 : n4 = 285) (f9 : n5 ≤ 2147483647) (f10 : (-2147483648) ≤ n5) (f11 : n6 ≤ 2147483647) (f12 : (-2147483648) ≤ n6) (f13 : n7 ≤ 2147483647) (f14 : (-2147483648) ≤ n7) (f15 : n8 ≤ 2147483647) (f16 : (-2147483648) ≤ n8) (f17 : n9 = 285) (f18 : (hLe T0 H0 H1 ∧ hFr s_253v.2.2.2.2 H0 H1 ∧ hWt T0 H1) ∧ (Ab_253v_85 n9 n8 n7 n6 n5 n4 n3 n2 n1 n0 H0 H1 ∧ preb_253v n9 n8 n7 n6 n5 H0) ∧ some q0 = some (mub_253v_85 n9 n8 n7 n6 n5 n4 n3 n2 n1 n0 H0 H1)) : (-1) ≤ n2 := by
  have g4 := f18.2.1.1
  unfold Ab_253v_85 at g4
  have g3 := f18.2.1.2
  unfold preb_253v at g3
  have e0 : (0 : Int) ≤ hV H1 285 64 ∧ hV H1 285 64 ≤ 20 := f18.1.2.2 285 64 _ _ (by decide +kernel)
  have e1 : (0 : Int) ≤ hV H1 285 65 ∧ hV H1 285 65 ≤ 2147483647 := f18.1.2.2 285 65 _ _ (by decide +kernel)
  have k0 := g4.1
  have k1 := g4.2.1
  have k2 := g4.2.2.1
  have k3 := g4.2.2.2.1
  have y0 := g4.2.2.2.2.1
  have y1 := g4.2.2.2.2.2.1
  have y2 := g4.2.2.2.2.2.2.1
  have y3 := g4.2.2.2.2.2.2.2.1
  have y4 := g4.2.2.2.2.2.2.2.2.1
  have y5 := g4.2.2.2.2.2.2.2.2.2.1
  have y6 := g4.2.2.2.2.2.2.2.2.2.2.1
  have y7 := g4.2.2.2.2.2.2.2.2.2.2.2.1
  have y8 := g4.2.2.2.2.2.2.2.2.2.2.2.2.1
  have y9 := g4.2.2.2.2.2.2.2.2.2.2.2.2.2.1
  have y10 := g4.2.2.2.2.2.2.2.2.2.2.2.2.2.2.1
  have y11 := g4.2.2.2.2.2.2.2.2.2.2.2.2.2.2.2.1
  have y12 := g4.2.2.2.2.2.2.2.2.2.2.2.2.2.2.2.2.1
  have y13 := g4.2.2.2.2.2.2.2.2.2.2.2.2.2.2.2.2.2.1
  have y14 := g4.2.2.2.2.2.2.2.2.2.2.2.2.2.2.2.2.2.2.1
  have y15 := g4.2.2.2.2.2.2.2.2.2.2.2.2.2.2.2.2.2.2.2
  have p0 := g3.1
  have p1 := g3.2.1
  have p2 := g3.2.2.1
  have p3 := g3.2.2.2
  clear g3
  clear g4
  try subst k3
  try subst k2
  try subst k1
  try subst k0
  omega
def g_253v_85_2 : vG := ([(5000, [0, 1, 2, 3, 4, 5, 6, 7, 8, 9], [0, 1], 85), (0, [0], [], 285), (90, [1], [], -2147483648), (91, [1], [], 2147483647), (90, [2], [], -2147483648), (91, [2], [], 2147483647), (90, [3], [], -2147483648), (91, [3], [], 2147483647), (90, [4], [], -2147483648), (91, [4], [], 2147483647), (0, [5], [], 285), (90, [6], [], -2147483648), (91, [6], [], 2147483647), (90, [7], [], -2147483648), (91, [7], [], 2147483647), (90, [8], [], -2147483648), (91, [8], [], 2147483647), (90, [9], [], -2147483648), (91, [9], [], 2147483647)], (90, [7], [], -1))
theorem c_253v_85_2 {q0 : Nat} : vOkm T0 (eP e_253v L_253v A_253v mu_253v (some q0)) 5 g_253v_85_2 := vOk_in fun ρ η h => by
  obtain ⟨f0, f1, f2, f3, f4, f5, f6, f7, f8, f9, f10, f11, f12, f13, f14, f15, f16, f17, f18, _⟩ := h
  exact q_253v_20 (q0 := q0) (n0 := ρ 9) (n1 := ρ 8) (n2 := ρ 7) (n3 := ρ 6) (n4 := ρ 5) (n5 := ρ 4) (n6 := ρ 3) (n7 := ρ 2) (n8 := ρ 1) (n9 := ρ 0) (H0 := η 0) (H1 := η 1) f18 f17 f16 f15 f14 f13 f12 f11 f10 f9 f8 f7 f6 f5 f4 f3 f2 f1 f0
theorem q_253v_21 {q0 : Nat} {n0 n1 n2 n3 n4 n5 n6 n7 n8 n9 : Int} {H0 H1 : gH} (f0 : n0 ≤ 2147483647) (f1 : (-2147483648) ≤ n0) (f2 : n1 ≤ 2147483647) (f3 : (-2147483648) ≤ n1) (f4 : n2 ≤ 2147483647) (f5 : (-2147483648) ≤ n2) (f6 : n3 ≤ 2147483647) (f7 : (-2147483648) ≤ n3) (f8 : n4 = 285) (f9 : n5 ≤ 2147483647) (f10 : (-2147483648) ≤ n5) (f11 : n6 ≤ 2147483647) (f12 : (-2147483648) ≤ n6) (f13 : n7 ≤ 2147483647) (f14 : (-2147483648) ≤ n7) (f15 : n8 ≤ 2147483647) (f16 : (-2147483648) ≤ n8) (f17 : n9 = 285) (f18 : (hLe T0 H0 H1 ∧ hFr s_253v.2.2.2.2 H0 H1 ∧ hWt T0 H1) ∧ (Ab_253v_85 n9 n8 n7 n6 n5 n4 n3 n2 n1 n0 H0 H1 ∧ preb_253v n9 n8 n7 n6 n5 H0) ∧ some q0 = some (mub_253v_85 n9 n8 n7 n6 n5 n4 n3 n2 n1 n0 H0 H1)) : n2 ≤ 240 := by
  have g4 := f18.2.1.1
  unfold Ab_253v_85 at g4
  have g3 := f18.2.1.2
  unfold preb_253v at g3
  have e0 : (0 : Int) ≤ hV H1 285 64 ∧ hV H1 285 64 ≤ 20 := f18.1.2.2 285 64 _ _ (by decide +kernel)
  have e1 : (0 : Int) ≤ hV H1 285 65 ∧ hV H1 285 65 ≤ 2147483647 := f18.1.2.2 285 65 _ _ (by decide +kernel)
  have k0 := g4.1
  have k1 := g4.2.1
  have k2 := g4.2.2.1
  have k3 := g4.2.2.2.1
  have y0 := g4.2.2.2.2.1
  have y1 := g4.2.2.2.2.2.1
  have y2 := g4.2.2.2.2.2.2.1
  have y3 := g4.2.2.2.2.2.2.2.1
  have y4 := g4.2.2.2.2.2.2.2.2.1
  have y5 := g4.2.2.2.2.2.2.2.2.2.1
  have y6 := g4.2.2.2.2.2.2.2.2.2.2.1
  have y7 := g4.2.2.2.2.2.2.2.2.2.2.2.1
  have y8 := g4.2.2.2.2.2.2.2.2.2.2.2.2.1
  have y9 := g4.2.2.2.2.2.2.2.2.2.2.2.2.2.1
  have y10 := g4.2.2.2.2.2.2.2.2.2.2.2.2.2.2.1
  have y11 := g4.2.2.2.2.2.2.2.2.2.2.2.2.2.2.2.1
  have y12 := g4.2.2.2.2.2.2.2.2.2.2.2.2.2.2.2.2.1
  have y13 := g4.2.2.2.2.2.2.2.2.2.2.2.2.2.2.2.2.2.1
  have y14 := g4.2.2.2.2.2.2.2.2.2.2.2.2.2.2.2.2.2.2.1
  have y15 := g4.2.2.2.2.2.2.2.2.2.2.2.2.2.2.2.2.2.2.2
  have p0 := g3.1
  have p1 := g3.2.1
  have p2 := g3.2.2.1
  have p3 := g3.2.2.2
  clear g3
  clear g4
  try subst k3
  try subst k2
  try subst k1
  try subst k0
  omega
def g_253v_85_3 : vG := ([(5000, [0, 1, 2, 3, 4, 5, 6, 7, 8, 9], [0, 1], 85), (0, [0], [], 285), (90, [1], [], -2147483648), (91, [1], [], 2147483647), (90, [2], [], -2147483648), (91, [2], [], 2147483647), (90, [3], [], -2147483648), (91, [3], [], 2147483647), (90, [4], [], -2147483648), (91, [4], [], 2147483647), (0, [5], [], 285), (90, [6], [], -2147483648), (91, [6], [], 2147483647), (90, [7], [], -2147483648), (91, [7], [], 2147483647), (90, [8], [], -2147483648), (91, [8], [], 2147483647), (90, [9], [], -2147483648), (91, [9], [], 2147483647)], (91, [7], [], 240))
theorem c_253v_85_3 {q0 : Nat} : vOkm T0 (eP e_253v L_253v A_253v mu_253v (some q0)) 5 g_253v_85_3 := vOk_in fun ρ η h => by
  obtain ⟨f0, f1, f2, f3, f4, f5, f6, f7, f8, f9, f10, f11, f12, f13, f14, f15, f16, f17, f18, _⟩ := h
  exact q_253v_21 (q0 := q0) (n0 := ρ 9) (n1 := ρ 8) (n2 := ρ 7) (n3 := ρ 6) (n4 := ρ 5) (n5 := ρ 4) (n6 := ρ 3) (n7 := ρ 2) (n8 := ρ 1) (n9 := ρ 0) (H0 := η 0) (H1 := η 1) f18 f17 f16 f15 f14 f13 f12 f11 f10 f9 f8 f7 f6 f5 f4 f3 f2 f1 f0
theorem q_253v_22 {q0 : Nat} {n0 n1 n2 n3 n4 n5 n6 n7 n8 n9 n10 : Int} {H0 H1 : gH} (f0 : n0 ≤ 2147483647) (f1 : (-2147483648) ≤ n0) (f2 : n1 ≤ 2147483647) (f3 : (-2147483648) ≤ n1) (f4 : n2 ≤ 2147483647) (f5 : (-2147483648) ≤ n2) (f6 : n3 ≤ 2147483647) (f7 : (-2147483648) ≤ n3) (f8 : n4 = 285) (f9 : n5 ≤ 2147483647) (f10 : (-2147483648) ≤ n5) (f11 : n6 ≤ 2147483647) (f12 : (-2147483648) ≤ n6) (f13 : n7 ≤ 2147483647) (f14 : (-2147483648) ≤ n7) (f15 : n8 ≤ 2147483647) (f16 : (-2147483648) ≤ n8) (f17 : n9 = 285) (f18 : (hLe T0 H0 H1 ∧ hFr s_253v.2.2.2.2 H0 H1 ∧ hWt T0 H1) ∧ (Ab_253v_85 n9 n8 n7 n6 n5 n4 n3 n2 n1 n0 H0 H1 ∧ preb_253v n9 n8 n7 n6 n5 H0) ∧ some q0 = some (mub_253v_85 n9 n8 n7 n6 n5 n4 n3 n2 n1 n0 H0 H1)) (f19 : n10 = (-1)) : preb_252v n4 n3 n2 n1 n0 n10 H1 := by
  have g4 := f18.2.1.1
  unfold Ab_253v_85 at g4
  have g3 := f18.2.1.2
  unfold preb_253v at g3
  unfold preb_252v
  have e0 : (0 : Int) ≤ hV H1 285 64 ∧ hV H1 285 64 ≤ 20 := f18.1.2.2 285 64 _ _ (by decide +kernel)
  have e1 : (0 : Int) ≤ hV H1 285 65 ∧ hV H1 285 65 ≤ 2147483647 := f18.1.2.2 285 65 _ _ (by decide +kernel)
  have k0 := g4.1
  have k1 := g4.2.1
  have k2 := g4.2.2.1
  have k3 := g4.2.2.2.1
  have y0 := g4.2.2.2.2.1
  have y1 := g4.2.2.2.2.2.1
  have y2 := g4.2.2.2.2.2.2.1
  have y3 := g4.2.2.2.2.2.2.2.1
  have y4 := g4.2.2.2.2.2.2.2.2.1
  have y5 := g4.2.2.2.2.2.2.2.2.2.1
  have y6 := g4.2.2.2.2.2.2.2.2.2.2.1
  have y7 := g4.2.2.2.2.2.2.2.2.2.2.2.1
  have y8 := g4.2.2.2.2.2.2.2.2.2.2.2.2.1
  have y9 := g4.2.2.2.2.2.2.2.2.2.2.2.2.2.1
  have y10 := g4.2.2.2.2.2.2.2.2.2.2.2.2.2.2.1
  have y11 := g4.2.2.2.2.2.2.2.2.2.2.2.2.2.2.2.1
  have y12 := g4.2.2.2.2.2.2.2.2.2.2.2.2.2.2.2.2.1
  have y13 := g4.2.2.2.2.2.2.2.2.2.2.2.2.2.2.2.2.2.1
  have y14 := g4.2.2.2.2.2.2.2.2.2.2.2.2.2.2.2.2.2.2.1
  have y15 := g4.2.2.2.2.2.2.2.2.2.2.2.2.2.2.2.2.2.2.2
  have p0 := g3.1
  have p1 := g3.2.1
  have p2 := g3.2.2.1
  have p3 := g3.2.2.2
  clear g3
  clear g4
  try subst k3
  try subst k2
  try subst k1
  try subst k0
  refine ⟨?_, ?_, ?_, ?_, ?_, ?_, ?_, ?_⟩ <;> first | assumption | omega | trivial
def g_253v_85_4 : vG := ([(0, [10], [], -1), (5000, [0, 1, 2, 3, 4, 5, 6, 7, 8, 9], [0, 1], 85), (0, [0], [], 285), (90, [1], [], -2147483648), (91, [1], [], 2147483647), (90, [2], [], -2147483648), (91, [2], [], 2147483647), (90, [3], [], -2147483648), (91, [3], [], 2147483647), (90, [4], [], -2147483648), (91, [4], [], 2147483647), (0, [5], [], 285), (90, [6], [], -2147483648), (91, [6], [], 2147483647), (90, [7], [], -2147483648), (91, [7], [], 2147483647), (90, [8], [], -2147483648), (91, [8], [], 2147483647), (90, [9], [], -2147483648), (91, [9], [], 2147483647)], (2252, [5, 6, 7, 8, 9, 10], [1], 0))
theorem c_253v_85_4 {q0 : Nat} : vOkm T0 (eP e_253v L_253v A_253v mu_253v (some q0)) 5 g_253v_85_4 := vOk_in fun ρ η h => by
  obtain ⟨f0, f1, f2, f3, f4, f5, f6, f7, f8, f9, f10, f11, f12, f13, f14, f15, f16, f17, f18, f19, _⟩ := h
  exact q_253v_22 (q0 := q0) (n0 := ρ 9) (n1 := ρ 8) (n2 := ρ 7) (n3 := ρ 6) (n4 := ρ 5) (n5 := ρ 4) (n6 := ρ 3) (n7 := ρ 2) (n8 := ρ 1) (n9 := ρ 0) (n10 := ρ 10) (H0 := η 0) (H1 := η 1) f19 f18 f17 f16 f15 f14 f13 f12 f11 f10 f9 f8 f7 f6 f5 f4 f3 f2 f1 f0
theorem q_253v_23 {q0 : Nat} {n0 n1 n2 n3 n4 n5 n6 n7 n8 n9 n10 n11 : Int} {H0 H1 H2 : gH} (f0 : n0 ≤ 2147483647) (f1 : (-2147483648) ≤ n0) (f2 : n1 ≤ 2147483647) (f3 : (-2147483648) ≤ n1) (f4 : n2 ≤ 2147483647) (f5 : (-2147483648) ≤ n2) (f6 : n3 ≤ 2147483647) (f7 : (-2147483648) ≤ n3) (f8 : n4 = 285) (f9 : n5 ≤ 2147483647) (f10 : (-2147483648) ≤ n5) (f11 : n6 ≤ 2147483647) (f12 : (-2147483648) ≤ n6) (f13 : n7 ≤ 2147483647) (f14 : (-2147483648) ≤ n7) (f15 : n8 ≤ 2147483647) (f16 : (-2147483648) ≤ n8) (f17 : n9 = 285) (f18 : (hLe T0 H0 H1 ∧ hFr s_253v.2.2.2.2 H0 H1 ∧ hWt T0 H1) ∧ (Ab_253v_85 n9 n8 n7 n6 n5 n4 n3 n2 n1 n0 H0 H1 ∧ preb_253v n9 n8 n7 n6 n5 H0) ∧ some q0 = some (mub_253v_85 n9 n8 n7 n6 n5 n4 n3 n2 n1 n0 H0 H1)) (f19 : n10 = (-1)) (f20 : n11 ≤ 2147483647) (f21 : (-2147483648) ≤ n11) (f22 : (hLe T0 H1 H2 ∧ hFr s_252v.2.2.2.2 H1 H2 ∧ ((0 : Int) = 0 → H2.length = H1.length) ∧ hWt T0 H2) ∧ postb_252v n11 n4 n3 n2 n1 n0 n10 H1 H2) : postb_253v n11 n9 n8 n7 n6 n5 H0 H2 := by
  have g4 := f18.2.1.1
  unfold Ab_253v_85 at g4
  have g3 := f18.2.1.2
  unfold preb_253v at g3
  unfold postb_252v at f22
  unfold postb_253v
  have e0 : (0 : Int) ≤ hV H1 285 64 ∧ hV H1 285 64 ≤ 20 := f18.1.2.2 285 64 _ _ (by decide +kernel)
  have e1 : (0 : Int) ≤ hV H1 285 65 ∧ hV H1 285 65 ≤ 2147483647 := f18.1.2.2 285 65 _ _ (by decide +kernel)
  have e2 : (0 : Int) ≤ hV H2 285 64 ∧ hV H2 285 64 ≤ 20 := f22.1.2.2.2 285 64 _ _ (by decide +kernel)
  have e3 : (0 : Int) ≤ hV H2 285 65 ∧ hV H2 285 65 ≤ 2147483647 := f22.1.2.2.2 285 65 _ _ (by decide +kernel)
  have k0 := g4.1
  have k1 := g4.2.1
  have k2 := g4.2.2.1
  have k3 := g4.2.2.2.1
  have y0 := g4.2.2.2.2.1
  have y1 := g4.2.2.2.2.2.1
  have y2 := g4.2.2.2.2.2.2.1
  have y3 := g4.2.2.2.2.2.2.2.1
  have y4 := g4.2.2.2.2.2.2.2.2.1
  have y5 := g4.2.2.2.2.2.2.2.2.2.1
  have y6 := g4.2.2.2.2.2.2.2.2.2.2.1
  have y7 := g4.2.2.2.2.2.2.2.2.2.2.2.1
  have y8 := g4.2.2.2.2.2.2.2.2.2.2.2.2.1
  have y9 := g4.2.2.2.2.2.2.2.2.2.2.2.2.2.1
  have y10 := g4.2.2.2.2.2.2.2.2.2.2.2.2.2.2.1
  have y11 := g4.2.2.2.2.2.2.2.2.2.2.2.2.2.2.2.1
  have y12 := g4.2.2.2.2.2.2.2.2.2.2.2.2.2.2.2.2.1
  have y13 := g4.2.2.2.2.2.2.2.2.2.2.2.2.2.2.2.2.2.1
  have y14 := g4.2.2.2.2.2.2.2.2.2.2.2.2.2.2.2.2.2.2.1
  have y15 := g4.2.2.2.2.2.2.2.2.2.2.2.2.2.2.2.2.2.2.2
  have p0 := g3.1
  have p1 := g3.2.1
  have p2 := g3.2.2.1
  have p3 := g3.2.2.2
  have r0_0 := f22.2.1
  have r0_1 := f22.2.2.1
  have r0_2 := f22.2.2.2.1
  have r0_3 := f22.2.2.2.2.1
  have r0_4 := f22.2.2.2.2.2.1
  have r0_5 := f22.2.2.2.2.2.2.1
  have r0_6 := f22.2.2.2.2.2.2.2.1
  have r0_7 := f22.2.2.2.2.2.2.2.2.1
  have r0_8 := f22.2.2.2.2.2.2.2.2.2
  clear g3
  clear g4

  try subst k0
  try subst k1
  try subst k2
  try subst k3
  refine ⟨?_, ?_, ?_, ?_, ?_⟩
  · exact r0_0
  · exact r0_1
  · omega
  · exact r0_2
  · have kd := r0_6
    have mo := r0_7
    have ma := r0_8
    try rw [y11, y10] at kd
    try rw [y12, y10] at mo
    try rw [y13, y10] at ma
    exact .inl ⟨by unfold SNCp; omega, by omega, by omega, by omega, kd, mo, ma⟩
def g_253v_85_5 : vG := ([(1252, [11, 5, 6, 7, 8, 9, 10], [1, 2], 0), (90, [11], [], -2147483648), (91, [11], [], 2147483647), (0, [10], [], -1), (5000, [0, 1, 2, 3, 4, 5, 6, 7, 8, 9], [0, 1], 85), (0, [0], [], 285), (90, [1], [], -2147483648), (91, [1], [], 2147483647), (90, [2], [], -2147483648), (91, [2], [], 2147483647), (90, [3], [], -2147483648), (91, [3], [], 2147483647), (90, [4], [], -2147483648), (91, [4], [], 2147483647), (0, [5], [], 285), (90, [6], [], -2147483648), (91, [6], [], 2147483647), (90, [7], [], -2147483648), (91, [7], [], 2147483647), (90, [8], [], -2147483648), (91, [8], [], 2147483647), (90, [9], [], -2147483648), (91, [9], [], 2147483647)], (3000, [11], [2], 95))
theorem c_253v_85_5 {q0 : Nat} : vOkm T0 (eP e_253v L_253v A_253v mu_253v (some q0)) 5 g_253v_85_5 := vOk_in fun ρ η h => by
  obtain ⟨f0, f1, f2, f3, f4, f5, f6, f7, f8, f9, f10, f11, f12, f13, f14, f15, f16, f17, f18, f19, f20, f21, f22, _⟩ := h
  exact q_253v_23 (q0 := q0) (n0 := ρ 9) (n1 := ρ 8) (n2 := ρ 7) (n3 := ρ 6) (n4 := ρ 5) (n5 := ρ 4) (n6 := ρ 3) (n7 := ρ 2) (n8 := ρ 1) (n9 := ρ 0) (n10 := ρ 10) (n11 := ρ 11) (H0 := η 0) (H1 := η 1) (H2 := η 2) f22 f21 f20 f19 f18 f17 f16 f15 f14 f13 f12 f11 f10 f9 f8 f7 f6 f5 f4 f3 f2 f1 f0
def p_253v_85 : List vG := [g_253v_85_0,
  g_253v_85_1,
  g_253v_85_2,
  g_253v_85_3,
  g_253v_85_4,
  g_253v_85_5]
theorem r_253v_85 : vCovO false (eRc e_253v L_253v cs_253v 2000 (85, [(0, (3, 12, 285, 0)), (1, (0, -2147483648, 2147483647, 0)), (2, (0, -2147483648, 2147483647, 0)), (3, (0, -2147483648, 2147483647, 0)), (4, (0, -2147483648, 2147483647, 0))])) p_253v_85 = true := by decide +kernel
theorem m_253v (d : Nat) : eC e_253v (d + 2) := eC_ok (e := e_253v) (L := L_253v) (cs := cs_253v) (n := 2000) (d := d + 1) (A := A_253v) (μ := mu_253v) (tp := false) (p0 := p_253v_s) rfl ⟨m_251 d, ⟨m_252v d, trivial⟩⟩ rfl (.inl rfl) (by decide +kernel) (fun z => nomatch z) r_253v_s (allC c_253v_s_0 (allC c_253v_s_1 (allC c_253v_s_2 (allC c_253v_s_3 (allC c_253v_s_4 allN))))) (allC (.inl ⟨p_253v_36, r_253v_36, fun q0 => (allC c_253v_36_0 (allC c_253v_36_1 (allC c_253v_36_2 (allC c_253v_36_3 (allC c_253v_36_4 (allC c_253v_36_5 (allC c_253v_36_6 (allC c_253v_36_7 (allC c_253v_36_8 (allC c_253v_36_9 (allC c_253v_36_10 (allC c_253v_36_11 (allC c_253v_36_12 allN)))))))))))))⟩) (allC (.inl ⟨p_253v_85, r_253v_85, fun q0 => (allC c_253v_85_0 (allC c_253v_85_1 (allC c_253v_85_2 (allC c_253v_85_3 (allC c_253v_85_4 (allC c_253v_85_5 allN))))))⟩) allN))
