/-! CONTRACTS of methods (printed by wip/gen/emit.py). -/
/- MixStageModel.sound (IIII)I -/
noncomputable def s_253 : vM := ([(3, 12, 285, 0), (0, -2147483648, 2147483647, 0), (0, -2147483648, 2147483647, 0), (0, -2147483648, 2147483647, 0), (0, -2147483648, 2147483647, 0)], (0, -2147483648, 2147483647, 0), 1, 0, [(12, 64), (12, 65), (452, 0), (460, 0), (468, 0), (476, 0), (484, 0), (492, 0), (500, 0), (508, 0), (516, 0), (532, 0)])
def preb_253 (a0 a1 a2 a3 a4 : Int) (h : gH) : Prop := hV h 285 65 ≤ 20000 ∧ SO h ∧ SS h ∧ AC h
def pre_253 : List Int → gH → Prop := fun xs h => match xs with
  | [a0, a1, a2, a3, a4] => preb_253 a0 a1 a2 a3 a4 h
  | _ => False
def postb_253 (r a0 a1 a2 a3 a4 : Int) (h0 h : gH) : Prop := SO h ∧ SS h ∧ hV h 285 65 ≤ hV h0 285 65 + 1 ∧ AC h
def post_253 : List Int → gH → gH → Prop := fun xs h0 h => match xs with
  | [r, a0, a1, a2, a3, a4] => postb_253 r a0 a1 a2 a3 a4 h0 h
  | _ => True
noncomputable def e_253 : vE := (253, s_253, pre_253, post_253)
noncomputable def L_253 : List vE := [e_251, e_252]
def cs_253 : List vC := [(36, [(0, (3, 12, 285, 0)), (1, (0, -2147483648, 2147483647, 0)), (2, (0, -2147483648, 2147483647, 0)), (3, (0, -2147483648, 2147483647, 0)), (4, (0, -2147483648, 2147483647, 0))]), (85, [(0, (3, 12, 285, 0)), (1, (0, -2147483648, 2147483647, 0)), (2, (0, -2147483648, 2147483647, 0)), (3, (0, -2147483648, 2147483647, 0)), (4, (0, -2147483648, 2147483647, 0))])]
def Ab_253_36 (a0 a1 a2 a3 a4 x0 x1 x2 x3 x4 : Int) (h0 h : gH) : Prop := x1 = a1 ∧ x2 = a2 ∧ x3 = a3 ∧ x4 = a4 ∧ hV h 285 64 ≤ 19 ∧ 0 ≤ a1 ∧ a1 ≤ 3 ∧ -1 ≤ a2 ∧ a2 ≤ 240 ∧ hV h 285 65 ≤ hV h0 285 65 ∧ SO h ∧ SS h ∧ AC h
def mub_253_36 (a0 a1 a2 a3 a4 x0 x1 x2 x3 x4 : Int) (h0 h : gH) : Nat := 1
def Ab_253_85 (a0 a1 a2 a3 a4 x0 x1 x2 x3 x4 : Int) (h0 h : gH) : Prop := x1 = a1 ∧ x2 = a2 ∧ x3 = a3 ∧ x4 = a4 ∧ hV h 285 64 ≤ 19 ∧ 0 ≤ a1 ∧ a1 ≤ 3 ∧ -1 ≤ a2 ∧ a2 ≤ 240 ∧ hV h 285 65 ≤ hV h0 285 65 ∧ SO h ∧ SS h ∧ AC h ∧ (a1 = 1 → 0 ≤ a3 ∧ a3 < a4 ∧ a4 ≤ 240)
def mub_253_85 (a0 a1 a2 a3 a4 x0 x1 x2 x3 x4 : Int) (h0 h : gH) : Nat := 0
def A_253 : Int → List Int → gH → gH → Prop := fun c xs h0 h => match c.toNat with
  | 36 => (match xs with
    | [a0, a1, a2, a3, a4, x0, x1, x2, x3, x4] => Ab_253_36 a0 a1 a2 a3 a4 x0 x1 x2 x3 x4 h0 h
    | _ => False)
  | 85 => (match xs with
    | [a0, a1, a2, a3, a4, x0, x1, x2, x3, x4] => Ab_253_85 a0 a1 a2 a3 a4 x0 x1 x2 x3 x4 h0 h
    | _ => False)
  | _ => True
def mu_253 : Int → List Int → gH → gH → Nat := fun c xs h0 h => match c.toNat with
  | 36 => 1
  | 85 => 0
  | _ => 0
theorem q_253_0 {n0 n1 n2 n3 n4 n5 n6 n7 : Int} {H0 : gH} (f0 : n0 ≤ 2147483647) (f1 : (-2147483648) ≤ n0) (f2 : n1 ≤ 2147483647) (f3 : (-2147483648) ≤ n1) (f4 : n2 ≤ 2147483647) (f5 : (-2147483648) ≤ n2) (f6 : n3 ≤ 2147483647) (f7 : (-2147483648) ≤ n3) (f8 : n4 = 285) (f9 : hWt T0 H0 ∧ preb_253 n4 n3 n2 n1 n0 H0) (f10 : n5 ≤ 20) (f11 : 0 ≤ n5) (f12 : n5 = hV H0 (n4).toNat 64) (f13 : n6 = 20) (f14 : n5 = n6) (f15 : n7 = (-1)) : postb_253 n7 n4 n3 n2 n1 n0 H0 H0 := by
  unfold preb_253 at f9
  unfold postb_253
  have e0 : n5 = hV H0 285 64 := (by rw [f8] at f12; exact f12 : n5 = hV H0 285 64)
  have e1 : (0 : Int) ≤ hV H0 285 65 ∧ hV H0 285 65 ≤ 2147483647 := f9.1 285 65 _ _ (by decide +kernel)
  have p0 := f9.2.1
  have p1 := f9.2.2.1
  have p2 := f9.2.2.2.1
  have p3 := f9.2.2.2.2
  clear f12
  subst e0
  refine ⟨?_, ?_, ?_, ?_⟩ <;> first | assumption | omega | trivial
def g_253_s_0 : vG := ([(0, [7], [], -1), (40, [5, 6], [], 0), (0, [6], [], 20), (20, [5, 0], [0], 64), (90, [5], [], 0), (91, [5], [], 20), (6000, [0, 1, 2, 3, 4], [0], 0), (0, [0], [], 285), (90, [1], [], -2147483648), (91, [1], [], 2147483647), (90, [2], [], -2147483648), (91, [2], [], 2147483647), (90, [3], [], -2147483648), (91, [3], [], 2147483647), (90, [4], [], -2147483648), (91, [4], [], 2147483647)], (3000, [7], [0], 35))
theorem c_253_s_0 : vOkm T0 (eP e_253 L_253 A_253 mu_253 none) 5 g_253_s_0 := vOk_in fun ρ η h => by
  obtain ⟨f0, f1, f2, f3, f4, f5, f6, f7, f8, f9, f10, f11, f12, f13, f14, f15, _⟩ := h
  exact q_253_0 (n0 := ρ 4) (n1 := ρ 3) (n2 := ρ 2) (n3 := ρ 1) (n4 := ρ 0) (n5 := ρ 5) (n6 := ρ 6) (n7 := ρ 7) (H0 := η 0) f15 f14 f13 f12 f11 f10 f9 f8 f7 f6 f5 f4 f3 f2 f1 f0
theorem q_253_1 {n0 n1 n2 n3 n4 n5 n6 n7 n8 n9 n10 : Int} {H0 H1 : gH} (f0 : n0 ≤ 2147483647) (f1 : (-2147483648) ≤ n0) (f2 : n1 ≤ 2147483647) (f3 : (-2147483648) ≤ n1) (f4 : n2 ≤ 2147483647) (f5 : (-2147483648) ≤ n2) (f6 : n3 ≤ 2147483647) (f7 : (-2147483648) ≤ n3) (f8 : n4 = 285) (f9 : hWt T0 H0 ∧ preb_253 n4 n3 n2 n1 n0 H0) (f10 : n5 ≤ 20) (f11 : 0 ≤ n5) (f12 : n5 = hV H0 (n4).toNat 64) (f13 : n6 = 20) (f14 : n5 ≠ n6) (f15 : n7 = 0) (f16 : n8 = 3) (f17 : n9 ≤ 1) (f18 : 0 ≤ n9) (f19 : (hLe T0 H0 H1 ∧ hFr s_251.2.2.2.2 H0 H1 ∧ ((0 : Int) = 0 → H1.length = H0.length) ∧ hWt T0 H1) ∧ postb_251 n9 n3 n7 n8 H0 H1) (f20 : n9 = 0) (f21 : n10 = (-1)) : postb_253 n10 n4 n3 n2 n1 n0 H0 H1 := by
  unfold preb_253 at f9
  unfold postb_251 at f19
  unfold postb_253
  have e0 : n5 = hV H0 285 64 := (by rw [f8] at f12; exact f12 : n5 = hV H0 285 64)
  have e1 : hV H1 285 65 = hV H0 285 65 := f19.1.2.1.1 285 65 (by decide +kernel)
  have e2 : hV H1 285 65 = hV H0 285 65 := e1
  have e3 : AC H1 = AC H0 := AC_fr f19.1.2.1 (by decide +kernel)
  have e4 : SO H1 = SO H0 := SO_fr f19.1.2.1 (by decide +kernel)
  have e5 : SS H1 = SS H0 := SS_fr f19.1.2.1 (by decide +kernel)
  have e6 : (0 : Int) ≤ hV H0 285 65 ∧ hV H0 285 65 ≤ 2147483647 := f9.1 285 65 _ _ (by decide +kernel)
  have e7 : (0 : Int) ≤ hV H1 285 65 ∧ hV H1 285 65 ≤ 2147483647 := f19.1.2.2.2 285 65 _ _ (by decide +kernel)
  try simp only [e2, e3, e4, e5] at f9
  try simp only [e2, e3, e4, e5] at f19
  try simp only [e2, e3, e4, e5] at e6
  try simp only [e2, e3, e4, e5] at e7
  try simp only [e2, e3, e4, e5]
  have p0 := f9.2.1
  have p1 := f9.2.2.1
  have p2 := f9.2.2.2.1
  have p3 := f9.2.2.2.2
  have r0_0 := f19.2
  try simp only [e2, e3, e4, e5] at p0
  try simp only [e2, e3, e4, e5] at p1
  try simp only [e2, e3, e4, e5] at p2
  try simp only [e2, e3, e4, e5] at p3
  try simp only [e2, e3, e4, e5] at r0_0
  clear f12 e1 e2 e3 e4 e5
  subst e0
  refine ⟨?_, ?_, ?_, ?_⟩ <;> first | assumption | omega | trivial
def g_253_s_1 : vG := ([(0, [10], [], -1), (30, [9], [], 0), (1251, [9, 1, 7, 8], [0, 1], 0), (90, [9], [], 0), (91, [9], [], 1), (0, [8], [], 3), (0, [7], [], 0), (41, [5, 6], [], 0), (0, [6], [], 20), (20, [5, 0], [0], 64), (90, [5], [], 0), (91, [5], [], 20), (6000, [0, 1, 2, 3, 4], [0], 0), (0, [0], [], 285), (90, [1], [], -2147483648), (91, [1], [], 2147483647), (90, [2], [], -2147483648), (91, [2], [], 2147483647), (90, [3], [], -2147483648), (91, [3], [], 2147483647), (90, [4], [], -2147483648), (91, [4], [], 2147483647)], (3000, [10], [1], 35))
theorem c_253_s_1 : vOkm T0 (eP e_253 L_253 A_253 mu_253 none) 5 g_253_s_1 := vOk_in fun ρ η h => by
  obtain ⟨f0, f1, f2, f3, f4, f5, f6, f7, f8, f9, f10, f11, f12, f13, f14, f15, f16, f17, f18, f19, f20, f21, _⟩ := h
  exact q_253_1 (n0 := ρ 4) (n1 := ρ 3) (n2 := ρ 2) (n3 := ρ 1) (n4 := ρ 0) (n5 := ρ 5) (n6 := ρ 6) (n7 := ρ 7) (n8 := ρ 8) (n9 := ρ 9) (n10 := ρ 10) (H0 := η 0) (H1 := η 1) f21 f20 f19 f18 f17 f16 f15 f14 f13 f12 f11 f10 f9 f8 f7 f6 f5 f4 f3 f2 f1 f0
theorem q_253_2 {n0 n1 n2 n3 n4 n5 n6 n7 n8 n9 n10 : Int} {H0 H1 : gH} (f0 : n0 ≤ 2147483647) (f1 : (-2147483648) ≤ n0) (f2 : n1 ≤ 2147483647) (f3 : (-2147483648) ≤ n1) (f4 : n2 ≤ 2147483647) (f5 : (-2147483648) ≤ n2) (f6 : n3 ≤ 2147483647) (f7 : (-2147483648) ≤ n3) (f8 : n4 = 285) (f9 : hWt T0 H0 ∧ preb_253 n4 n3 n2 n1 n0 H0) (f10 : n5 ≤ 20) (f11 : 0 ≤ n5) (f12 : n5 = hV H0 (n4).toNat 64) (f13 : n6 = 20) (f14 : n5 ≠ n6) (f15 : n7 = 0) (f16 : n8 = 3) (f17 : n9 ≤ 1) (f18 : 0 ≤ n9) (f19 : (hLe T0 H0 H1 ∧ hFr s_251.2.2.2.2 H0 H1 ∧ ((0 : Int) = 0 → H1.length = H0.length) ∧ hWt T0 H1) ∧ postb_251 n9 n3 n7 n8 H0 H1) (f20 : n9 ≠ 0) (f21 : n10 = (-1)) (f22 : n2 = n10) : Ab_253_36 n4 n3 n2 n1 n0 n4 n3 n2 n1 n0 H0 H1 ∧ ∀ q, none = some q → mub_253_36 n4 n3 n2 n1 n0 n4 n3 n2 n1 n0 H0 H1 < q := by
  unfold preb_253 at f9
  unfold postb_251 at f19
  unfold Ab_253_36
  have e0 : n5 = hV H0 285 64 := (by rw [f8] at f12; exact f12 : n5 = hV H0 285 64)
  have e1 : hV H1 285 64 = hV H0 285 64 := f19.1.2.1.1 285 64 (by decide +kernel)
  have e2 : hV H1 285 64 = hV H0 285 64 := e1
  have e3 : hV H1 285 65 = hV H0 285 65 := f19.1.2.1.1 285 65 (by decide +kernel)
  have e4 : hV H1 285 65 = hV H0 285 65 := e3
  have e5 : AC H1 = AC H0 := AC_fr f19.1.2.1 (by decide +kernel)
  have e6 : SO H1 = SO H0 := SO_fr f19.1.2.1 (by decide +kernel)
  have e7 : SS H1 = SS H0 := SS_fr f19.1.2.1 (by decide +kernel)
  have e8 : (0 : Int) ≤ hV H0 285 65 ∧ hV H0 285 65 ≤ 2147483647 := f9.1 285 65 _ _ (by decide +kernel)
  have e9 : (0 : Int) ≤ hV H1 285 64 ∧ hV H1 285 64 ≤ 20 := f19.1.2.2.2 285 64 _ _ (by decide +kernel)
  have e10 : (0 : Int) ≤ hV H0 285 64 ∧ hV H0 285 64 ≤ 20 := f9.1 285 64 _ _ (by decide +kernel)
  have e11 : (0 : Int) ≤ hV H1 285 65 ∧ hV H1 285 65 ≤ 2147483647 := f19.1.2.2.2 285 65 _ _ (by decide +kernel)
  try simp only [e2, e4, e5, e6, e7] at f9
  try simp only [e2, e4, e5, e6, e7] at f19
  try simp only [e2, e4, e5, e6, e7] at e8
  try simp only [e2, e4, e5, e6, e7] at e9
  try simp only [e2, e4, e5, e6, e7] at e10
  try simp only [e2, e4, e5, e6, e7] at e11
  try simp only [e2, e4, e5, e6, e7]
  have p0 := f9.2.1
  have p1 := f9.2.2.1
  have p2 := f9.2.2.2.1
  have p3 := f9.2.2.2.2
  have r0_0 := f19.2
  try simp only [e2, e4, e5, e6, e7] at p0
  try simp only [e2, e4, e5, e6, e7] at p1
  try simp only [e2, e4, e5, e6, e7] at p2
  try simp only [e2, e4, e5, e6, e7] at p3
  try simp only [e2, e4, e5, e6, e7] at r0_0
  clear f12 e1 e2 e3 e4 e5 e6 e7
  subst e0
  refine ⟨?_, fun q hq => ?_⟩
  · refine ⟨?_, ?_, ?_, ?_, ?_, ?_, ?_, ?_, ?_, ?_, ?_, ?_, ?_⟩ <;> first | assumption | omega | trivial
  · exact nomatch hq
def g_253_s_2 : vG := ([(40, [2, 10], [], 0), (0, [10], [], -1), (31, [9], [], 0), (1251, [9, 1, 7, 8], [0, 1], 0), (90, [9], [], 0), (91, [9], [], 1), (0, [8], [], 3), (0, [7], [], 0), (41, [5, 6], [], 0), (0, [6], [], 20), (20, [5, 0], [0], 64), (90, [5], [], 0), (91, [5], [], 20), (6000, [0, 1, 2, 3, 4], [0], 0), (0, [0], [], 285), (90, [1], [], -2147483648), (91, [1], [], 2147483647), (90, [2], [], -2147483648), (91, [2], [], 2147483647), (90, [3], [], -2147483648), (91, [3], [], 2147483647), (90, [4], [], -2147483648), (91, [4], [], 2147483647)], (4000, [0, 1, 2, 3, 4], [1], 36))
theorem c_253_s_2 : vOkm T0 (eP e_253 L_253 A_253 mu_253 none) 5 g_253_s_2 := vOk_in fun ρ η h => by
  obtain ⟨f0, f1, f2, f3, f4, f5, f6, f7, f8, f9, f10, f11, f12, f13, f14, f15, f16, f17, f18, f19, f20, f21, f22, _⟩ := h
  exact q_253_2 (n0 := ρ 4) (n1 := ρ 3) (n2 := ρ 2) (n3 := ρ 1) (n4 := ρ 0) (n5 := ρ 5) (n6 := ρ 6) (n7 := ρ 7) (n8 := ρ 8) (n9 := ρ 9) (n10 := ρ 10) (H0 := η 0) (H1 := η 1) f22 f21 f20 f19 f18 f17 f16 f15 f14 f13 f12 f11 f10 f9 f8 f7 f6 f5 f4 f3 f2 f1 f0
theorem q_253_3 {n0 n1 n2 n3 n4 n5 n6 n7 n8 n9 n10 n11 n12 n13 : Int} {H0 H1 H2 : gH} (f0 : n0 ≤ 2147483647) (f1 : (-2147483648) ≤ n0) (f2 : n1 ≤ 2147483647) (f3 : (-2147483648) ≤ n1) (f4 : n2 ≤ 2147483647) (f5 : (-2147483648) ≤ n2) (f6 : n3 ≤ 2147483647) (f7 : (-2147483648) ≤ n3) (f8 : n4 = 285) (f9 : hWt T0 H0 ∧ preb_253 n4 n3 n2 n1 n0 H0) (f10 : n5 ≤ 20) (f11 : 0 ≤ n5) (f12 : n5 = hV H0 (n4).toNat 64) (f13 : n6 = 20) (f14 : n5 ≠ n6) (f15 : n7 = 0) (f16 : n8 = 3) (f17 : n9 ≤ 1) (f18 : 0 ≤ n9) (f19 : (hLe T0 H0 H1 ∧ hFr s_251.2.2.2.2 H0 H1 ∧ ((0 : Int) = 0 → H1.length = H0.length) ∧ hWt T0 H1) ∧ postb_251 n9 n3 n7 n8 H0 H1) (f20 : n9 ≠ 0) (f21 : n10 = (-1)) (f22 : n2 ≠ n10) (f23 : n11 = 1) (f24 : n12 = 240) (f25 : n13 ≤ 1) (f26 : 0 ≤ n13) (f27 : (hLe T0 H1 H2 ∧ hFr s_251.2.2.2.2 H1 H2 ∧ ((0 : Int) = 0 → H2.length = H1.length) ∧ hWt T0 H2) ∧ postb_251 n13 n2 n11 n12 H1 H2) (f28 : n13 ≠ 0) : Ab_253_36 n4 n3 n2 n1 n0 n4 n3 n2 n1 n0 H0 H2 ∧ ∀ q, none = some q → mub_253_36 n4 n3 n2 n1 n0 n4 n3 n2 n1 n0 H0 H2 < q := by
  unfold preb_253 at f9
  unfold postb_251 at f19
  unfold postb_251 at f27
  unfold Ab_253_36
  have e0 : n5 = hV H0 285 64 := (by rw [f8] at f12; exact f12 : n5 = hV H0 285 64)
  have e1 : hV H2 285 64 = hV H1 285 64 := f27.1.2.1.1 285 64 (by decide +kernel)
  have e2 : hV H1 285 64 = hV H0 285 64 := f19.1.2.1.1 285 64 (by decide +kernel)
  have e3 : hV H2 285 64 = hV H0 285 64 := (e1).trans e2
  have e4 : hV H2 285 65 = hV H1 285 65 := f27.1.2.1.1 285 65 (by decide +kernel)
  have e5 : hV H1 285 65 = hV H0 285 65 := f19.1.2.1.1 285 65 (by decide +kernel)
  have e6 : hV H2 285 65 = hV H0 285 65 := (e4).trans e5
  have e7 : AC H1 = AC H0 := AC_fr f19.1.2.1 (by decide +kernel)
  have e8 : AC H2 = AC H1 := AC_fr f27.1.2.1 (by decide +kernel)
  have e9 : AC H2 = AC H0 := e8.trans e7
  have e10 : SO H1 = SO H0 := SO_fr f19.1.2.1 (by decide +kernel)
  have e11 : SO H2 = SO H1 := SO_fr f27.1.2.1 (by decide +kernel)
  have e12 : SO H2 = SO H0 := e11.trans e10
  have e13 : SS H1 = SS H0 := SS_fr f19.1.2.1 (by decide +kernel)
  have e14 : SS H2 = SS H1 := SS_fr f27.1.2.1 (by decide +kernel)
  have e15 : SS H2 = SS H0 := e14.trans e13
  have e16 : (0 : Int) ≤ hV H0 285 65 ∧ hV H0 285 65 ≤ 2147483647 := f9.1 285 65 _ _ (by decide +kernel)
  have e17 : (0 : Int) ≤ hV H2 285 64 ∧ hV H2 285 64 ≤ 20 := f27.1.2.2.2 285 64 _ _ (by decide +kernel)
  have e18 : (0 : Int) ≤ hV H0 285 64 ∧ hV H0 285 64 ≤ 20 := f9.1 285 64 _ _ (by decide +kernel)
  have e19 : (0 : Int) ≤ hV H2 285 65 ∧ hV H2 285 65 ≤ 2147483647 := f27.1.2.2.2 285 65 _ _ (by decide +kernel)
  try simp only [e3, e6, e9, e12, e15] at f9
  try simp only [e3, e6, e9, e12, e15] at f19
  try simp only [e3, e6, e9, e12, e15] at f27
  try simp only [e3, e6, e9, e12, e15] at e16
  try simp only [e3, e6, e9, e12, e15] at e17
  try simp only [e3, e6, e9, e12, e15] at e18
  try simp only [e3, e6, e9, e12, e15] at e19
  try simp only [e3, e6, e9, e12, e15]
  have p0 := f9.2.1
  have p1 := f9.2.2.1
  have p2 := f9.2.2.2.1
  have p3 := f9.2.2.2.2
  have r0_0 := f19.2
  have r1_0 := f27.2
  try simp only [e3, e6, e9, e12, e15] at p0
  try simp only [e3, e6, e9, e12, e15] at p1
  try simp only [e3, e6, e9, e12, e15] at p2
  try simp only [e3, e6, e9, e12, e15] at p3
  try simp only [e3, e6, e9, e12, e15] at r0_0
  try simp only [e3, e6, e9, e12, e15] at r1_0
  clear f12 e1 e2 e3 e4 e5 e6 e7 e8 e9 e10 e11 e12 e13 e14 e15
  subst e0
  refine ⟨?_, fun q hq => ?_⟩
  · refine ⟨?_, ?_, ?_, ?_, ?_, ?_, ?_, ?_, ?_, ?_, ?_, ?_, ?_⟩ <;> first | assumption | omega | trivial
  · exact nomatch hq
def g_253_s_3 : vG := ([(31, [13], [], 0), (1251, [13, 2, 11, 12], [1, 2], 0), (90, [13], [], 0), (91, [13], [], 1), (0, [12], [], 240), (0, [11], [], 1), (41, [2, 10], [], 0), (0, [10], [], -1), (31, [9], [], 0), (1251, [9, 1, 7, 8], [0, 1], 0), (90, [9], [], 0), (91, [9], [], 1), (0, [8], [], 3), (0, [7], [], 0), (41, [5, 6], [], 0), (0, [6], [], 20), (20, [5, 0], [0], 64), (90, [5], [], 0), (91, [5], [], 20), (6000, [0, 1, 2, 3, 4], [0], 0), (0, [0], [], 285), (90, [1], [], -2147483648), (91, [1], [], 2147483647), (90, [2], [], -2147483648), (91, [2], [], 2147483647), (90, [3], [], -2147483648), (91, [3], [], 2147483647), (90, [4], [], -2147483648), (91, [4], [], 2147483647)], (4000, [0, 1, 2, 3, 4], [2], 36))
theorem c_253_s_3 : vOkm T0 (eP e_253 L_253 A_253 mu_253 none) 5 g_253_s_3 := vOk_in fun ρ η h => by
  obtain ⟨f0, f1, f2, f3, f4, f5, f6, f7, f8, f9, f10, f11, f12, f13, f14, f15, f16, f17, f18, f19, f20, f21, f22, f23, f24, f25, f26, f27, f28, _⟩ := h
  exact q_253_3 (n0 := ρ 4) (n1 := ρ 3) (n2 := ρ 2) (n3 := ρ 1) (n4 := ρ 0) (n5 := ρ 5) (n6 := ρ 6) (n7 := ρ 7) (n8 := ρ 8) (n9 := ρ 9) (n10 := ρ 10) (n11 := ρ 11) (n12 := ρ 12) (n13 := ρ 13) (H0 := η 0) (H1 := η 1) (H2 := η 2) f28 f27 f26 f25 f24 f23 f22 f21 f20 f19 f18 f17 f16 f15 f14 f13 f12 f11 f10 f9 f8 f7 f6 f5 f4 f3 f2 f1 f0
theorem q_253_4 {n0 n1 n2 n3 n4 n5 n6 n7 n8 n9 n10 n11 n12 n13 n14 : Int} {H0 H1 H2 : gH} (f0 : n0 ≤ 2147483647) (f1 : (-2147483648) ≤ n0) (f2 : n1 ≤ 2147483647) (f3 : (-2147483648) ≤ n1) (f4 : n2 ≤ 2147483647) (f5 : (-2147483648) ≤ n2) (f6 : n3 ≤ 2147483647) (f7 : (-2147483648) ≤ n3) (f8 : n4 = 285) (f9 : hWt T0 H0 ∧ preb_253 n4 n3 n2 n1 n0 H0) (f10 : n5 ≤ 20) (f11 : 0 ≤ n5) (f12 : n5 = hV H0 (n4).toNat 64) (f13 : n6 = 20) (f14 : n5 ≠ n6) (f15 : n7 = 0) (f16 : n8 = 3) (f17 : n9 ≤ 1) (f18 : 0 ≤ n9) (f19 : (hLe T0 H0 H1 ∧ hFr s_251.2.2.2.2 H0 H1 ∧ ((0 : Int) = 0 → H1.length = H0.length) ∧ hWt T0 H1) ∧ postb_251 n9 n3 n7 n8 H0 H1) (f20 : n9 ≠ 0) (f21 : n10 = (-1)) (f22 : n2 ≠ n10) (f23 : n11 = 1) (f24 : n12 = 240) (f25 : n13 ≤ 1) (f26 : 0 ≤ n13) (f27 : (hLe T0 H1 H2 ∧ hFr s_251.2.2.2.2 H1 H2 ∧ ((0 : Int) = 0 → H2.length = H1.length) ∧ hWt T0 H2) ∧ postb_251 n13 n2 n11 n12 H1 H2) (f28 : n13 = 0) (f29 : n14 = (-1)) : postb_253 n14 n4 n3 n2 n1 n0 H0 H2 := by
  unfold preb_253 at f9
  unfold postb_251 at f19
  unfold postb_251 at f27
  unfold postb_253
  have e0 : n5 = hV H0 285 64 := (by rw [f8] at f12; exact f12 : n5 = hV H0 285 64)
  have e1 : hV H2 285 65 = hV H1 285 65 := f27.1.2.1.1 285 65 (by decide +kernel)
  have e2 : hV H1 285 65 = hV H0 285 65 := f19.1.2.1.1 285 65 (by decide +kernel)
  have e3 : hV H2 285 65 = hV H0 285 65 := (e1).trans e2
  have e4 : AC H1 = AC H0 := AC_fr f19.1.2.1 (by decide +kernel)
  have e5 : AC H2 = AC H1 := AC_fr f27.1.2.1 (by decide +kernel)
  have e6 : AC H2 = AC H0 := e5.trans e4
  have e7 : SO H1 = SO H0 := SO_fr f19.1.2.1 (by decide +kernel)
  have e8 : SO H2 = SO H1 := SO_fr f27.1.2.1 (by decide +kernel)
  have e9 : SO H2 = SO H0 := e8.trans e7
  have e10 : SS H1 = SS H0 := SS_fr f19.1.2.1 (by decide +kernel)
  have e11 : SS H2 = SS H1 := SS_fr f27.1.2.1 (by decide +kernel)
  have e12 : SS H2 = SS H0 := e11.trans e10
  have e13 : (0 : Int) ≤ hV H0 285 65 ∧ hV H0 285 65 ≤ 2147483647 := f9.1 285 65 _ _ (by decide +kernel)
  have e14 : (0 : Int) ≤ hV H2 285 65 ∧ hV H2 285 65 ≤ 2147483647 := f27.1.2.2.2 285 65 _ _ (by decide +kernel)
  try simp only [e3, e6, e9, e12] at f9
  try simp only [e3, e6, e9, e12] at f19
  try simp only [e3, e6, e9, e12] at f27
  try simp only [e3, e6, e9, e12] at e13
  try simp only [e3, e6, e9, e12] at e14
  try simp only [e3, e6, e9, e12]
  have p0 := f9.2.1
  have p1 := f9.2.2.1
  have p2 := f9.2.2.2.1
  have p3 := f9.2.2.2.2
  have r0_0 := f19.2
  have r1_0 := f27.2
  try simp only [e3, e6, e9, e12] at p0
  try simp only [e3, e6, e9, e12] at p1
  try simp only [e3, e6, e9, e12] at p2
  try simp only [e3, e6, e9, e12] at p3
  try simp only [e3, e6, e9, e12] at r0_0
  try simp only [e3, e6, e9, e12] at r1_0
  clear f12 e1 e2 e3 e4 e5 e6 e7 e8 e9 e10 e11 e12
  subst e0
  refine ⟨?_, ?_, ?_, ?_⟩ <;> first | assumption | omega | trivial
def g_253_s_4 : vG := ([(0, [14], [], -1), (30, [13], [], 0), (1251, [13, 2, 11, 12], [1, 2], 0), (90, [13], [], 0), (91, [13], [], 1), (0, [12], [], 240), (0, [11], [], 1), (41, [2, 10], [], 0), (0, [10], [], -1), (31, [9], [], 0), (1251, [9, 1, 7, 8], [0, 1], 0), (90, [9], [], 0), (91, [9], [], 1), (0, [8], [], 3), (0, [7], [], 0), (41, [5, 6], [], 0), (0, [6], [], 20), (20, [5, 0], [0], 64), (90, [5], [], 0), (91, [5], [], 20), (6000, [0, 1, 2, 3, 4], [0], 0), (0, [0], [], 285), (90, [1], [], -2147483648), (91, [1], [], 2147483647), (90, [2], [], -2147483648), (91, [2], [], 2147483647), (90, [3], [], -2147483648), (91, [3], [], 2147483647), (90, [4], [], -2147483648), (91, [4], [], 2147483647)], (3000, [14], [2], 35))
theorem c_253_s_4 : vOkm T0 (eP e_253 L_253 A_253 mu_253 none) 5 g_253_s_4 := vOk_in fun ρ η h => by
  obtain ⟨f0, f1, f2, f3, f4, f5, f6, f7, f8, f9, f10, f11, f12, f13, f14, f15, f16, f17, f18, f19, f20, f21, f22, f23, f24, f25, f26, f27, f28, f29, _⟩ := h
  exact q_253_4 (n0 := ρ 4) (n1 := ρ 3) (n2 := ρ 2) (n3 := ρ 1) (n4 := ρ 0) (n5 := ρ 5) (n6 := ρ 6) (n7 := ρ 7) (n8 := ρ 8) (n9 := ρ 9) (n10 := ρ 10) (n11 := ρ 11) (n12 := ρ 12) (n13 := ρ 13) (n14 := ρ 14) (H0 := η 0) (H1 := η 1) (H2 := η 2) f29 f28 f27 f26 f25 f24 f23 f22 f21 f20 f19 f18 f17 f16 f15 f14 f13 f12 f11 f10 f9 f8 f7 f6 f5 f4 f3 f2 f1 f0
def p_253_s : List vG := [g_253_s_0,
  g_253_s_1,
  g_253_s_2,
  g_253_s_3,
  g_253_s_4]
theorem r_253_s : vCovO false (eR0 e_253 L_253 cs_253 2000) p_253_s = true := by decide +kernel
theorem q_253_5 {q0 : Nat} {n0 n1 n2 n3 n4 n5 n6 n7 n8 n9 n10 n11 : Int} {H0 H1 : gH} (f0 : n0 ≤ 2147483647) (f1 : (-2147483648) ≤ n0) (f2 : n1 ≤ 2147483647) (f3 : (-2147483648) ≤ n1) (f4 : n2 ≤ 2147483647) (f5 : (-2147483648) ≤ n2) (f6 : n3 ≤ 2147483647) (f7 : (-2147483648) ≤ n3) (f8 : n4 = 285) (f9 : n5 ≤ 2147483647) (f10 : (-2147483648) ≤ n5) (f11 : n6 ≤ 2147483647) (f12 : (-2147483648) ≤ n6) (f13 : n7 ≤ 2147483647) (f14 : (-2147483648) ≤ n7) (f15 : n8 ≤ 2147483647) (f16 : (-2147483648) ≤ n8) (f17 : n9 = 285) (f18 : (hLe T0 H0 H1 ∧ hFr s_253.2.2.2.2 H0 H1 ∧ hWt T0 H1) ∧ (Ab_253_36 n9 n8 n7 n6 n5 n4 n3 n2 n1 n0 H0 H1 ∧ preb_253 n9 n8 n7 n6 n5 H0) ∧ some q0 = some (mub_253_36 n9 n8 n7 n6 n5 n4 n3 n2 n1 n0 H0 H1)) (f19 : n10 = 1) (f20 : n3 ≠ n10) (f21 : n11 = 3) (f22 : n3 ≠ n11) : Ab_253_85 n9 n8 n7 n6 n5 n4 n3 n2 n1 n0 H0 H1 ∧ ∀ q, some q0 = some q → mub_253_85 n9 n8 n7 n6 n5 n4 n3 n2 n1 n0 H0 H1 < q := by
  have g4 := f18.2.1.1
  unfold Ab_253_36 at g4
  have g3 := f18.2.1.2
  unfold preb_253 at g3
  have g5 := Option.some.inj f18.2.2
  unfold mub_253_36 at g5
  unfold Ab_253_85
  unfold mub_253_85
  have e0 : (0 : Int) ≤ hV H1 285 64 ∧ hV H1 285 64 ≤ 20 := f18.1.2.2 285 64 _ _ (by decide +kernel)
  have e1 : (0 : Int) ≤ hV H1 285 65 ∧ hV H1 285 65 ≤ 2147483647 := f18.1.2.2 285 65 _ _ (by decide +kernel)
  have k0 := g4.1
  have k1 := g4.2.1
  have k2 := g4.2.2.1
  have k3 := g4.2.2.2.1
  have y0 := g4.2.2.2.2.1
  have y1 := g4.2.2.2.2.2.1
  have y2 := g4.2.2.2.2.2.2.1
  have y3 := g4.2.2.2.2.2.2.2.1
  have y4 := g4.2.2.2.2.2.2.2.2.1
  have y5 := g4.2.2.2.2.2.2.2.2.2.1
  have y6 := g4.2.2.2.2.2.2.2.2.2.2.1
  have y7 := g4.2.2.2.2.2.2.2.2.2.2.2.1
  have y8 := g4.2.2.2.2.2.2.2.2.2.2.2.2
  have p0 := g3.1
  have p1 := g3.2.1
  have p2 := g3.2.2.1
  have p3 := g3.2.2.2
  clear g3
  clear g4
  try subst k3
  try subst k2
  try subst k1
  try subst k0
  refine ⟨?_, fun q hq => ?_⟩
  · refine ⟨?_, ?_, ?_, ?_, ?_, ?_, ?_, ?_, ?_, ?_, ?_, ?_, ?_, ?_⟩ <;> first | assumption | omega | trivial
  · have g6 := Option.some.inj hq
    subst g6
    omega
def g_253_36_0 : vG := ([(41, [6, 11], [], 0), (0, [11], [], 3), (41, [6, 10], [], 0), (0, [10], [], 1), (5000, [0, 1, 2, 3, 4, 5, 6, 7, 8, 9], [0, 1], 36), (0, [0], [], 285), (90, [1], [], -2147483648), (91, [1], [], 2147483647), (90, [2], [], -2147483648), (91, [2], [], 2147483647), (90, [3], [], -2147483648), (91, [3], [], 2147483647), (90, [4], [], -2147483648), (91, [4], [], 2147483647), (0, [5], [], 285), (90, [6], [], -2147483648), (91, [6], [], 2147483647), (90, [7], [], -2147483648), (91, [7], [], 2147483647), (90, [8], [], -2147483648), (91, [8], [], 2147483647), (90, [9], [], -2147483648), (91, [9], [], 2147483647)], (4000, [5, 6, 7, 8, 9], [1], 85))
theorem c_253_36_0 {q0 : Nat} : vOkm T0 (eP e_253 L_253 A_253 mu_253 (some q0)) 5 g_253_36_0 := vOk_in fun ρ η h => by
  obtain ⟨f0, f1, f2, f3, f4, f5, f6, f7, f8, f9, f10, f11, f12, f13, f14, f15, f16, f17, f18, f19, f20, f21, f22, _⟩ := h
  exact q_253_5 (q0 := q0) (n0 := ρ 9) (n1 := ρ 8) (n2 := ρ 7) (n3 := ρ 6) (n4 := ρ 5) (n5 := ρ 4) (n6 := ρ 3) (n7 := ρ 2) (n8 := ρ 1) (n9 := ρ 0) (n10 := ρ 10) (n11 := ρ 11) (H0 := η 0) (H1 := η 1) f22 f21 f20 f19 f18 f17 f16 f15 f14 f13 f12 f11 f10 f9 f8 f7 f6 f5 f4 f3 f2 f1 f0
theorem q_253_6 {q0 : Nat} {n0 n1 n2 n3 n4 n5 n6 n7 n8 n9 n10 n11 n12 n13 n14 : Int} {H0 H1 H2 : gH} (f0 : n0 ≤ 2147483647) (f1 : (-2147483648) ≤ n0) (f2 : n1 ≤ 2147483647) (f3 : (-2147483648) ≤ n1) (f4 : n2 ≤ 2147483647) (f5 : (-2147483648) ≤ n2) (f6 : n3 ≤ 2147483647) (f7 : (-2147483648) ≤ n3) (f8 : n4 = 285) (f9 : n5 ≤ 2147483647) (f10 : (-2147483648) ≤ n5) (f11 : n6 ≤ 2147483647) (f12 : (-2147483648) ≤ n6) (f13 : n7 ≤ 2147483647) (f14 : (-2147483648) ≤ n7) (f15 : n8 ≤ 2147483647) (f16 : (-2147483648) ≤ n8) (f17 : n9 = 285) (f18 : (hLe T0 H0 H1 ∧ hFr s_253.2.2.2.2 H0 H1 ∧ hWt T0 H1) ∧ (Ab_253_36 n9 n8 n7 n6 n5 n4 n3 n2 n1 n0 H0 H1 ∧ preb_253 n9 n8 n7 n6 n5 H0) ∧ some q0 = some (mub_253_36 n9 n8 n7 n6 n5 n4 n3 n2 n1 n0 H0 H1)) (f19 : n10 = 1) (f20 : n3 ≠ n10) (f21 : n11 = 3) (f22 : n3 = n11) (f23 : n12 = 0) (f24 : n13 = 7) (f25 : n14 ≤ 1) (f26 : 0 ≤ n14) (f27 : (hLe T0 H1 H2 ∧ hFr s_251.2.2.2.2 H1 H2 ∧ ((0 : Int) = 0 → H2.length = H1.length) ∧ hWt T0 H2) ∧ postb_251 n14 n1 n12 n13 H1 H2) (f28 : n14 ≠ 0) : Ab_253_85 n9 n8 n7 n6 n5 n4 n3 n2 n1 n0 H0 H2 ∧ ∀ q, some q0 = some q → mub_253_85 n9 n8 n7 n6 n5 n4 n3 n2 n1 n0 H0 H2 < q := by
  have g4 := f18.2.1.1
  unfold Ab_253_36 at g4
  have g3 := f18.2.1.2
  unfold preb_253 at g3
  have g5 := Option.some.inj f18.2.2
  unfold mub_253_36 at g5
  unfold postb_251 at f27
  unfold Ab_253_85
  unfold mub_253_85
  have e0 : hV H2 285 64 = hV H1 285 64 := f27.1.2.1.1 285 64 (by decide +kernel)
  have e1 : hV H2 285 64 = hV H1 285 64 := e0
  have e2 : hV H2 285 65 = hV H1 285 65 := f27.1.2.1.1 285 65 (by decide +kernel)
  have e3 : hV H2 285 65 = hV H1 285 65 := e2
  have e4 : AC H2 = AC H1 := AC_fr f27.1.2.1 (by decide +kernel)
  have e5 : SO H2 = SO H1 := SO_fr f27.1.2.1 (by decide +kernel)
  have e6 : SS H2 = SS H1 := SS_fr f27.1.2.1 (by decide +kernel)
  have e7 : (0 : Int) ≤ hV H1 285 64 ∧ hV H1 285 64 ≤ 20 := f18.1.2.2 285 64 _ _ (by decide +kernel)
  have e8 : (0 : Int) ≤ hV H1 285 65 ∧ hV H1 285 65 ≤ 2147483647 := f18.1.2.2 285 65 _ _ (by decide +kernel)
  have e9 : (0 : Int) ≤ hV H2 285 64 ∧ hV H2 285 64 ≤ 20 := f27.1.2.2.2 285 64 _ _ (by decide +kernel)
  have e10 : (0 : Int) ≤ hV H2 285 65 ∧ hV H2 285 65 ≤ 2147483647 := f27.1.2.2.2 285 65 _ _ (by decide +kernel)
  try simp only [e1, e3, e4, e5, e6] at f18
  try simp only [e1, e3, e4, e5, e6] at f27
  try simp only [e1, e3, e4, e5, e6] at e7
  try simp only [e1, e3, e4, e5, e6] at e8
  try simp only [e1, e3, e4, e5, e6] at e9
  try simp only [e1, e3, e4, e5, e6] at e10
  try simp only [e1, e3, e4, e5, e6] at g3
  try simp only [e1, e3, e4, e5, e6] at g4
  try simp only [e1, e3, e4, e5, e6] at g5
  try simp only [e1, e3, e4, e5, e6]
  have k0 := g4.1
  have k1 := g4.2.1
  have k2 := g4.2.2.1
  have k3 := g4.2.2.2.1
  have y0 := g4.2.2.2.2.1
  have y1 := g4.2.2.2.2.2.1
  have y2 := g4.2.2.2.2.2.2.1
  have y3 := g4.2.2.2.2.2.2.2.1
  have y4 := g4.2.2.2.2.2.2.2.2.1
  have y5 := g4.2.2.2.2.2.2.2.2.2.1
  have y6 := g4.2.2.2.2.2.2.2.2.2.2.1
  have y7 := g4.2.2.2.2.2.2.2.2.2.2.2.1
  have y8 := g4.2.2.2.2.2.2.2.2.2.2.2.2
  have p0 := g3.1
  have p1 := g3.2.1
  have p2 := g3.2.2.1
  have p3 := g3.2.2.2
  have r0_0 := f27.2
  try simp only [e1, e3, e4, e5, e6] at k0
  try simp only [e1, e3, e4, e5, e6] at k1
  try simp only [e1, e3, e4, e5, e6] at k2
  try simp only [e1, e3, e4, e5, e6] at k3
  try simp only [e1, e3, e4, e5, e6] at y0
  try simp only [e1, e3, e4, e5, e6] at y1
  try simp only [e1, e3, e4, e5, e6] at y2
  try simp only [e1, e3, e4, e5, e6] at y3
  try simp only [e1, e3, e4, e5, e6] at y4
  try simp only [e1, e3, e4, e5, e6] at y5
  try simp only [e1, e3, e4, e5, e6] at y6
  try simp only [e1, e3, e4, e5, e6] at y7
  try simp only [e1, e3, e4, e5, e6] at y8
  try simp only [e1, e3, e4, e5, e6] at p0
  try simp only [e1, e3, e4, e5, e6] at p1
  try simp only [e1, e3, e4, e5, e6] at p2
  try simp only [e1, e3, e4, e5, e6] at p3
  try simp only [e1, e3, e4, e5, e6] at r0_0
  clear g3
  clear g4
  clear e0 e1 e2 e3 e4 e5 e6
  try subst k3
  try subst k2
  try subst k1
  try subst k0
  refine ⟨?_, fun q hq => ?_⟩
  · refine ⟨?_, ?_, ?_, ?_, ?_, ?_, ?_, ?_, ?_, ?_, ?_, ?_, ?_, ?_⟩ <;> first | assumption | omega | trivial
  · have g6 := Option.some.inj hq
    subst g6
    omega
def g_253_36_1 : vG := ([(31, [14], [], 0), (1251, [14, 8, 12, 13], [1, 2], 0), (90, [14], [], 0), (91, [14], [], 1), (0, [13], [], 7), (0, [12], [], 0), (40, [6, 11], [], 0), (0, [11], [], 3), (41, [6, 10], [], 0), (0, [10], [], 1), (5000, [0, 1, 2, 3, 4, 5, 6, 7, 8, 9], [0, 1], 36), (0, [0], [], 285), (90, [1], [], -2147483648), (91, [1], [], 2147483647), (90, [2], [], -2147483648), (91, [2], [], 2147483647), (90, [3], [], -2147483648), (91, [3], [], 2147483647), (90, [4], [], -2147483648), (91, [4], [], 2147483647), (0, [5], [], 285), (90, [6], [], -2147483648), (91, [6], [], 2147483647), (90, [7], [], -2147483648), (91, [7], [], 2147483647), (90, [8], [], -2147483648), (91, [8], [], 2147483647), (90, [9], [], -2147483648), (91, [9], [], 2147483647)], (4000, [5, 6, 7, 8, 9], [2], 85))
theorem c_253_36_1 {q0 : Nat} : vOkm T0 (eP e_253 L_253 A_253 mu_253 (some q0)) 5 g_253_36_1 := vOk_in fun ρ η h => by
  obtain ⟨f0, f1, f2, f3, f4, f5, f6, f7, f8, f9, f10, f11, f12, f13, f14, f15, f16, f17, f18, f19, f20, f21, f22, f23, f24, f25, f26, f27, f28, _⟩ := h
  exact q_253_6 (q0 := q0) (n0 := ρ 9) (n1 := ρ 8) (n2 := ρ 7) (n3 := ρ 6) (n4 := ρ 5) (n5 := ρ 4) (n6 := ρ 3) (n7 := ρ 2) (n8 := ρ 1) (n9 := ρ 0) (n10 := ρ 10) (n11 := ρ 11) (n12 := ρ 12) (n13 := ρ 13) (n14 := ρ 14) (H0 := η 0) (H1 := η 1) (H2 := η 2) f28 f27 f26 f25 f24 f23 f22 f21 f20 f19 f18 f17 f16 f15 f14 f13 f12 f11 f10 f9 f8 f7 f6 f5 f4 f3 f2 f1 f0
theorem q_253_7 {q0 : Nat} {n0 n1 n2 n3 n4 n5 n6 n7 n8 n9 n10 n11 n12 n13 n14 n15 : Int} {H0 H1 H2 : gH} (f0 : n0 ≤ 2147483647) (f1 : (-2147483648) ≤ n0) (f2 : n1 ≤ 2147483647) (f3 : (-2147483648) ≤ n1) (f4 : n2 ≤ 2147483647) (f5 : (-2147483648) ≤ n2) (f6 : n3 ≤ 2147483647) (f7 : (-2147483648) ≤ n3) (f8 : n4 = 285) (f9 : n5 ≤ 2147483647) (f10 : (-2147483648) ≤ n5) (f11 : n6 ≤ 2147483647) (f12 : (-2147483648) ≤ n6) (f13 : n7 ≤ 2147483647) (f14 : (-2147483648) ≤ n7) (f15 : n8 ≤ 2147483647) (f16 : (-2147483648) ≤ n8) (f17 : n9 = 285) (f18 : (hLe T0 H0 H1 ∧ hFr s_253.2.2.2.2 H0 H1 ∧ hWt T0 H1) ∧ (Ab_253_36 n9 n8 n7 n6 n5 n4 n3 n2 n1 n0 H0 H1 ∧ preb_253 n9 n8 n7 n6 n5 H0) ∧ some q0 = some (mub_253_36 n9 n8 n7 n6 n5 n4 n3 n2 n1 n0 H0 H1)) (f19 : n10 = 1) (f20 : n3 ≠ n10) (f21 : n11 = 3) (f22 : n3 = n11) (f23 : n12 = 0) (f24 : n13 = 7) (f25 : n14 ≤ 1) (f26 : 0 ≤ n14) (f27 : (hLe T0 H1 H2 ∧ hFr s_251.2.2.2.2 H1 H2 ∧ ((0 : Int) = 0 → H2.length = H1.length) ∧ hWt T0 H2) ∧ postb_251 n14 n1 n12 n13 H1 H2) (f28 : n14 = 0) (f29 : n15 = (-1)) : postb_253 n15 n9 n8 n7 n6 n5 H0 H2 := by
  have g4 := f18.2.1.1
  unfold Ab_253_36 at g4
  have g3 := f18.2.1.2
  unfold preb_253 at g3
  unfold postb_251 at f27
  unfold postb_253
  have e0 : hV H2 285 65 = hV H1 285 65 := f27.1.2.1.1 285 65 (by decide +kernel)
  have e1 : hV H2 285 65 = hV H1 285 65 := e0
  have e2 : AC H2 = AC H1 := AC_fr f27.1.2.1 (by decide +kernel)
  have e3 : SO H2 = SO H1 := SO_fr f27.1.2.1 (by decide +kernel)
  have e4 : SS H2 = SS H1 := SS_fr f27.1.2.1 (by decide +kernel)
  have e5 : (0 : Int) ≤ hV H1 285 64 ∧ hV H1 285 64 ≤ 20 := f18.1.2.2 285 64 _ _ (by decide +kernel)
  have e6 : (0 : Int) ≤ hV H1 285 65 ∧ hV H1 285 65 ≤ 2147483647 := f18.1.2.2 285 65 _ _ (by decide +kernel)
  have e7 : (0 : Int) ≤ hV H2 285 65 ∧ hV H2 285 65 ≤ 2147483647 := f27.1.2.2.2 285 65 _ _ (by decide +kernel)
  try simp only [e1, e2, e3, e4] at f18
  try simp only [e1, e2, e3, e4] at f27
  try simp only [e1, e2, e3, e4] at e5
  try simp only [e1, e2, e3, e4] at e6
  try simp only [e1, e2, e3, e4] at e7
  try simp only [e1, e2, e3, e4] at g3
  try simp only [e1, e2, e3, e4] at g4
  try simp only [e1, e2, e3, e4]
  have k0 := g4.1
  have k1 := g4.2.1
  have k2 := g4.2.2.1
  have k3 := g4.2.2.2.1
  have y0 := g4.2.2.2.2.1
  have y1 := g4.2.2.2.2.2.1
  have y2 := g4.2.2.2.2.2.2.1
  have y3 := g4.2.2.2.2.2.2.2.1
  have y4 := g4.2.2.2.2.2.2.2.2.1
  have y5 := g4.2.2.2.2.2.2.2.2.2.1
  have y6 := g4.2.2.2.2.2.2.2.2.2.2.1
  have y7 := g4.2.2.2.2.2.2.2.2.2.2.2.1
  have y8 := g4.2.2.2.2.2.2.2.2.2.2.2.2
  have p0 := g3.1
  have p1 := g3.2.1
  have p2 := g3.2.2.1
  have p3 := g3.2.2.2
  have r0_0 := f27.2
  try simp only [e1, e2, e3, e4] at k0
  try simp only [e1, e2, e3, e4] at k1
  try simp only [e1, e2, e3, e4] at k2
  try simp only [e1, e2, e3, e4] at k3
  try simp only [e1, e2, e3, e4] at y0
  try simp only [e1, e2, e3, e4] at y1
  try simp only [e1, e2, e3, e4] at y2
  try simp only [e1, e2, e3, e4] at y3
  try simp only [e1, e2, e3, e4] at y4
  try simp only [e1, e2, e3, e4] at y5
  try simp only [e1, e2, e3, e4] at y6
  try simp only [e1, e2, e3, e4] at y7
  try simp only [e1, e2, e3, e4] at y8
  try simp only [e1, e2, e3, e4] at p0
  try simp only [e1, e2, e3, e4] at p1
  try simp only [e1, e2, e3, e4] at p2
  try simp only [e1, e2, e3, e4] at p3
  try simp only [e1, e2, e3, e4] at r0_0
  clear g3
  clear g4
  clear e0 e1 e2 e3 e4
  try subst k3
  try subst k2
  try subst k1
  try subst k0
  refine ⟨?_, ?_, ?_, ?_⟩ <;> first | assumption | omega | trivial
def g_253_36_2 : vG := ([(0, [15], [], -1), (30, [14], [], 0), (1251, [14, 8, 12, 13], [1, 2], 0), (90, [14], [], 0), (91, [14], [], 1), (0, [13], [], 7), (0, [12], [], 0), (40, [6, 11], [], 0), (0, [11], [], 3), (41, [6, 10], [], 0), (0, [10], [], 1), (5000, [0, 1, 2, 3, 4, 5, 6, 7, 8, 9], [0, 1], 36), (0, [0], [], 285), (90, [1], [], -2147483648), (91, [1], [], 2147483647), (90, [2], [], -2147483648), (91, [2], [], 2147483647), (90, [3], [], -2147483648), (91, [3], [], 2147483647), (90, [4], [], -2147483648), (91, [4], [], 2147483647), (0, [5], [], 285), (90, [6], [], -2147483648), (91, [6], [], 2147483647), (90, [7], [], -2147483648), (91, [7], [], 2147483647), (90, [8], [], -2147483648), (91, [8], [], 2147483647), (90, [9], [], -2147483648), (91, [9], [], 2147483647)], (3000, [15], [2], 84))
theorem c_253_36_2 {q0 : Nat} : vOkm T0 (eP e_253 L_253 A_253 mu_253 (some q0)) 5 g_253_36_2 := vOk_in fun ρ η h => by
  obtain ⟨f0, f1, f2, f3, f4, f5, f6, f7, f8, f9, f10, f11, f12, f13, f14, f15, f16, f17, f18, f19, f20, f21, f22, f23, f24, f25, f26, f27, f28, f29, _⟩ := h
  exact q_253_7 (q0 := q0) (n0 := ρ 9) (n1 := ρ 8) (n2 := ρ 7) (n3 := ρ 6) (n4 := ρ 5) (n5 := ρ 4) (n6 := ρ 3) (n7 := ρ 2) (n8 := ρ 1) (n9 := ρ 0) (n10 := ρ 10) (n11 := ρ 11) (n12 := ρ 12) (n13 := ρ 13) (n14 := ρ 14) (n15 := ρ 15) (H0 := η 0) (H1 := η 1) (H2 := η 2) f29 f28 f27 f26 f25 f24 f23 f22 f21 f20 f19 f18 f17 f16 f15 f14 f13 f12 f11 f10 f9 f8 f7 f6 f5 f4 f3 f2 f1 f0
theorem q_253_8 {q0 : Nat} {n0 n1 n2 n3 n4 n5 n6 n7 n8 n9 n10 n11 : Int} {H0 H1 : gH} (f0 : n0 ≤ 2147483647) (f1 : (-2147483648) ≤ n0) (f2 : n1 ≤ 2147483647) (f3 : (-2147483648) ≤ n1) (f4 : n2 ≤ 2147483647) (f5 : (-2147483648) ≤ n2) (f6 : n3 ≤ 2147483647) (f7 : (-2147483648) ≤ n3) (f8 : n4 = 285) (f9 : n5 ≤ 2147483647) (f10 : (-2147483648) ≤ n5) (f11 : n6 ≤ 2147483647) (f12 : (-2147483648) ≤ n6) (f13 : n7 ≤ 2147483647) (f14 : (-2147483648) ≤ n7) (f15 : n8 ≤ 2147483647) (f16 : (-2147483648) ≤ n8) (f17 : n9 = 285) (f18 : (hLe T0 H0 H1 ∧ hFr s_253.2.2.2.2 H0 H1 ∧ hWt T0 H1) ∧ (Ab_253_36 n9 n8 n7 n6 n5 n4 n3 n2 n1 n0 H0 H1 ∧ preb_253 n9 n8 n7 n6 n5 H0) ∧ some q0 = some (mub_253_36 n9 n8 n7 n6 n5 n4 n3 n2 n1 n0 H0 H1)) (f19 : n10 = 1) (f20 : n3 = n10) (f21 : n1 < 0) (f22 : n11 = (-1)) : postb_253 n11 n9 n8 n7 n6 n5 H0 H1 := by
  have g4 := f18.2.1.1
  unfold Ab_253_36 at g4
  have g3 := f18.2.1.2
  unfold preb_253 at g3
  unfold postb_253
  have e0 : (0 : Int) ≤ hV H1 285 64 ∧ hV H1 285 64 ≤ 20 := f18.1.2.2 285 64 _ _ (by decide +kernel)
  have e1 : (0 : Int) ≤ hV H1 285 65 ∧ hV H1 285 65 ≤ 2147483647 := f18.1.2.2 285 65 _ _ (by decide +kernel)
  have k0 := g4.1
  have k1 := g4.2.1
  have k2 := g4.2.2.1
  have k3 := g4.2.2.2.1
  have y0 := g4.2.2.2.2.1
  have y1 := g4.2.2.2.2.2.1
  have y2 := g4.2.2.2.2.2.2.1
  have y3 := g4.2.2.2.2.2.2.2.1
  have y4 := g4.2.2.2.2.2.2.2.2.1
  have y5 := g4.2.2.2.2.2.2.2.2.2.1
  have y6 := g4.2.2.2.2.2.2.2.2.2.2.1
  have y7 := g4.2.2.2.2.2.2.2.2.2.2.2.1
  have y8 := g4.2.2.2.2.2.2.2.2.2.2.2.2
  have p0 := g3.1
  have p1 := g3.2.1
  have p2 := g3.2.2.1
  have p3 := g3.2.2.2
  clear g3
  clear g4
  try subst k3
  try subst k2
  try subst k1
  try subst k0
  refine ⟨?_, ?_, ?_, ?_⟩ <;> first | assumption | omega | trivial
def g_253_36_3 : vG := ([(0, [11], [], -1), (32, [8], [], 0), (40, [6, 10], [], 0), (0, [10], [], 1), (5000, [0, 1, 2, 3, 4, 5, 6, 7, 8, 9], [0, 1], 36), (0, [0], [], 285), (90, [1], [], -2147483648), (91, [1], [], 2147483647), (90, [2], [], -2147483648), (91, [2], [], 2147483647), (90, [3], [], -2147483648), (91, [3], [], 2147483647), (90, [4], [], -2147483648), (91, [4], [], 2147483647), (0, [5], [], 285), (90, [6], [], -2147483648), (91, [6], [], 2147483647), (90, [7], [], -2147483648), (91, [7], [], 2147483647), (90, [8], [], -2147483648), (91, [8], [], 2147483647), (90, [9], [], -2147483648), (91, [9], [], 2147483647)], (3000, [11], [1], 84))
theorem c_253_36_3 {q0 : Nat} : vOkm T0 (eP e_253 L_253 A_253 mu_253 (some q0)) 5 g_253_36_3 := vOk_in fun ρ η h => by
  obtain ⟨f0, f1, f2, f3, f4, f5, f6, f7, f8, f9, f10, f11, f12, f13, f14, f15, f16, f17, f18, f19, f20, f21, f22, _⟩ := h
  exact q_253_8 (q0 := q0) (n0 := ρ 9) (n1 := ρ 8) (n2 := ρ 7) (n3 := ρ 6) (n4 := ρ 5) (n5 := ρ 4) (n6 := ρ 3) (n7 := ρ 2) (n8 := ρ 1) (n9 := ρ 0) (n10 := ρ 10) (n11 := ρ 11) (H0 := η 0) (H1 := η 1) f22 f21 f20 f19 f18 f17 f16 f15 f14 f13 f12 f11 f10 f9 f8 f7 f6 f5 f4 f3 f2 f1 f0
theorem q_253_9 {q0 : Nat} {n0 n1 n2 n3 n4 n5 n6 n7 n8 n9 n10 n11 : Int} {H0 H1 : gH} (f0 : n0 ≤ 2147483647) (f1 : (-2147483648) ≤ n0) (f2 : n1 ≤ 2147483647) (f3 : (-2147483648) ≤ n1) (f4 : n2 ≤ 2147483647) (f5 : (-2147483648) ≤ n2) (f6 : n3 ≤ 2147483647) (f7 : (-2147483648) ≤ n3) (f8 : n4 = 285) (f9 : n5 ≤ 2147483647) (f10 : (-2147483648) ≤ n5) (f11 : n6 ≤ 2147483647) (f12 : (-2147483648) ≤ n6) (f13 : n7 ≤ 2147483647) (f14 : (-2147483648) ≤ n7) (f15 : n8 ≤ 2147483647) (f16 : (-2147483648) ≤ n8) (f17 : n9 = 285) (f18 : (hLe T0 H0 H1 ∧ hFr s_253.2.2.2.2 H0 H1 ∧ hWt T0 H1) ∧ (Ab_253_36 n9 n8 n7 n6 n5 n4 n3 n2 n1 n0 H0 H1 ∧ preb_253 n9 n8 n7 n6 n5 H0) ∧ some q0 = some (mub_253_36 n9 n8 n7 n6 n5 n4 n3 n2 n1 n0 H0 H1)) (f19 : n10 = 1) (f20 : n3 = n10) (f21 : 0 ≤ n1) (f22 : n0 ≤ n1) (f23 : n11 = (-1)) : postb_253 n11 n9 n8 n7 n6 n5 H0 H1 := by
  have g4 := f18.2.1.1
  unfold Ab_253_36 at g4
  have g3 := f18.2.1.2
  unfold preb_253 at g3
  unfold postb_253
  have e0 : (0 : Int) ≤ hV H1 285 64 ∧ hV H1 285 64 ≤ 20 := f18.1.2.2 285 64 _ _ (by decide +kernel)
  have e1 : (0 : Int) ≤ hV H1 285 65 ∧ hV H1 285 65 ≤ 2147483647 := f18.1.2.2 285 65 _ _ (by decide +kernel)
  have k0 := g4.1
  have k1 := g4.2.1
  have k2 := g4.2.2.1
  have k3 := g4.2.2.2.1
  have y0 := g4.2.2.2.2.1
  have y1 := g4.2.2.2.2.2.1
  have y2 := g4.2.2.2.2.2.2.1
  have y3 := g4.2.2.2.2.2.2.2.1
  have y4 := g4.2.2.2.2.2.2.2.2.1
  have y5 := g4.2.2.2.2.2.2.2.2.2.1
  have y6 := g4.2.2.2.2.2.2.2.2.2.2.1
  have y7 := g4.2.2.2.2.2.2.2.2.2.2.2.1
  have y8 := g4.2.2.2.2.2.2.2.2.2.2.2.2
  have p0 := g3.1
  have p1 := g3.2.1
  have p2 := g3.2.2.1
  have p3 := g3.2.2.2
  clear g3
  clear g4
  try subst k3
  try subst k2
  try subst k1
  try subst k0
  refine ⟨?_, ?_, ?_, ?_⟩ <;> first | assumption | omega | trivial
def g_253_36_4 : vG := ([(0, [11], [], -1), (43, [8, 9], [], 0), (33, [8], [], 0), (40, [6, 10], [], 0), (0, [10], [], 1), (5000, [0, 1, 2, 3, 4, 5, 6, 7, 8, 9], [0, 1], 36), (0, [0], [], 285), (90, [1], [], -2147483648), (91, [1], [], 2147483647), (90, [2], [], -2147483648), (91, [2], [], 2147483647), (90, [3], [], -2147483648), (91, [3], [], 2147483647), (90, [4], [], -2147483648), (91, [4], [], 2147483647), (0, [5], [], 285), (90, [6], [], -2147483648), (91, [6], [], 2147483647), (90, [7], [], -2147483648), (91, [7], [], 2147483647), (90, [8], [], -2147483648), (91, [8], [], 2147483647), (90, [9], [], -2147483648), (91, [9], [], 2147483647)], (3000, [11], [1], 84))
theorem c_253_36_4 {q0 : Nat} : vOkm T0 (eP e_253 L_253 A_253 mu_253 (some q0)) 5 g_253_36_4 := vOk_in fun ρ η h => by
  obtain ⟨f0, f1, f2, f3, f4, f5, f6, f7, f8, f9, f10, f11, f12, f13, f14, f15, f16, f17, f18, f19, f20, f21, f22, f23, _⟩ := h
  exact q_253_9 (q0 := q0) (n0 := ρ 9) (n1 := ρ 8) (n2 := ρ 7) (n3 := ρ 6) (n4 := ρ 5) (n5 := ρ 4) (n6 := ρ 3) (n7 := ρ 2) (n8 := ρ 1) (n9 := ρ 0) (n10 := ρ 10) (n11 := ρ 11) (H0 := η 0) (H1 := η 1) f23 f22 f21 f20 f19 f18 f17 f16 f15 f14 f13 f12 f11 f10 f9 f8 f7 f6 f5 f4 f3 f2 f1 f0
theorem q_253_10 {q0 : Nat} {n0 n1 n2 n3 n4 n5 n6 n7 n8 n9 n10 n11 n12 : Int} {H0 H1 : gH} (f0 : n0 ≤ 2147483647) (f1 : (-2147483648) ≤ n0) (f2 : n1 ≤ 2147483647) (f3 : (-2147483648) ≤ n1) (f4 : n2 ≤ 2147483647) (f5 : (-2147483648) ≤ n2) (f6 : n3 ≤ 2147483647) (f7 : (-2147483648) ≤ n3) (f8 : n4 = 285) (f9 : n5 ≤ 2147483647) (f10 : (-2147483648) ≤ n5) (f11 : n6 ≤ 2147483647) (f12 : (-2147483648) ≤ n6) (f13 : n7 ≤ 2147483647) (f14 : (-2147483648) ≤ n7) (f15 : n8 ≤ 2147483647) (f16 : (-2147483648) ≤ n8) (f17 : n9 = 285) (f18 : (hLe T0 H0 H1 ∧ hFr s_253.2.2.2.2 H0 H1 ∧ hWt T0 H1) ∧ (Ab_253_36 n9 n8 n7 n6 n5 n4 n3 n2 n1 n0 H0 H1 ∧ preb_253 n9 n8 n7 n6 n5 H0) ∧ some q0 = some (mub_253_36 n9 n8 n7 n6 n5 n4 n3 n2 n1 n0 H0 H1)) (f19 : n10 = 1) (f20 : n3 = n10) (f21 : 0 ≤ n1) (f22 : n1 < n0) (f23 : n11 = (-1)) (f24 : n2 ≠ n11) (f25 : n2 < n0) (f26 : n12 = (-1)) : postb_253 n12 n9 n8 n7 n6 n5 H0 H1 := by
  have g4 := f18.2.1.1
  unfold Ab_253_36 at g4
  have g3 := f18.2.1.2
  unfold preb_253 at g3
  unfold postb_253
  have e0 : (0 : Int) ≤ hV H1 285 64 ∧ hV H1 285 64 ≤ 20 := f18.1.2.2 285 64 _ _ (by decide +kernel)
  have e1 : (0 : Int) ≤ hV H1 285 65 ∧ hV H1 285 65 ≤ 2147483647 := f18.1.2.2 285 65 _ _ (by decide +kernel)
  have k0 := g4.1
  have k1 := g4.2.1
  have k2 := g4.2.2.1
  have k3 := g4.2.2.2.1
  have y0 := g4.2.2.2.2.1
  have y1 := g4.2.2.2.2.2.1
  have y2 := g4.2.2.2.2.2.2.1
  have y3 := g4.2.2.2.2.2.2.2.1
  have y4 := g4.2.2.2.2.2.2.2.2.1
  have y5 := g4.2.2.2.2.2.2.2.2.2.1
  have y6 := g4.2.2.2.2.2.2.2.2.2.2.1
  have y7 := g4.2.2.2.2.2.2.2.2.2.2.2.1
  have y8 := g4.2.2.2.2.2.2.2.2.2.2.2.2
  have p0 := g3.1
  have p1 := g3.2.1
  have p2 := g3.2.2.1
  have p3 := g3.2.2.2
  clear g3
  clear g4
  try subst k3
  try subst k2
  try subst k1
  try subst k0
  refine ⟨?_, ?_, ?_, ?_⟩ <;> first | assumption | omega | trivial
def g_253_36_5 : vG := ([(0, [12], [], -1), (44, [9, 7], [], 0), (41, [7, 11], [], 0), (0, [11], [], -1), (42, [8, 9], [], 0), (33, [8], [], 0), (40, [6, 10], [], 0), (0, [10], [], 1), (5000, [0, 1, 2, 3, 4, 5, 6, 7, 8, 9], [0, 1], 36), (0, [0], [], 285), (90, [1], [], -2147483648), (91, [1], [], 2147483647), (90, [2], [], -2147483648), (91, [2], [], 2147483647), (90, [3], [], -2147483648), (91, [3], [], 2147483647), (90, [4], [], -2147483648), (91, [4], [], 2147483647), (0, [5], [], 285), (90, [6], [], -2147483648), (91, [6], [], 2147483647), (90, [7], [], -2147483648), (91, [7], [], 2147483647), (90, [8], [], -2147483648), (91, [8], [], 2147483647), (90, [9], [], -2147483648), (91, [9], [], 2147483647)], (3000, [12], [1], 84))
theorem c_253_36_5 {q0 : Nat} : vOkm T0 (eP e_253 L_253 A_253 mu_253 (some q0)) 5 g_253_36_5 := vOk_in fun ρ η h => by
  obtain ⟨f0, f1, f2, f3, f4, f5, f6, f7, f8, f9, f10, f11, f12, f13, f14, f15, f16, f17, f18, f19, f20, f21, f22, f23, f24, f25, f26, _⟩ := h
  exact q_253_10 (q0 := q0) (n0 := ρ 9) (n1 := ρ 8) (n2 := ρ 7) (n3 := ρ 6) (n4 := ρ 5) (n5 := ρ 4) (n6 := ρ 3) (n7 := ρ 2) (n8 := ρ 1) (n9 := ρ 0) (n10 := ρ 10) (n11 := ρ 11) (n12 := ρ 12) (H0 := η 0) (H1 := η 1) f26 f25 f24 f23 f22 f21 f20 f19 f18 f17 f16 f15 f14 f13 f12 f11 f10 f9 f8 f7 f6 f5 f4 f3 f2 f1 f0
theorem q_253_11 {q0 : Nat} {n0 n1 n2 n3 n4 n5 n6 n7 n8 n9 n10 n11 n12 : Int} {H0 H1 : gH} (f0 : n0 ≤ 2147483647) (f1 : (-2147483648) ≤ n0) (f2 : n1 ≤ 2147483647) (f3 : (-2147483648) ≤ n1) (f4 : n2 ≤ 2147483647) (f5 : (-2147483648) ≤ n2) (f6 : n3 ≤ 2147483647) (f7 : (-2147483648) ≤ n3) (f8 : n4 = 285) (f9 : n5 ≤ 2147483647) (f10 : (-2147483648) ≤ n5) (f11 : n6 ≤ 2147483647) (f12 : (-2147483648) ≤ n6) (f13 : n7 ≤ 2147483647) (f14 : (-2147483648) ≤ n7) (f15 : n8 ≤ 2147483647) (f16 : (-2147483648) ≤ n8) (f17 : n9 = 285) (f18 : (hLe T0 H0 H1 ∧ hFr s_253.2.2.2.2 H0 H1 ∧ hWt T0 H1) ∧ (Ab_253_36 n9 n8 n7 n6 n5 n4 n3 n2 n1 n0 H0 H1 ∧ preb_253 n9 n8 n7 n6 n5 H0) ∧ some q0 = some (mub_253_36 n9 n8 n7 n6 n5 n4 n3 n2 n1 n0 H0 H1)) (f19 : n10 = 1) (f20 : n3 = n10) (f21 : 0 ≤ n1) (f22 : n1 < n0) (f23 : n11 = (-1)) (f24 : n2 ≠ n11) (f25 : n0 ≤ n2) (f26 : n12 = 3) (f27 : n3 ≠ n12) : Ab_253_85 n9 n8 n7 n6 n5 n4 n3 n2 n1 n0 H0 H1 ∧ ∀ q, some q0 = some q → mub_253_85 n9 n8 n7 n6 n5 n4 n3 n2 n1 n0 H0 H1 < q := by
  have g4 := f18.2.1.1
  unfold Ab_253_36 at g4
  have g3 := f18.2.1.2
  unfold preb_253 at g3
  have g5 := Option.some.inj f18.2.2
  unfold mub_253_36 at g5
  unfold Ab_253_85
  unfold mub_253_85
  have e0 : (0 : Int) ≤ hV H1 285 64 ∧ hV H1 285 64 ≤ 20 := f18.1.2.2 285 64 _ _ (by decide +kernel)
  have e1 : (0 : Int) ≤ hV H1 285 65 ∧ hV H1 285 65 ≤ 2147483647 := f18.1.2.2 285 65 _ _ (by decide +kernel)
  have k0 := g4.1
  have k1 := g4.2.1
  have k2 := g4.2.2.1
  have k3 := g4.2.2.2.1
  have y0 := g4.2.2.2.2.1
  have y1 := g4.2.2.2.2.2.1
  have y2 := g4.2.2.2.2.2.2.1
  have y3 := g4.2.2.2.2.2.2.2.1
  have y4 := g4.2.2.2.2.2.2.2.2.1
  have y5 := g4.2.2.2.2.2.2.2.2.2.1
  have y6 := g4.2.2.2.2.2.2.2.2.2.2.1
  have y7 := g4.2.2.2.2.2.2.2.2.2.2.2.1
  have y8 := g4.2.2.2.2.2.2.2.2.2.2.2.2
  have p0 := g3.1
  have p1 := g3.2.1
  have p2 := g3.2.2.1
  have p3 := g3.2.2.2
  clear g3
  clear g4
  try subst k3
  try subst k2
  try subst k1
  try subst k0
  refine ⟨?_, fun q hq => ?_⟩
  · refine ⟨?_, ?_, ?_, ?_, ?_, ?_, ?_, ?_, ?_, ?_, ?_, ?_, ?_, ?_⟩ <;> first | assumption | omega | trivial
  · have g6 := Option.some.inj hq
    subst g6
    omega
def g_253_36_6 : vG := ([(41, [6, 12], [], 0), (0, [12], [], 3), (45, [9, 7], [], 0), (41, [7, 11], [], 0), (0, [11], [], -1), (42, [8, 9], [], 0), (33, [8], [], 0), (40, [6, 10], [], 0), (0, [10], [], 1), (5000, [0, 1, 2, 3, 4, 5, 6, 7, 8, 9], [0, 1], 36), (0, [0], [], 285), (90, [1], [], -2147483648), (91, [1], [], 2147483647), (90, [2], [], -2147483648), (91, [2], [], 2147483647), (90, [3], [], -2147483648), (91, [3], [], 2147483647), (90, [4], [], -2147483648), (91, [4], [], 2147483647), (0, [5], [], 285), (90, [6], [], -2147483648), (91, [6], [], 2147483647), (90, [7], [], -2147483648), (91, [7], [], 2147483647), (90, [8], [], -2147483648), (91, [8], [], 2147483647), (90, [9], [], -2147483648), (91, [9], [], 2147483647)], (4000, [5, 6, 7, 8, 9], [1], 85))
theorem c_253_36_6 {q0 : Nat} : vOkm T0 (eP e_253 L_253 A_253 mu_253 (some q0)) 5 g_253_36_6 := vOk_in fun ρ η h => by
  obtain ⟨f0, f1, f2, f3, f4, f5, f6, f7, f8, f9, f10, f11, f12, f13, f14, f15, f16, f17, f18, f19, f20, f21, f22, f23, f24, f25, f26, f27, _⟩ := h
  exact q_253_11 (q0 := q0) (n0 := ρ 9) (n1 := ρ 8) (n2 := ρ 7) (n3 := ρ 6) (n4 := ρ 5) (n5 := ρ 4) (n6 := ρ 3) (n7 := ρ 2) (n8 := ρ 1) (n9 := ρ 0) (n10 := ρ 10) (n11 := ρ 11) (n12 := ρ 12) (H0 := η 0) (H1 := η 1) f27 f26 f25 f24 f23 f22 f21 f20 f19 f18 f17 f16 f15 f14 f13 f12 f11 f10 f9 f8 f7 f6 f5 f4 f3 f2 f1 f0
theorem q_253_12 {q0 : Nat} {n0 n1 n2 n3 n4 n5 n6 n7 n8 n9 n10 n11 n12 n13 n14 n15 : Int} {H0 H1 H2 : gH} (f0 : n0 ≤ 2147483647) (f1 : (-2147483648) ≤ n0) (f2 : n1 ≤ 2147483647) (f3 : (-2147483648) ≤ n1) (f4 : n2 ≤ 2147483647) (f5 : (-2147483648) ≤ n2) (f6 : n3 ≤ 2147483647) (f7 : (-2147483648) ≤ n3) (f8 : n4 = 285) (f9 : n5 ≤ 2147483647) (f10 : (-2147483648) ≤ n5) (f11 : n6 ≤ 2147483647) (f12 : (-2147483648) ≤ n6) (f13 : n7 ≤ 2147483647) (f14 : (-2147483648) ≤ n7) (f15 : n8 ≤ 2147483647) (f16 : (-2147483648) ≤ n8) (f17 : n9 = 285) (f18 : (hLe T0 H0 H1 ∧ hFr s_253.2.2.2.2 H0 H1 ∧ hWt T0 H1) ∧ (Ab_253_36 n9 n8 n7 n6 n5 n4 n3 n2 n1 n0 H0 H1 ∧ preb_253 n9 n8 n7 n6 n5 H0) ∧ some q0 = some (mub_253_36 n9 n8 n7 n6 n5 n4 n3 n2 n1 n0 H0 H1)) (f19 : n10 = 1) (f20 : n3 = n10) (f21 : 0 ≤ n1) (f22 : n1 < n0) (f23 : n11 = (-1)) (f24 : n2 ≠ n11) (f25 : n0 ≤ n2) (f26 : n12 = 3) (f27 : n3 = n12) (f28 : n13 = 0) (f29 : n14 = 7) (f30 : n15 ≤ 1) (f31 : 0 ≤ n15) (f32 : (hLe T0 H1 H2 ∧ hFr s_251.2.2.2.2 H1 H2 ∧ ((0 : Int) = 0 → H2.length = H1.length) ∧ hWt T0 H2) ∧ postb_251 n15 n1 n13 n14 H1 H2) (f33 : n15 ≠ 0) : Ab_253_85 n9 n8 n7 n6 n5 n4 n3 n2 n1 n0 H0 H2 ∧ ∀ q, some q0 = some q → mub_253_85 n9 n8 n7 n6 n5 n4 n3 n2 n1 n0 H0 H2 < q := by
  have g4 := f18.2.1.1
  unfold Ab_253_36 at g4
  have g3 := f18.2.1.2
  unfold preb_253 at g3
  have g5 := Option.some.inj f18.2.2
  unfold mub_253_36 at g5
  unfold postb_251 at f32
  unfold Ab_253_85
  unfold mub_253_85
  have e0 : hV H2 285 64 = hV H1 285 64 := f32.1.2.1.1 285 64 (by decide +kernel)
  have e1 : hV H2 285 64 = hV H1 285 64 := e0
  have e2 : hV H2 285 65 = hV H1 285 65 := f32.1.2.1.1 285 65 (by decide +kernel)
  have e3 : hV H2 285 65 = hV H1 285 65 := e2
  have e4 : AC H2 = AC H1 := AC_fr f32.1.2.1 (by decide +kernel)
  have e5 : SO H2 = SO H1 := SO_fr f32.1.2.1 (by decide +kernel)
  have e6 : SS H2 = SS H1 := SS_fr f32.1.2.1 (by decide +kernel)
  have e7 : (0 : Int) ≤ hV H1 285 64 ∧ hV H1 285 64 ≤ 20 := f18.1.2.2 285 64 _ _ (by decide +kernel)
  have e8 : (0 : Int) ≤ hV H1 285 65 ∧ hV H1 285 65 ≤ 2147483647 := f18.1.2.2 285 65 _ _ (by decide +kernel)
  have e9 : (0 : Int) ≤ hV H2 285 64 ∧ hV H2 285 64 ≤ 20 := f32.1.2.2.2 285 64 _ _ (by decide +kernel)
  have e10 : (0 : Int) ≤ hV H2 285 65 ∧ hV H2 285 65 ≤ 2147483647 := f32.1.2.2.2 285 65 _ _ (by decide +kernel)
  try simp only [e1, e3, e4, e5, e6] at f18
  try simp only [e1, e3, e4, e5, e6] at f32
  try simp only [e1, e3, e4, e5, e6] at e7
  try simp only [e1, e3, e4, e5, e6] at e8
  try simp only [e1, e3, e4, e5, e6] at e9
  try simp only [e1, e3, e4, e5, e6] at e10
  try simp only [e1, e3, e4, e5, e6] at g3
  try simp only [e1, e3, e4, e5, e6] at g4
  try simp only [e1, e3, e4, e5, e6] at g5
  try simp only [e1, e3, e4, e5, e6]
  have k0 := g4.1
  have k1 := g4.2.1
  have k2 := g4.2.2.1
  have k3 := g4.2.2.2.1
  have y0 := g4.2.2.2.2.1
  have y1 := g4.2.2.2.2.2.1
  have y2 := g4.2.2.2.2.2.2.1
  have y3 := g4.2.2.2.2.2.2.2.1
  have y4 := g4.2.2.2.2.2.2.2.2.1
  have y5 := g4.2.2.2.2.2.2.2.2.2.1
  have y6 := g4.2.2.2.2.2.2.2.2.2.2.1
  have y7 := g4.2.2.2.2.2.2.2.2.2.2.2.1
  have y8 := g4.2.2.2.2.2.2.2.2.2.2.2.2
  have p0 := g3.1
  have p1 := g3.2.1
  have p2 := g3.2.2.1
  have p3 := g3.2.2.2
  have r0_0 := f32.2
  try simp only [e1, e3, e4, e5, e6] at k0
  try simp only [e1, e3, e4, e5, e6] at k1
  try simp only [e1, e3, e4, e5, e6] at k2
  try simp only [e1, e3, e4, e5, e6] at k3
  try simp only [e1, e3, e4, e5, e6] at y0
  try simp only [e1, e3, e4, e5, e6] at y1
  try simp only [e1, e3, e4, e5, e6] at y2
  try simp only [e1, e3, e4, e5, e6] at y3
  try simp only [e1, e3, e4, e5, e6] at y4
  try simp only [e1, e3, e4, e5, e6] at y5
  try simp only [e1, e3, e4, e5, e6] at y6
  try simp only [e1, e3, e4, e5, e6] at y7
  try simp only [e1, e3, e4, e5, e6] at y8
  try simp only [e1, e3, e4, e5, e6] at p0
  try simp only [e1, e3, e4, e5, e6] at p1
  try simp only [e1, e3, e4, e5, e6] at p2
  try simp only [e1, e3, e4, e5, e6] at p3
  try simp only [e1, e3, e4, e5, e6] at r0_0
  clear g3
  clear g4
  clear e0 e1 e2 e3 e4 e5 e6
  try subst k3
  try subst k2
  try subst k1
  try subst k0
  refine ⟨?_, fun q hq => ?_⟩
  · refine ⟨?_, ?_, ?_, ?_, ?_, ?_, ?_, ?_, ?_, ?_, ?_, ?_, ?_, ?_⟩ <;> first | assumption | omega | trivial
  · have g6 := Option.some.inj hq
    subst g6
    omega
def g_253_36_7 : vG := ([(31, [15], [], 0), (1251, [15, 8, 13, 14], [1, 2], 0), (90, [15], [], 0), (91, [15], [], 1), (0, [14], [], 7), (0, [13], [], 0), (40, [6, 12], [], 0), (0, [12], [], 3), (45, [9, 7], [], 0), (41, [7, 11], [], 0), (0, [11], [], -1), (42, [8, 9], [], 0), (33, [8], [], 0), (40, [6, 10], [], 0), (0, [10], [], 1), (5000, [0, 1, 2, 3, 4, 5, 6, 7, 8, 9], [0, 1], 36), (0, [0], [], 285), (90, [1], [], -2147483648), (91, [1], [], 2147483647), (90, [2], [], -2147483648), (91, [2], [], 2147483647), (90, [3], [], -2147483648), (91, [3], [], 2147483647), (90, [4], [], -2147483648), (91, [4], [], 2147483647), (0, [5], [], 285), (90, [6], [], -2147483648), (91, [6], [], 2147483647), (90, [7], [], -2147483648), (91, [7], [], 2147483647), (90, [8], [], -2147483648), (91, [8], [], 2147483647), (90, [9], [], -2147483648), (91, [9], [], 2147483647)], (4000, [5, 6, 7, 8, 9], [2], 85))
theorem c_253_36_7 {q0 : Nat} : vOkm T0 (eP e_253 L_253 A_253 mu_253 (some q0)) 5 g_253_36_7 := vOk_in fun ρ η h => by
  obtain ⟨f0, f1, f2, f3, f4, f5, f6, f7, f8, f9, f10, f11, f12, f13, f14, f15, f16, f17, f18, f19, f20, f21, f22, f23, f24, f25, f26, f27, f28, f29, f30, f31, f32, f33, _⟩ := h
  exact q_253_12 (q0 := q0) (n0 := ρ 9) (n1 := ρ 8) (n2 := ρ 7) (n3 := ρ 6) (n4 := ρ 5) (n5 := ρ 4) (n6 := ρ 3) (n7 := ρ 2) (n8 := ρ 1) (n9 := ρ 0) (n10 := ρ 10) (n11 := ρ 11) (n12 := ρ 12) (n13 := ρ 13) (n14 := ρ 14) (n15 := ρ 15) (H0 := η 0) (H1 := η 1) (H2 := η 2) f33 f32 f31 f30 f29 f28 f27 f26 f25 f24 f23 f22 f21 f20 f19 f18 f17 f16 f15 f14 f13 f12 f11 f10 f9 f8 f7 f6 f5 f4 f3 f2 f1 f0
theorem q_253_13 {q0 : Nat} {n0 n1 n2 n3 n4 n5 n6 n7 n8 n9 n10 n11 n12 n13 n14 n15 n16 : Int} {H0 H1 H2 : gH} (f0 : n0 ≤ 2147483647) (f1 : (-2147483648) ≤ n0) (f2 : n1 ≤ 2147483647) (f3 : (-2147483648) ≤ n1) (f4 : n2 ≤ 2147483647) (f5 : (-2147483648) ≤ n2) (f6 : n3 ≤ 2147483647) (f7 : (-2147483648) ≤ n3) (f8 : n4 = 285) (f9 : n5 ≤ 2147483647) (f10 : (-2147483648) ≤ n5) (f11 : n6 ≤ 2147483647) (f12 : (-2147483648) ≤ n6) (f13 : n7 ≤ 2147483647) (f14 : (-2147483648) ≤ n7) (f15 : n8 ≤ 2147483647) (f16 : (-2147483648) ≤ n8) (f17 : n9 = 285) (f18 : (hLe T0 H0 H1 ∧ hFr s_253.2.2.2.2 H0 H1 ∧ hWt T0 H1) ∧ (Ab_253_36 n9 n8 n7 n6 n5 n4 n3 n2 n1 n0 H0 H1 ∧ preb_253 n9 n8 n7 n6 n5 H0) ∧ some q0 = some (mub_253_36 n9 n8 n7 n6 n5 n4 n3 n2 n1 n0 H0 H1)) (f19 : n10 = 1) (f20 : n3 = n10) (f21 : 0 ≤ n1) (f22 : n1 < n0) (f23 : n11 = (-1)) (f24 : n2 ≠ n11) (f25 : n0 ≤ n2) (f26 : n12 = 3) (f27 : n3 = n12) (f28 : n13 = 0) (f29 : n14 = 7) (f30 : n15 ≤ 1) (f31 : 0 ≤ n15) (f32 : (hLe T0 H1 H2 ∧ hFr s_251.2.2.2.2 H1 H2 ∧ ((0 : Int) = 0 → H2.length = H1.length) ∧ hWt T0 H2) ∧ postb_251 n15 n1 n13 n14 H1 H2) (f33 : n15 = 0) (f34 : n16 = (-1)) : postb_253 n16 n9 n8 n7 n6 n5 H0 H2 := by
  have g4 := f18.2.1.1
  unfold Ab_253_36 at g4
  have g3 := f18.2.1.2
  unfold preb_253 at g3
  unfold postb_251 at f32
  unfold postb_253
  have e0 : hV H2 285 65 = hV H1 285 65 := f32.1.2.1.1 285 65 (by decide +kernel)
  have e1 : hV H2 285 65 = hV H1 285 65 := e0
  have e2 : AC H2 = AC H1 := AC_fr f32.1.2.1 (by decide +kernel)
  have e3 : SO H2 = SO H1 := SO_fr f32.1.2.1 (by decide +kernel)
  have e4 : SS H2 = SS H1 := SS_fr f32.1.2.1 (by decide +kernel)
  have e5 : (0 : Int) ≤ hV H1 285 64 ∧ hV H1 285 64 ≤ 20 := f18.1.2.2 285 64 _ _ (by decide +kernel)
  have e6 : (0 : Int) ≤ hV H1 285 65 ∧ hV H1 285 65 ≤ 2147483647 := f18.1.2.2 285 65 _ _ (by decide +kernel)
  have e7 : (0 : Int) ≤ hV H2 285 65 ∧ hV H2 285 65 ≤ 2147483647 := f32.1.2.2.2 285 65 _ _ (by decide +kernel)
  try simp only [e1, e2, e3, e4] at f18
  try simp only [e1, e2, e3, e4] at f32
  try simp only [e1, e2, e3, e4] at e5
  try simp only [e1, e2, e3, e4] at e6
  try simp only [e1, e2, e3, e4] at e7
  try simp only [e1, e2, e3, e4] at g3
  try simp only [e1, e2, e3, e4] at g4
  try simp only [e1, e2, e3, e4]
  have k0 := g4.1
  have k1 := g4.2.1
  have k2 := g4.2.2.1
  have k3 := g4.2.2.2.1
  have y0 := g4.2.2.2.2.1
  have y1 := g4.2.2.2.2.2.1
  have y2 := g4.2.2.2.2.2.2.1
  have y3 := g4.2.2.2.2.2.2.2.1
  have y4 := g4.2.2.2.2.2.2.2.2.1
  have y5 := g4.2.2.2.2.2.2.2.2.2.1
  have y6 := g4.2.2.2.2.2.2.2.2.2.2.1
  have y7 := g4.2.2.2.2.2.2.2.2.2.2.2.1
  have y8 := g4.2.2.2.2.2.2.2.2.2.2.2.2
  have p0 := g3.1
  have p1 := g3.2.1
  have p2 := g3.2.2.1
  have p3 := g3.2.2.2
  have r0_0 := f32.2
  try simp only [e1, e2, e3, e4] at k0
  try simp only [e1, e2, e3, e4] at k1
  try simp only [e1, e2, e3, e4] at k2
  try simp only [e1, e2, e3, e4] at k3
  try simp only [e1, e2, e3, e4] at y0
  try simp only [e1, e2, e3, e4] at y1
  try simp only [e1, e2, e3, e4] at y2
  try simp only [e1, e2, e3, e4] at y3
  try simp only [e1, e2, e3, e4] at y4
  try simp only [e1, e2, e3, e4] at y5
  try simp only [e1, e2, e3, e4] at y6
  try simp only [e1, e2, e3, e4] at y7
  try simp only [e1, e2, e3, e4] at y8
  try simp only [e1, e2, e3, e4] at p0
  try simp only [e1, e2, e3, e4] at p1
  try simp only [e1, e2, e3, e4] at p2
  try simp only [e1, e2, e3, e4] at p3
  try simp only [e1, e2, e3, e4] at r0_0
  clear g3
  clear g4
  clear e0 e1 e2 e3 e4
  try subst k3
  try subst k2
  try subst k1
  try subst k0
  refine ⟨?_, ?_, ?_, ?_⟩ <;> first | assumption | omega | trivial
def g_253_36_8 : vG := ([(0, [16], [], -1), (30, [15], [], 0), (1251, [15, 8, 13, 14], [1, 2], 0), (90, [15], [], 0), (91, [15], [], 1), (0, [14], [], 7), (0, [13], [], 0), (40, [6, 12], [], 0), (0, [12], [], 3), (45, [9, 7], [], 0), (41, [7, 11], [], 0), (0, [11], [], -1), (42, [8, 9], [], 0), (33, [8], [], 0), (40, [6, 10], [], 0), (0, [10], [], 1), (5000, [0, 1, 2, 3, 4, 5, 6, 7, 8, 9], [0, 1], 36), (0, [0], [], 285), (90, [1], [], -2147483648), (91, [1], [], 2147483647), (90, [2], [], -2147483648), (91, [2], [], 2147483647), (90, [3], [], -2147483648), (91, [3], [], 2147483647), (90, [4], [], -2147483648), (91, [4], [], 2147483647), (0, [5], [], 285), (90, [6], [], -2147483648), (91, [6], [], 2147483647), (90, [7], [], -2147483648), (91, [7], [], 2147483647), (90, [8], [], -2147483648), (91, [8], [], 2147483647), (90, [9], [], -2147483648), (91, [9], [], 2147483647)], (3000, [16], [2], 84))
theorem c_253_36_8 {q0 : Nat} : vOkm T0 (eP e_253 L_253 A_253 mu_253 (some q0)) 5 g_253_36_8 := vOk_in fun ρ η h => by
  obtain ⟨f0, f1, f2, f3, f4, f5, f6, f7, f8, f9, f10, f11, f12, f13, f14, f15, f16, f17, f18, f19, f20, f21, f22, f23, f24, f25, f26, f27, f28, f29, f30, f31, f32, f33, f34, _⟩ := h
  exact q_253_13 (q0 := q0) (n0 := ρ 9) (n1 := ρ 8) (n2 := ρ 7) (n3 := ρ 6) (n4 := ρ 5) (n5 := ρ 4) (n6 := ρ 3) (n7 := ρ 2) (n8 := ρ 1) (n9 := ρ 0) (n10 := ρ 10) (n11 := ρ 11) (n12 := ρ 12) (n13 := ρ 13) (n14 := ρ 14) (n15 := ρ 15) (n16 := ρ 16) (H0 := η 0) (H1 := η 1) (H2 := η 2) f34 f33 f32 f31 f30 f29 f28 f27 f26 f25 f24 f23 f22 f21 f20 f19 f18 f17 f16 f15 f14 f13 f12 f11 f10 f9 f8 f7 f6 f5 f4 f3 f2 f1 f0
theorem q_253_14 {q0 : Nat} {n0 n1 n2 n3 n4 n5 n6 n7 n8 n9 n10 n11 n12 n13 : Int} {H0 H1 : gH} (f0 : n0 ≤ 2147483647) (f1 : (-2147483648) ≤ n0) (f2 : n1 ≤ 2147483647) (f3 : (-2147483648) ≤ n1) (f4 : n2 ≤ 2147483647) (f5 : (-2147483648) ≤ n2) (f6 : n3 ≤ 2147483647) (f7 : (-2147483648) ≤ n3) (f8 : n4 = 285) (f9 : n5 ≤ 2147483647) (f10 : (-2147483648) ≤ n5) (f11 : n6 ≤ 2147483647) (f12 : (-2147483648) ≤ n6) (f13 : n7 ≤ 2147483647) (f14 : (-2147483648) ≤ n7) (f15 : n8 ≤ 2147483647) (f16 : (-2147483648) ≤ n8) (f17 : n9 = 285) (f18 : (hLe T0 H0 H1 ∧ hFr s_253.2.2.2.2 H0 H1 ∧ hWt T0 H1) ∧ (Ab_253_36 n9 n8 n7 n6 n5 n4 n3 n2 n1 n0 H0 H1 ∧ preb_253 n9 n8 n7 n6 n5 H0) ∧ some q0 = some (mub_253_36 n9 n8 n7 n6 n5 n4 n3 n2 n1 n0 H0 H1)) (f19 : n10 = 1) (f20 : n3 = n10) (f21 : 0 ≤ n1) (f22 : n1 < n0) (f23 : n11 = (-1)) (f24 : n2 = n11) (f25 : n12 = 240) (f26 : n12 < n0) (f27 : n13 = (-1)) : postb_253 n13 n9 n8 n7 n6 n5 H0 H1 := by
  have g4 := f18.2.1.1
  unfold Ab_253_36 at g4
  have g3 := f18.2.1.2
  unfold preb_253 at g3
  unfold postb_253
  have e0 : (0 : Int) ≤ hV H1 285 64 ∧ hV H1 285 64 ≤ 20 := f18.1.2.2 285 64 _ _ (by decide +kernel)
  have e1 : (0 : Int) ≤ hV H1 285 65 ∧ hV H1 285 65 ≤ 2147483647 := f18.1.2.2 285 65 _ _ (by decide +kernel)
  have k0 := g4.1
  have k1 := g4.2.1
  have k2 := g4.2.2.1
  have k3 := g4.2.2.2.1
  have y0 := g4.2.2.2.2.1
  have y1 := g4.2.2.2.2.2.1
  have y2 := g4.2.2.2.2.2.2.1
  have y3 := g4.2.2.2.2.2.2.2.1
  have y4 := g4.2.2.2.2.2.2.2.2.1
  have y5 := g4.2.2.2.2.2.2.2.2.2.1
  have y6 := g4.2.2.2.2.2.2.2.2.2.2.1
  have y7 := g4.2.2.2.2.2.2.2.2.2.2.2.1
  have y8 := g4.2.2.2.2.2.2.2.2.2.2.2.2
  have p0 := g3.1
  have p1 := g3.2.1
  have p2 := g3.2.2.1
  have p3 := g3.2.2.2
  clear g3
  clear g4
  try subst k3
  try subst k2
  try subst k1
  try subst k0
  refine ⟨?_, ?_, ?_, ?_⟩ <;> first | assumption | omega | trivial
def g_253_36_9 : vG := ([(0, [13], [], -1), (44, [9, 12], [], 0), (0, [12], [], 240), (40, [7, 11], [], 0), (0, [11], [], -1), (42, [8, 9], [], 0), (33, [8], [], 0), (40, [6, 10], [], 0), (0, [10], [], 1), (5000, [0, 1, 2, 3, 4, 5, 6, 7, 8, 9], [0, 1], 36), (0, [0], [], 285), (90, [1], [], -2147483648), (91, [1], [], 2147483647), (90, [2], [], -2147483648), (91, [2], [], 2147483647), (90, [3], [], -2147483648), (91, [3], [], 2147483647), (90, [4], [], -2147483648), (91, [4], [], 2147483647), (0, [5], [], 285), (90, [6], [], -2147483648), (91, [6], [], 2147483647), (90, [7], [], -2147483648), (91, [7], [], 2147483647), (90, [8], [], -2147483648), (91, [8], [], 2147483647), (90, [9], [], -2147483648), (91, [9], [], 2147483647)], (3000, [13], [1], 84))
theorem c_253_36_9 {q0 : Nat} : vOkm T0 (eP e_253 L_253 A_253 mu_253 (some q0)) 5 g_253_36_9 := vOk_in fun ρ η h => by
  obtain ⟨f0, f1, f2, f3, f4, f5, f6, f7, f8, f9, f10, f11, f12, f13, f14, f15, f16, f17, f18, f19, f20, f21, f22, f23, f24, f25, f26, f27, _⟩ := h
  exact q_253_14 (q0 := q0) (n0 := ρ 9) (n1 := ρ 8) (n2 := ρ 7) (n3 := ρ 6) (n4 := ρ 5) (n5 := ρ 4) (n6 := ρ 3) (n7 := ρ 2) (n8 := ρ 1) (n9 := ρ 0) (n10 := ρ 10) (n11 := ρ 11) (n12 := ρ 12) (n13 := ρ 13) (H0 := η 0) (H1 := η 1) f27 f26 f25 f24 f23 f22 f21 f20 f19 f18 f17 f16 f15 f14 f13 f12 f11 f10 f9 f8 f7 f6 f5 f4 f3 f2 f1 f0
theorem q_253_15 {q0 : Nat} {n0 n1 n2 n3 n4 n5 n6 n7 n8 n9 n10 n11 n12 n13 : Int} {H0 H1 : gH} (f0 : n0 ≤ 2147483647) (f1 : (-2147483648) ≤ n0) (f2 : n1 ≤ 2147483647) (f3 : (-2147483648) ≤ n1) (f4 : n2 ≤ 2147483647) (f5 : (-2147483648) ≤ n2) (f6 : n3 ≤ 2147483647) (f7 : (-2147483648) ≤ n3) (f8 : n4 = 285) (f9 : n5 ≤ 2147483647) (f10 : (-2147483648) ≤ n5) (f11 : n6 ≤ 2147483647) (f12 : (-2147483648) ≤ n6) (f13 : n7 ≤ 2147483647) (f14 : (-2147483648) ≤ n7) (f15 : n8 ≤ 2147483647) (f16 : (-2147483648) ≤ n8) (f17 : n9 = 285) (f18 : (hLe T0 H0 H1 ∧ hFr s_253.2.2.2.2 H0 H1 ∧ hWt T0 H1) ∧ (Ab_253_36 n9 n8 n7 n6 n5 n4 n3 n2 n1 n0 H0 H1 ∧ preb_253 n9 n8 n7 n6 n5 H0) ∧ some q0 = some (mub_253_36 n9 n8 n7 n6 n5 n4 n3 n2 n1 n0 H0 H1)) (f19 : n10 = 1) (f20 : n3 = n10) (f21 : 0 ≤ n1) (f22 : n1 < n0) (f23 : n11 = (-1)) (f24 : n2 = n11) (f25 : n12 = 240) (f26 : n0 ≤ n12) (f27 : n13 = 3) (f28 : n3 ≠ n13) : Ab_253_85 n9 n8 n7 n6 n5 n4 n3 n2 n1 n0 H0 H1 ∧ ∀ q, some q0 = some q → mub_253_85 n9 n8 n7 n6 n5 n4 n3 n2 n1 n0 H0 H1 < q := by
  have g4 := f18.2.1.1
  unfold Ab_253_36 at g4
  have g3 := f18.2.1.2
  unfold preb_253 at g3
  have g5 := Option.some.inj f18.2.2
  unfold mub_253_36 at g5
  unfold Ab_253_85
  unfold mub_253_85
  have e0 : (0 : Int) ≤ hV H1 285 64 ∧ hV H1 285 64 ≤ 20 := f18.1.2.2 285 64 _ _ (by decide +kernel)
  have e1 : (0 : Int) ≤ hV H1 285 65 ∧ hV H1 285 65 ≤ 2147483647 := f18.1.2.2 285 65 _ _ (by decide +kernel)
  have k0 := g4.1
  have k1 := g4.2.1
  have k2 := g4.2.2.1
  have k3 := g4.2.2.2.1
  have y0 := g4.2.2.2.2.1
  have y1 := g4.2.2.2.2.2.1
  have y2 := g4.2.2.2.2.2.2.1
  have y3 := g4.2.2.2.2.2.2.2.1
  have y4 := g4.2.2.2.2.2.2.2.2.1
  have y5 := g4.2.2.2.2.2.2.2.2.2.1
  have y6 := g4.2.2.2.2.2.2.2.2.2.2.1
  have y7 := g4.2.2.2.2.2.2.2.2.2.2.2.1
  have y8 := g4.2.2.2.2.2.2.2.2.2.2.2.2
  have p0 := g3.1
  have p1 := g3.2.1
  have p2 := g3.2.2.1
  have p3 := g3.2.2.2
  clear g3
  clear g4
  try subst k3
  try subst k2
  try subst k1
  try subst k0
  refine ⟨?_, fun q hq => ?_⟩
  · refine ⟨?_, ?_, ?_, ?_, ?_, ?_, ?_, ?_, ?_, ?_, ?_, ?_, ?_, ?_⟩ <;> first | assumption | omega | trivial
  · have g6 := Option.some.inj hq
    subst g6
    omega
def g_253_36_10 : vG := ([(41, [6, 13], [], 0), (0, [13], [], 3), (45, [9, 12], [], 0), (0, [12], [], 240), (40, [7, 11], [], 0), (0, [11], [], -1), (42, [8, 9], [], 0), (33, [8], [], 0), (40, [6, 10], [], 0), (0, [10], [], 1), (5000, [0, 1, 2, 3, 4, 5, 6, 7, 8, 9], [0, 1], 36), (0, [0], [], 285), (90, [1], [], -2147483648), (91, [1], [], 2147483647), (90, [2], [], -2147483648), (91, [2], [], 2147483647), (90, [3], [], -2147483648), (91, [3], [], 2147483647), (90, [4], [], -2147483648), (91, [4], [], 2147483647), (0, [5], [], 285), (90, [6], [], -2147483648), (91, [6], [], 2147483647), (90, [7], [], -2147483648), (91, [7], [], 2147483647), (90, [8], [], -2147483648), (91, [8], [], 2147483647), (90, [9], [], -2147483648), (91, [9], [], 2147483647)], (4000, [5, 6, 7, 8, 9], [1], 85))
theorem c_253_36_10 {q0 : Nat} : vOkm T0 (eP e_253 L_253 A_253 mu_253 (some q0)) 5 g_253_36_10 := vOk_in fun ρ η h => by
  obtain ⟨f0, f1, f2, f3, f4, f5, f6, f7, f8, f9, f10, f11, f12, f13, f14, f15, f16, f17, f18, f19, f20, f21, f22, f23, f24, f25, f26, f27, f28, _⟩ := h
  exact q_253_15 (q0 := q0) (n0 := ρ 9) (n1 := ρ 8) (n2 := ρ 7) (n3 := ρ 6) (n4 := ρ 5) (n5 := ρ 4) (n6 := ρ 3) (n7 := ρ 2) (n8 := ρ 1) (n9 := ρ 0) (n10 := ρ 10) (n11 := ρ 11) (n12 := ρ 12) (n13 := ρ 13) (H0 := η 0) (H1 := η 1) f28 f27 f26 f25 f24 f23 f22 f21 f20 f19 f18 f17 f16 f15 f14 f13 f12 f11 f10 f9 f8 f7 f6 f5 f4 f3 f2 f1 f0
theorem q_253_16 {q0 : Nat} {n0 n1 n2 n3 n4 n5 n6 n7 n8 n9 n10 n11 n12 n13 n14 n15 n16 : Int} {H0 H1 H2 : gH} (f0 : n0 ≤ 2147483647) (f1 : (-2147483648) ≤ n0) (f2 : n1 ≤ 2147483647) (f3 : (-2147483648) ≤ n1) (f4 : n2 ≤ 2147483647) (f5 : (-2147483648) ≤ n2) (f6 : n3 ≤ 2147483647) (f7 : (-2147483648) ≤ n3) (f8 : n4 = 285) (f9 : n5 ≤ 2147483647) (f10 : (-2147483648) ≤ n5) (f11 : n6 ≤ 2147483647) (f12 : (-2147483648) ≤ n6) (f13 : n7 ≤ 2147483647) (f14 : (-2147483648) ≤ n7) (f15 : n8 ≤ 2147483647) (f16 : (-2147483648) ≤ n8) (f17 : n9 = 285) (f18 : (hLe T0 H0 H1 ∧ hFr s_253.2.2.2.2 H0 H1 ∧ hWt T0 H1) ∧ (Ab_253_36 n9 n8 n7 n6 n5 n4 n3 n2 n1 n0 H0 H1 ∧ preb_253 n9 n8 n7 n6 n5 H0) ∧ some q0 = some (mub_253_36 n9 n8 n7 n6 n5 n4 n3 n2 n1 n0 H0 H1)) (f19 : n10 = 1) (f20 : n3 = n10) (f21 : 0 ≤ n1) (f22 : n1 < n0) (f23 : n11 = (-1)) (f24 : n2 = n11) (f25 : n12 = 240) (f26 : n0 ≤ n12) (f27 : n13 = 3) (f28 : n3 = n13) (f29 : n14 = 0) (f30 : n15 = 7) (f31 : n16 ≤ 1) (f32 : 0 ≤ n16) (f33 : (hLe T0 H1 H2 ∧ hFr s_251.2.2.2.2 H1 H2 ∧ ((0 : Int) = 0 → H2.length = H1.length) ∧ hWt T0 H2) ∧ postb_251 n16 n1 n14 n15 H1 H2) (f34 : n16 ≠ 0) : Ab_253_85 n9 n8 n7 n6 n5 n4 n3 n2 n1 n0 H0 H2 ∧ ∀ q, some q0 = some q → mub_253_85 n9 n8 n7 n6 n5 n4 n3 n2 n1 n0 H0 H2 < q := by
  have g4 := f18.2.1.1
  unfold Ab_253_36 at g4
  have g3 := f18.2.1.2
  unfold preb_253 at g3
  have g5 := Option.some.inj f18.2.2
  unfold mub_253_36 at g5
  unfold postb_251 at f33
  unfold Ab_253_85
  unfold mub_253_85
  have e0 : hV H2 285 64 = hV H1 285 64 := f33.1.2.1.1 285 64 (by decide +kernel)
  have e1 : hV H2 285 64 = hV H1 285 64 := e0
  have e2 : hV H2 285 65 = hV H1 285 65 := f33.1.2.1.1 285 65 (by decide +kernel)
  have e3 : hV H2 285 65 = hV H1 285 65 := e2
  have e4 : AC H2 = AC H1 := AC_fr f33.1.2.1 (by decide +kernel)
  have e5 : SO H2 = SO H1 := SO_fr f33.1.2.1 (by decide +kernel)
  have e6 : SS H2 = SS H1 := SS_fr f33.1.2.1 (by decide +kernel)
  have e7 : (0 : Int) ≤ hV H1 285 64 ∧ hV H1 285 64 ≤ 20 := f18.1.2.2 285 64 _ _ (by decide +kernel)
  have e8 : (0 : Int) ≤ hV H1 285 65 ∧ hV H1 285 65 ≤ 2147483647 := f18.1.2.2 285 65 _ _ (by decide +kernel)
  have e9 : (0 : Int) ≤ hV H2 285 64 ∧ hV H2 285 64 ≤ 20 := f33.1.2.2.2 285 64 _ _ (by decide +kernel)
  have e10 : (0 : Int) ≤ hV H2 285 65 ∧ hV H2 285 65 ≤ 2147483647 := f33.1.2.2.2 285 65 _ _ (by decide +kernel)
  try simp only [e1, e3, e4, e5, e6] at f18
  try simp only [e1, e3, e4, e5, e6] at f33
  try simp only [e1, e3, e4, e5, e6] at e7
  try simp only [e1, e3, e4, e5, e6] at e8
  try simp only [e1, e3, e4, e5, e6] at e9
  try simp only [e1, e3, e4, e5, e6] at e10
  try simp only [e1, e3, e4, e5, e6] at g3
  try simp only [e1, e3, e4, e5, e6] at g4
  try simp only [e1, e3, e4, e5, e6] at g5
  try simp only [e1, e3, e4, e5, e6]
  have k0 := g4.1
  have k1 := g4.2.1
  have k2 := g4.2.2.1
  have k3 := g4.2.2.2.1
  have y0 := g4.2.2.2.2.1
  have y1 := g4.2.2.2.2.2.1
  have y2 := g4.2.2.2.2.2.2.1
  have y3 := g4.2.2.2.2.2.2.2.1
  have y4 := g4.2.2.2.2.2.2.2.2.1
  have y5 := g4.2.2.2.2.2.2.2.2.2.1
  have y6 := g4.2.2.2.2.2.2.2.2.2.2.1
  have y7 := g4.2.2.2.2.2.2.2.2.2.2.2.1
  have y8 := g4.2.2.2.2.2.2.2.2.2.2.2.2
  have p0 := g3.1
  have p1 := g3.2.1
  have p2 := g3.2.2.1
  have p3 := g3.2.2.2
  have r0_0 := f33.2
  try simp only [e1, e3, e4, e5, e6] at k0
  try simp only [e1, e3, e4, e5, e6] at k1
  try simp only [e1, e3, e4, e5, e6] at k2
  try simp only [e1, e3, e4, e5, e6] at k3
  try simp only [e1, e3, e4, e5, e6] at y0
  try simp only [e1, e3, e4, e5, e6] at y1
  try simp only [e1, e3, e4, e5, e6] at y2
  try simp only [e1, e3, e4, e5, e6] at y3
  try simp only [e1, e3, e4, e5, e6] at y4
  try simp only [e1, e3, e4, e5, e6] at y5
  try simp only [e1, e3, e4, e5, e6] at y6
  try simp only [e1, e3, e4, e5, e6] at y7
  try simp only [e1, e3, e4, e5, e6] at y8
  try simp only [e1, e3, e4, e5, e6] at p0
  try simp only [e1, e3, e4, e5, e6] at p1
  try simp only [e1, e3, e4, e5, e6] at p2
  try simp only [e1, e3, e4, e5, e6] at p3
  try simp only [e1, e3, e4, e5, e6] at r0_0
  clear g3
  clear g4
  clear e0 e1 e2 e3 e4 e5 e6
  try subst k3
  try subst k2
  try subst k1
  try subst k0
  refine ⟨?_, fun q hq => ?_⟩
  · refine ⟨?_, ?_, ?_, ?_, ?_, ?_, ?_, ?_, ?_, ?_, ?_, ?_, ?_, ?_⟩ <;> first | assumption | omega | trivial
  · have g6 := Option.some.inj hq
    subst g6
    omega
def g_253_36_11 : vG := ([(31, [16], [], 0), (1251, [16, 8, 14, 15], [1, 2], 0), (90, [16], [], 0), (91, [16], [], 1), (0, [15], [], 7), (0, [14], [], 0), (40, [6, 13], [], 0), (0, [13], [], 3), (45, [9, 12], [], 0), (0, [12], [], 240), (40, [7, 11], [], 0), (0, [11], [], -1), (42, [8, 9], [], 0), (33, [8], [], 0), (40, [6, 10], [], 0), (0, [10], [], 1), (5000, [0, 1, 2, 3, 4, 5, 6, 7, 8, 9], [0, 1], 36), (0, [0], [], 285), (90, [1], [], -2147483648), (91, [1], [], 2147483647), (90, [2], [], -2147483648), (91, [2], [], 2147483647), (90, [3], [], -2147483648), (91, [3], [], 2147483647), (90, [4], [], -2147483648), (91, [4], [], 2147483647), (0, [5], [], 285), (90, [6], [], -2147483648), (91, [6], [], 2147483647), (90, [7], [], -2147483648), (91, [7], [], 2147483647), (90, [8], [], -2147483648), (91, [8], [], 2147483647), (90, [9], [], -2147483648), (91, [9], [], 2147483647)], (4000, [5, 6, 7, 8, 9], [2], 85))
theorem c_253_36_11 {q0 : Nat} : vOkm T0 (eP e_253 L_253 A_253 mu_253 (some q0)) 5 g_253_36_11 := vOk_in fun ρ η h => by
  obtain ⟨f0, f1, f2, f3, f4, f5, f6, f7, f8, f9, f10, f11, f12, f13, f14, f15, f16, f17, f18, f19, f20, f21, f22, f23, f24, f25, f26, f27, f28, f29, f30, f31, f32, f33, f34, _⟩ := h
  exact q_253_16 (q0 := q0) (n0 := ρ 9) (n1 := ρ 8) (n2 := ρ 7) (n3 := ρ 6) (n4 := ρ 5) (n5 := ρ 4) (n6 := ρ 3) (n7 := ρ 2) (n8 := ρ 1) (n9 := ρ 0) (n10 := ρ 10) (n11 := ρ 11) (n12 := ρ 12) (n13 := ρ 13) (n14 := ρ 14) (n15 := ρ 15) (n16 := ρ 16) (H0 := η 0) (H1 := η 1) (H2 := η 2) f34 f33 f32 f31 f30 f29 f28 f27 f26 f25 f24 f23 f22 f21 f20 f19 f18 f17 f16 f15 f14 f13 f12 f11 f10 f9 f8 f7 f6 f5 f4 f3 f2 f1 f0
theorem q_253_17 {q0 : Nat} {n0 n1 n2 n3 n4 n5 n6 n7 n8 n9 n10 n11 n12 n13 n14 n15 n16 n17 : Int} {H0 H1 H2 : gH} (f0 : n0 ≤ 2147483647) (f1 : (-2147483648) ≤ n0) (f2 : n1 ≤ 2147483647) (f3 : (-2147483648) ≤ n1) (f4 : n2 ≤ 2147483647) (f5 : (-2147483648) ≤ n2) (f6 : n3 ≤ 2147483647) (f7 : (-2147483648) ≤ n3) (f8 : n4 = 285) (f9 : n5 ≤ 2147483647) (f10 : (-2147483648) ≤ n5) (f11 : n6 ≤ 2147483647) (f12 : (-2147483648) ≤ n6) (f13 : n7 ≤ 2147483647) (f14 : (-2147483648) ≤ n7) (f15 : n8 ≤ 2147483647) (f16 : (-2147483648) ≤ n8) (f17 : n9 = 285) (f18 : (hLe T0 H0 H1 ∧ hFr s_253.2.2.2.2 H0 H1 ∧ hWt T0 H1) ∧ (Ab_253_36 n9 n8 n7 n6 n5 n4 n3 n2 n1 n0 H0 H1 ∧ preb_253 n9 n8 n7 n6 n5 H0) ∧ some q0 = some (mub_253_36 n9 n8 n7 n6 n5 n4 n3 n2 n1 n0 H0 H1)) (f19 : n10 = 1) (f20 : n3 = n10) (f21 : 0 ≤ n1) (f22 : n1 < n0) (f23 : n11 = (-1)) (f24 : n2 = n11) (f25 : n12 = 240) (f26 : n0 ≤ n12) (f27 : n13 = 3) (f28 : n3 = n13) (f29 : n14 = 0) (f30 : n15 = 7) (f31 : n16 ≤ 1) (f32 : 0 ≤ n16) (f33 : (hLe T0 H1 H2 ∧ hFr s_251.2.2.2.2 H1 H2 ∧ ((0 : Int) = 0 → H2.length = H1.length) ∧ hWt T0 H2) ∧ postb_251 n16 n1 n14 n15 H1 H2) (f34 : n16 = 0) (f35 : n17 = (-1)) : postb_253 n17 n9 n8 n7 n6 n5 H0 H2 := by
  have g4 := f18.2.1.1
  unfold Ab_253_36 at g4
  have g3 := f18.2.1.2
  unfold preb_253 at g3
  unfold postb_251 at f33
  unfold postb_253
  have e0 : hV H2 285 65 = hV H1 285 65 := f33.1.2.1.1 285 65 (by decide +kernel)
  have e1 : hV H2 285 65 = hV H1 285 65 := e0
  have e2 : AC H2 = AC H1 := AC_fr f33.1.2.1 (by decide +kernel)
  have e3 : SO H2 = SO H1 := SO_fr f33.1.2.1 (by decide +kernel)
  have e4 : SS H2 = SS H1 := SS_fr f33.1.2.1 (by decide +kernel)
  have e5 : (0 : Int) ≤ hV H1 285 64 ∧ hV H1 285 64 ≤ 20 := f18.1.2.2 285 64 _ _ (by decide +kernel)
  have e6 : (0 : Int) ≤ hV H1 285 65 ∧ hV H1 285 65 ≤ 2147483647 := f18.1.2.2 285 65 _ _ (by decide +kernel)
  have e7 : (0 : Int) ≤ hV H2 285 65 ∧ hV H2 285 65 ≤ 2147483647 := f33.1.2.2.2 285 65 _ _ (by decide +kernel)
  try simp only [e1, e2, e3, e4] at f18
  try simp only [e1, e2, e3, e4] at f33
  try simp only [e1, e2, e3, e4] at e5
  try simp only [e1, e2, e3, e4] at e6
  try simp only [e1, e2, e3, e4] at e7
  try simp only [e1, e2, e3, e4] at g3
  try simp only [e1, e2, e3, e4] at g4
  try simp only [e1, e2, e3, e4]
  have k0 := g4.1
  have k1 := g4.2.1
  have k2 := g4.2.2.1
  have k3 := g4.2.2.2.1
  have y0 := g4.2.2.2.2.1
  have y1 := g4.2.2.2.2.2.1
  have y2 := g4.2.2.2.2.2.2.1
  have y3 := g4.2.2.2.2.2.2.2.1
  have y4 := g4.2.2.2.2.2.2.2.2.1
  have y5 := g4.2.2.2.2.2.2.2.2.2.1
  have y6 := g4.2.2.2.2.2.2.2.2.2.2.1
  have y7 := g4.2.2.2.2.2.2.2.2.2.2.2.1
  have y8 := g4.2.2.2.2.2.2.2.2.2.2.2.2
  have p0 := g3.1
  have p1 := g3.2.1
  have p2 := g3.2.2.1
  have p3 := g3.2.2.2
  have r0_0 := f33.2
  try simp only [e1, e2, e3, e4] at k0
  try simp only [e1, e2, e3, e4] at k1
  try simp only [e1, e2, e3, e4] at k2
  try simp only [e1, e2, e3, e4] at k3
  try simp only [e1, e2, e3, e4] at y0
  try simp only [e1, e2, e3, e4] at y1
  try simp only [e1, e2, e3, e4] at y2
  try simp only [e1, e2, e3, e4] at y3
  try simp only [e1, e2, e3, e4] at y4
  try simp only [e1, e2, e3, e4] at y5
  try simp only [e1, e2, e3, e4] at y6
  try simp only [e1, e2, e3, e4] at y7
  try simp only [e1, e2, e3, e4] at y8
  try simp only [e1, e2, e3, e4] at p0
  try simp only [e1, e2, e3, e4] at p1
  try simp only [e1, e2, e3, e4] at p2
  try simp only [e1, e2, e3, e4] at p3
  try simp only [e1, e2, e3, e4] at r0_0
  clear g3
  clear g4
  clear e0 e1 e2 e3 e4
  try subst k3
  try subst k2
  try subst k1
  try subst k0
  refine ⟨?_, ?_, ?_, ?_⟩ <;> first | assumption | omega | trivial
def g_253_36_12 : vG := ([(0, [17], [], -1), (30, [16], [], 0), (1251, [16, 8, 14, 15], [1, 2], 0), (90, [16], [], 0), (91, [16], [], 1), (0, [15], [], 7), (0, [14], [], 0), (40, [6, 13], [], 0), (0, [13], [], 3), (45, [9, 12], [], 0), (0, [12], [], 240), (40, [7, 11], [], 0), (0, [11], [], -1), (42, [8, 9], [], 0), (33, [8], [], 0), (40, [6, 10], [], 0), (0, [10], [], 1), (5000, [0, 1, 2, 3, 4, 5, 6, 7, 8, 9], [0, 1], 36), (0, [0], [], 285), (90, [1], [], -2147483648), (91, [1], [], 2147483647), (90, [2], [], -2147483648), (91, [2], [], 2147483647), (90, [3], [], -2147483648), (91, [3], [], 2147483647), (90, [4], [], -2147483648), (91, [4], [], 2147483647), (0, [5], [], 285), (90, [6], [], -2147483648), (91, [6], [], 2147483647), (90, [7], [], -2147483648), (91, [7], [], 2147483647), (90, [8], [], -2147483648), (91, [8], [], 2147483647), (90, [9], [], -2147483648), (91, [9], [], 2147483647)], (3000, [17], [2], 84))
theorem c_253_36_12 {q0 : Nat} : vOkm T0 (eP e_253 L_253 A_253 mu_253 (some q0)) 5 g_253_36_12 := vOk_in fun ρ η h => by
  obtain ⟨f0, f1, f2, f3, f4, f5, f6, f7, f8, f9, f10, f11, f12, f13, f14, f15, f16, f17, f18, f19, f20, f21, f22, f23, f24, f25, f26, f27, f28, f29, f30, f31, f32, f33, f34, f35, _⟩ := h
  exact q_253_17 (q0 := q0) (n0 := ρ 9) (n1 := ρ 8) (n2 := ρ 7) (n3 := ρ 6) (n4 := ρ 5) (n5 := ρ 4) (n6 := ρ 3) (n7 := ρ 2) (n8 := ρ 1) (n9 := ρ 0) (n10 := ρ 10) (n11 := ρ 11) (n12 := ρ 12) (n13 := ρ 13) (n14 := ρ 14) (n15 := ρ 15) (n16 := ρ 16) (n17 := ρ 17) (H0 := η 0) (H1 := η 1) (H2 := η 2) f35 f34 f33 f32 f31 f30 f29 f28 f27 f26 f25 f24 f23 f22 f21 f20 f19 f18 f17 f16 f15 f14 f13 f12 f11 f10 f9 f8 f7 f6 f5 f4 f3 f2 f1 f0
def p_253_36 : List vG := [g_253_36_0,
  g_253_36_1,
  g_253_36_2,
  g_253_36_3,
  g_253_36_4,
  g_253_36_5,
  g_253_36_6,
  g_253_36_7,
  g_253_36_8,
  g_253_36_9,
  g_253_36_10,
  g_253_36_11,
  g_253_36_12]
theorem r_253_36 : vCovO false (eRc e_253 L_253 cs_253 2000 (36, [(0, (3, 12, 285, 0)), (1, (0, -2147483648, 2147483647, 0)), (2, (0, -2147483648, 2147483647, 0)), (3, (0, -2147483648, 2147483647, 0)), (4, (0, -2147483648, 2147483647, 0))])) p_253_36 = true := by decide +kernel
theorem q_253_18 {q0 : Nat} {n0 n1 n2 n3 n4 n5 n6 n7 n8 n9 : Int} {H0 H1 : gH} (f0 : n0 = 285) (f1 : n1 = 285) (f2 : (hLe T0 H0 H1 ∧ hFr s_253.2.2.2.2 H0 H1 ∧ hWt T0 H1) ∧ (Ab_253_85 n1 n2 n3 n4 n5 n0 n6 n7 n8 n9 H0 H1 ∧ preb_253 n1 n2 n3 n4 n5 H0) ∧ some q0 = some (mub_253_85 n1 n2 n3 n4 n5 n0 n6 n7 n8 n9 H0 H1)) : 0 ≤ n6 := by
  have g4 := f2.2.1.1
  unfold Ab_253_85 at g4
  have g3 := f2.2.1.2
  unfold preb_253 at g3
  have e0 : (0 : Int) ≤ hV H1 285 64 ∧ hV H1 285 64 ≤ 20 := f2.1.2.2 285 64 _ _ (by decide +kernel)
  have e1 : (0 : Int) ≤ hV H1 285 65 ∧ hV H1 285 65 ≤ 2147483647 := f2.1.2.2 285 65 _ _ (by decide +kernel)
  have k0 := g4.1
  have k1 := g4.2.1
  have k2 := g4.2.2.1
  have k3 := g4.2.2.2.1
  have y0 := g4.2.2.2.2.1
  have y1 := g4.2.2.2.2.2.1
  have y2 := g4.2.2.2.2.2.2.1
  have y3 := g4.2.2.2.2.2.2.2.1
  have y4 := g4.2.2.2.2.2.2.2.2.1
  have y5 := g4.2.2.2.2.2.2.2.2.2.1
  have y6 := g4.2.2.2.2.2.2.2.2.2.2.1
  have y7 := g4.2.2.2.2.2.2.2.2.2.2.2.1
  have y8 := g4.2.2.2.2.2.2.2.2.2.2.2.2.1
  have y9 := g4.2.2.2.2.2.2.2.2.2.2.2.2.2
  have p0 := g3.1
  have p1 := g3.2.1
  have p2 := g3.2.2.1
  have p3 := g3.2.2.2
  clear g3
  clear g4
  try subst k3
  try subst k2
  try subst k1
  try subst k0
  omega
def g_253_85_0 : vG := ([(5000, [0, 1, 2, 3, 4, 5, 6, 7, 8, 9], [0, 1], 85), (0, [0], [], 285), (0, [5], [], 285)], (90, [6], [], 0))
theorem c_253_85_0 {q0 : Nat} : vOkm T0 (eP e_253 L_253 A_253 mu_253 (some q0)) 5 g_253_85_0 := vOk_in fun ρ η h => by
  obtain ⟨f0, f1, f2, _⟩ := h
  exact q_253_18 (q0 := q0) (n0 := ρ 5) (n1 := ρ 0) (n2 := ρ 1) (n3 := ρ 2) (n4 := ρ 3) (n5 := ρ 4) (n6 := ρ 6) (n7 := ρ 7) (n8 := ρ 8) (n9 := ρ 9) (H0 := η 0) (H1 := η 1) f2 f1 f0
theorem q_253_19 {q0 : Nat} {n0 n1 n2 n3 n4 n5 n6 n7 n8 n9 : Int} {H0 H1 : gH} (f0 : n0 = 285) (f1 : n1 = 285) (f2 : (hLe T0 H0 H1 ∧ hFr s_253.2.2.2.2 H0 H1 ∧ hWt T0 H1) ∧ (Ab_253_85 n1 n2 n3 n4 n5 n0 n6 n7 n8 n9 H0 H1 ∧ preb_253 n1 n2 n3 n4 n5 H0) ∧ some q0 = some (mub_253_85 n1 n2 n3 n4 n5 n0 n6 n7 n8 n9 H0 H1)) : n6 ≤ 6 := by
  have g4 := f2.2.1.1
  unfold Ab_253_85 at g4
  have g3 := f2.2.1.2
  unfold preb_253 at g3
  have e0 : (0 : Int) ≤ hV H1 285 64 ∧ hV H1 285 64 ≤ 20 := f2.1.2.2 285 64 _ _ (by decide +kernel)
  have e1 : (0 : Int) ≤ hV H1 285 65 ∧ hV H1 285 65 ≤ 2147483647 := f2.1.2.2 285 65 _ _ (by decide +kernel)
  have k0 := g4.1
  have k1 := g4.2.1
  have k2 := g4.2.2.1
  have k3 := g4.2.2.2.1
  have y0 := g4.2.2.2.2.1
  have y1 := g4.2.2.2.2.2.1
  have y2 := g4.2.2.2.2.2.2.1
  have y3 := g4.2.2.2.2.2.2.2.1
  have y4 := g4.2.2.2.2.2.2.2.2.1
  have y5 := g4.2.2.2.2.2.2.2.2.2.1
  have y6 := g4.2.2.2.2.2.2.2.2.2.2.1
  have y7 := g4.2.2.2.2.2.2.2.2.2.2.2.1
  have y8 := g4.2.2.2.2.2.2.2.2.2.2.2.2.1
  have y9 := g4.2.2.2.2.2.2.2.2.2.2.2.2.2
  have p0 := g3.1
  have p1 := g3.2.1
  have p2 := g3.2.2.1
  have p3 := g3.2.2.2
  clear g3
  clear g4
  try subst k3
  try subst k2
  try subst k1
  try subst k0
  omega
def g_253_85_1 : vG := ([(5000, [0, 1, 2, 3, 4, 5, 6, 7, 8, 9], [0, 1], 85), (0, [0], [], 285), (0, [5], [], 285)], (91, [6], [], 6))
theorem c_253_85_1 {q0 : Nat} : vOkm T0 (eP e_253 L_253 A_253 mu_253 (some q0)) 5 g_253_85_1 := vOk_in fun ρ η h => by
  obtain ⟨f0, f1, f2, _⟩ := h
  exact q_253_19 (q0 := q0) (n0 := ρ 5) (n1 := ρ 0) (n2 := ρ 1) (n3 := ρ 2) (n4 := ρ 3) (n5 := ρ 4) (n6 := ρ 6) (n7 := ρ 7) (n8 := ρ 8) (n9 := ρ 9) (H0 := η 0) (H1 := η 1) f2 f1 f0
theorem q_253_20 {q0 : Nat} {n0 n1 n2 n3 n4 n5 n6 n7 n8 n9 : Int} {H0 H1 : gH} (f0 : n0 = 285) (f1 : n1 = 285) (f2 : (hLe T0 H0 H1 ∧ hFr s_253.2.2.2.2 H0 H1 ∧ hWt T0 H1) ∧ (Ab_253_85 n1 n2 n3 n4 n5 n0 n6 n7 n8 n9 H0 H1 ∧ preb_253 n1 n2 n3 n4 n5 H0) ∧ some q0 = some (mub_253_85 n1 n2 n3 n4 n5 n0 n6 n7 n8 n9 H0 H1)) : (-1) ≤ n7 := by
  have g4 := f2.2.1.1
  unfold Ab_253_85 at g4
  have g3 := f2.2.1.2
  unfold preb_253 at g3
  have e0 : (0 : Int) ≤ hV H1 285 64 ∧ hV H1 285 64 ≤ 20 := f2.1.2.2 285 64 _ _ (by decide +kernel)
  have e1 : (0 : Int) ≤ hV H1 285 65 ∧ hV H1 285 65 ≤ 2147483647 := f2.1.2.2 285 65 _ _ (by decide +kernel)
  have k0 := g4.1
  have k1 := g4.2.1
  have k2 := g4.2.2.1
  have k3 := g4.2.2.2.1
  have y0 := g4.2.2.2.2.1
  have y1 := g4.2.2.2.2.2.1
  have y2 := g4.2.2.2.2.2.2.1
  have y3 := g4.2.2.2.2.2.2.2.1
  have y4 := g4.2.2.2.2.2.2.2.2.1
  have y5 := g4.2.2.2.2.2.2.2.2.2.1
  have y6 := g4.2.2.2.2.2.2.2.2.2.2.1
  have y7 := g4.2.2.2.2.2.2.2.2.2.2.2.1
  have y8 := g4.2.2.2.2.2.2.2.2.2.2.2.2.1
  have y9 := g4.2.2.2.2.2.2.2.2.2.2.2.2.2
  have p0 := g3.1
  have p1 := g3.2.1
  have p2 := g3.2.2.1
  have p3 := g3.2.2.2
  clear g3
  clear g4
  try subst k3
  try subst k2
  try subst k1
  try subst k0
  omega
def g_253_85_2 : vG := ([(5000, [0, 1, 2, 3, 4, 5, 6, 7, 8, 9], [0, 1], 85), (0, [0], [], 285), (0, [5], [], 285)], (90, [7], [], -1))
theorem c_253_85_2 {q0 : Nat} : vOkm T0 (eP e_253 L_253 A_253 mu_253 (some q0)) 5 g_253_85_2 := vOk_in fun ρ η h => by
  obtain ⟨f0, f1, f2, _⟩ := h
  exact q_253_20 (q0 := q0) (n0 := ρ 5) (n1 := ρ 0) (n2 := ρ 1) (n3 := ρ 2) (n4 := ρ 3) (n5 := ρ 4) (n6 := ρ 6) (n7 := ρ 7) (n8 := ρ 8) (n9 := ρ 9) (H0 := η 0) (H1 := η 1) f2 f1 f0
theorem q_253_21 {q0 : Nat} {n0 n1 n2 n3 n4 n5 n6 n7 n8 n9 : Int} {H0 H1 : gH} (f0 : n0 = 285) (f1 : n1 = 285) (f2 : (hLe T0 H0 H1 ∧ hFr s_253.2.2.2.2 H0 H1 ∧ hWt T0 H1) ∧ (Ab_253_85 n1 n2 n3 n4 n5 n0 n6 n7 n8 n9 H0 H1 ∧ preb_253 n1 n2 n3 n4 n5 H0) ∧ some q0 = some (mub_253_85 n1 n2 n3 n4 n5 n0 n6 n7 n8 n9 H0 H1)) : n7 ≤ 240 := by
  have g4 := f2.2.1.1
  unfold Ab_253_85 at g4
  have g3 := f2.2.1.2
  unfold preb_253 at g3
  have e0 : (0 : Int) ≤ hV H1 285 64 ∧ hV H1 285 64 ≤ 20 := f2.1.2.2 285 64 _ _ (by decide +kernel)
  have e1 : (0 : Int) ≤ hV H1 285 65 ∧ hV H1 285 65 ≤ 2147483647 := f2.1.2.2 285 65 _ _ (by decide +kernel)
  have k0 := g4.1
  have k1 := g4.2.1
  have k2 := g4.2.2.1
  have k3 := g4.2.2.2.1
  have y0 := g4.2.2.2.2.1
  have y1 := g4.2.2.2.2.2.1
  have y2 := g4.2.2.2.2.2.2.1
  have y3 := g4.2.2.2.2.2.2.2.1
  have y4 := g4.2.2.2.2.2.2.2.2.1
  have y5 := g4.2.2.2.2.2.2.2.2.2.1
  have y6 := g4.2.2.2.2.2.2.2.2.2.2.1
  have y7 := g4.2.2.2.2.2.2.2.2.2.2.2.1
  have y8 := g4.2.2.2.2.2.2.2.2.2.2.2.2.1
  have y9 := g4.2.2.2.2.2.2.2.2.2.2.2.2.2
  have p0 := g3.1
  have p1 := g3.2.1
  have p2 := g3.2.2.1
  have p3 := g3.2.2.2
  clear g3
  clear g4
  try subst k3
  try subst k2
  try subst k1
  try subst k0
  omega
def g_253_85_3 : vG := ([(5000, [0, 1, 2, 3, 4, 5, 6, 7, 8, 9], [0, 1], 85), (0, [0], [], 285), (0, [5], [], 285)], (91, [7], [], 240))
theorem c_253_85_3 {q0 : Nat} : vOkm T0 (eP e_253 L_253 A_253 mu_253 (some q0)) 5 g_253_85_3 := vOk_in fun ρ η h => by
  obtain ⟨f0, f1, f2, _⟩ := h
  exact q_253_21 (q0 := q0) (n0 := ρ 5) (n1 := ρ 0) (n2 := ρ 1) (n3 := ρ 2) (n4 := ρ 3) (n5 := ρ 4) (n6 := ρ 6) (n7 := ρ 7) (n8 := ρ 8) (n9 := ρ 9) (H0 := η 0) (H1 := η 1) f2 f1 f0
theorem q_253_22 {q0 : Nat} {n0 n1 n2 n3 n4 n5 n6 n7 n8 n9 n10 : Int} {H0 H1 : gH} (f0 : n0 ≤ 2147483647) (f1 : (-2147483648) ≤ n0) (f2 : n1 ≤ 2147483647) (f3 : (-2147483648) ≤ n1) (f4 : n2 ≤ 2147483647) (f5 : (-2147483648) ≤ n2) (f6 : n3 ≤ 2147483647) (f7 : (-2147483648) ≤ n3) (f8 : n4 = 285) (f9 : n5 ≤ 2147483647) (f10 : (-2147483648) ≤ n5) (f11 : n6 ≤ 2147483647) (f12 : (-2147483648) ≤ n6) (f13 : n7 ≤ 2147483647) (f14 : (-2147483648) ≤ n7) (f15 : n8 ≤ 2147483647) (f16 : (-2147483648) ≤ n8) (f17 : n9 = 285) (f18 : (hLe T0 H0 H1 ∧ hFr s_253.2.2.2.2 H0 H1 ∧ hWt T0 H1) ∧ (Ab_253_85 n9 n8 n7 n6 n5 n4 n3 n2 n1 n0 H0 H1 ∧ preb_253 n9 n8 n7 n6 n5 H0) ∧ some q0 = some (mub_253_85 n9 n8 n7 n6 n5 n4 n3 n2 n1 n0 H0 H1)) (f19 : n10 = (-1)) : preb_252 n4 n3 n2 n1 n0 n10 H1 := by
  have g4 := f18.2.1.1
  unfold Ab_253_85 at g4
  have g3 := f18.2.1.2
  unfold preb_253 at g3
  unfold preb_252
  have e0 : (0 : Int) ≤ hV H1 285 64 ∧ hV H1 285 64 ≤ 20 := f18.1.2.2 285 64 _ _ (by decide +kernel)
  have e1 : (0 : Int) ≤ hV H1 285 65 ∧ hV H1 285 65 ≤ 2147483647 := f18.1.2.2 285 65 _ _ (by decide +kernel)
  have k0 := g4.1
  have k1 := g4.2.1
  have k2 := g4.2.2.1
  have k3 := g4.2.2.2.1
  have y0 := g4.2.2.2.2.1
  have y1 := g4.2.2.2.2.2.1
  have y2 := g4.2.2.2.2.2.2.1
  have y3 := g4.2.2.2.2.2.2.2.1
  have y4 := g4.2.2.2.2.2.2.2.2.1
  have y5 := g4.2.2.2.2.2.2.2.2.2.1
  have y6 := g4.2.2.2.2.2.2.2.2.2.2.1
  have y7 := g4.2.2.2.2.2.2.2.2.2.2.2.1
  have y8 := g4.2.2.2.2.2.2.2.2.2.2.2.2.1
  have y9 := g4.2.2.2.2.2.2.2.2.2.2.2.2.2
  have p0 := g3.1
  have p1 := g3.2.1
  have p2 := g3.2.2.1
  have p3 := g3.2.2.2
  clear g3
  clear g4
  try subst k3
  try subst k2
  try subst k1
  try subst k0
  refine ⟨?_, ?_, ?_, ?_, ?_, ?_, ?_, ?_⟩ <;> first | assumption | omega | trivial
def g_253_85_4 : vG := ([(0, [10], [], -1), (5000, [0, 1, 2, 3, 4, 5, 6, 7, 8, 9], [0, 1], 85), (0, [0], [], 285), (90, [1], [], -2147483648), (91, [1], [], 2147483647), (90, [2], [], -2147483648), (91, [2], [], 2147483647), (90, [3], [], -2147483648), (91, [3], [], 2147483647), (90, [4], [], -2147483648), (91, [4], [], 2147483647), (0, [5], [], 285), (90, [6], [], -2147483648), (91, [6], [], 2147483647), (90, [7], [], -2147483648), (91, [7], [], 2147483647), (90, [8], [], -2147483648), (91, [8], [], 2147483647), (90, [9], [], -2147483648), (91, [9], [], 2147483647)], (2252, [5, 6, 7, 8, 9, 10], [1], 0))
theorem c_253_85_4 {q0 : Nat} : vOkm T0 (eP e_253 L_253 A_253 mu_253 (some q0)) 5 g_253_85_4 := vOk_in fun ρ η h => by
  obtain ⟨f0, f1, f2, f3, f4, f5, f6, f7, f8, f9, f10, f11, f12, f13, f14, f15, f16, f17, f18, f19, _⟩ := h
  exact q_253_22 (q0 := q0) (n0 := ρ 9) (n1 := ρ 8) (n2 := ρ 7) (n3 := ρ 6) (n4 := ρ 5) (n5 := ρ 4) (n6 := ρ 3) (n7 := ρ 2) (n8 := ρ 1) (n9 := ρ 0) (n10 := ρ 10) (H0 := η 0) (H1 := η 1) f19 f18 f17 f16 f15 f14 f13 f12 f11 f10 f9 f8 f7 f6 f5 f4 f3 f2 f1 f0
theorem q_253_23 {q0 : Nat} {n0 n1 n2 n3 n4 n5 n6 n7 n8 n9 n10 n11 : Int} {H0 H1 H2 : gH} (f0 : n0 ≤ 2147483647) (f1 : (-2147483648) ≤ n0) (f2 : n1 ≤ 2147483647) (f3 : (-2147483648) ≤ n1) (f4 : n2 ≤ 2147483647) (f5 : (-2147483648) ≤ n2) (f6 : n3 ≤ 2147483647) (f7 : (-2147483648) ≤ n3) (f8 : n4 = 285) (f9 : n5 ≤ 2147483647) (f10 : (-2147483648) ≤ n5) (f11 : n6 ≤ 2147483647) (f12 : (-2147483648) ≤ n6) (f13 : n7 ≤ 2147483647) (f14 : (-2147483648) ≤ n7) (f15 : n8 ≤ 2147483647) (f16 : (-2147483648) ≤ n8) (f17 : n9 = 285) (f18 : (hLe T0 H0 H1 ∧ hFr s_253.2.2.2.2 H0 H1 ∧ hWt T0 H1) ∧ (Ab_253_85 n9 n8 n7 n6 n5 n4 n3 n2 n1 n0 H0 H1 ∧ preb_253 n9 n8 n7 n6 n5 H0) ∧ some q0 = some (mub_253_85 n9 n8 n7 n6 n5 n4 n3 n2 n1 n0 H0 H1)) (f19 : n10 = (-1)) (f20 : n11 ≤ 2147483647) (f21 : (-2147483648) ≤ n11) (f22 : (hLe T0 H1 H2 ∧ hFr s_252.2.2.2.2 H1 H2 ∧ ((0 : Int) = 0 → H2.length = H1.length) ∧ hWt T0 H2) ∧ postb_252 n11 n4 n3 n2 n1 n0 n10 H1 H2) : postb_253 n11 n9 n8 n7 n6 n5 H0 H2 := by
  have g4 := f18.2.1.1
  unfold Ab_253_85 at g4
  have g3 := f18.2.1.2
  unfold preb_253 at g3
  unfold postb_252 at f22
  unfold postb_253
  have e0 : (0 : Int) ≤ hV H1 285 64 ∧ hV H1 285 64 ≤ 20 := f18.1.2.2 285 64 _ _ (by decide +kernel)
  have e1 : (0 : Int) ≤ hV H1 285 65 ∧ hV H1 285 65 ≤ 2147483647 := f18.1.2.2 285 65 _ _ (by decide +kernel)
  have e2 : (0 : Int) ≤ hV H2 285 64 ∧ hV H2 285 64 ≤ 20 := f22.1.2.2.2 285 64 _ _ (by decide +kernel)
  have e3 : (0 : Int) ≤ hV H2 285 65 ∧ hV H2 285 65 ≤ 2147483647 := f22.1.2.2.2 285 65 _ _ (by decide +kernel)
  have k0 := g4.1
  have k1 := g4.2.1
  have k2 := g4.2.2.1
  have k3 := g4.2.2.2.1
  have y0 := g4.2.2.2.2.1
  have y1 := g4.2.2.2.2.2.1
  have y2 := g4.2.2.2.2.2.2.1
  have y3 := g4.2.2.2.2.2.2.2.1
  have y4 := g4.2.2.2.2.2.2.2.2.1
  have y5 := g4.2.2.2.2.2.2.2.2.2.1
  have y6 := g4.2.2.2.2.2.2.2.2.2.2.1
  have y7 := g4.2.2.2.2.2.2.2.2.2.2.2.1
  have y8 := g4.2.2.2.2.2.2.2.2.2.2.2.2.1
  have y9 := g4.2.2.2.2.2.2.2.2.2.2.2.2.2
  have p0 := g3.1
  have p1 := g3.2.1
  have p2 := g3.2.2.1
  have p3 := g3.2.2.2
  have r0_0 := f22.2.1
  have r0_1 := f22.2.2.1
  have r0_2 := f22.2.2.2.1
  have r0_3 := f22.2.2.2.2.1
  have r0_4 := f22.2.2.2.2.2.1
  have r0_5 := f22.2.2.2.2.2.2
  clear g3
  clear g4
  try subst k3
  try subst k2
  try subst k1
  try subst k0
  refine ⟨?_, ?_, ?_, ?_⟩ <;> first | assumption | omega | trivial
def g_253_85_5 : vG := ([(1252, [11, 5, 6, 7, 8, 9, 10], [1, 2], 0), (90, [11], [], -2147483648), (91, [11], [], 2147483647), (0, [10], [], -1), (5000, [0, 1, 2, 3, 4, 5, 6, 7, 8, 9], [0, 1], 85), (0, [0], [], 285), (90, [1], [], -2147483648), (91, [1], [], 2147483647), (90, [2], [], -2147483648), (91, [2], [], 2147483647), (90, [3], [], -2147483648), (91, [3], [], 2147483647), (90, [4], [], -2147483648), (91, [4], [], 2147483647), (0, [5], [], 285), (90, [6], [], -2147483648), (91, [6], [], 2147483647), (90, [7], [], -2147483648), (91, [7], [], 2147483647), (90, [8], [], -2147483648), (91, [8], [], 2147483647), (90, [9], [], -2147483648), (91, [9], [], 2147483647)], (3000, [11], [2], 95))
theorem c_253_85_5 {q0 : Nat} : vOkm T0 (eP e_253 L_253 A_253 mu_253 (some q0)) 5 g_253_85_5 := vOk_in fun ρ η h => by
  obtain ⟨f0, f1, f2, f3, f4, f5, f6, f7, f8, f9, f10, f11, f12, f13, f14, f15, f16, f17, f18, f19, f20, f21, f22, _⟩ := h
  exact q_253_23 (q0 := q0) (n0 := ρ 9) (n1 := ρ 8) (n2 := ρ 7) (n3 := ρ 6) (n4 := ρ 5) (n5 := ρ 4) (n6 := ρ 3) (n7 := ρ 2) (n8 := ρ 1) (n9 := ρ 0) (n10 := ρ 10) (n11 := ρ 11) (H0 := η 0) (H1 := η 1) (H2 := η 2) f22 f21 f20 f19 f18 f17 f16 f15 f14 f13 f12 f11 f10 f9 f8 f7 f6 f5 f4 f3 f2 f1 f0
def p_253_85 : List vG := [g_253_85_0,
  g_253_85_1,
  g_253_85_2,
  g_253_85_3,
  g_253_85_4,
  g_253_85_5]
theorem r_253_85 : vCovO false (eRc e_253 L_253 cs_253 2000 (85, [(0, (3, 12, 285, 0)), (1, (0, -2147483648, 2147483647, 0)), (2, (0, -2147483648, 2147483647, 0)), (3, (0, -2147483648, 2147483647, 0)), (4, (0, -2147483648, 2147483647, 0))])) p_253_85 = true := by decide +kernel
theorem m_253 (d : Nat) : eC e_253 (d + 2) := eC_ok (e := e_253) (L := L_253) (cs := cs_253) (n := 2000) (d := d + 1) (A := A_253) (μ := mu_253) (tp := false) (p0 := p_253_s) rfl ⟨m_251 d, ⟨m_252 d, trivial⟩⟩ rfl (.inl rfl) (by decide +kernel) (fun z => nomatch z) r_253_s (allC c_253_s_0 (allC c_253_s_1 (allC c_253_s_2 (allC c_253_s_3 (allC c_253_s_4 allN))))) (allC (.inl ⟨p_253_36, r_253_36, fun q0 => (allC c_253_36_0 (allC c_253_36_1 (allC c_253_36_2 (allC c_253_36_3 (allC c_253_36_4 (allC c_253_36_5 (allC c_253_36_6 (allC c_253_36_7 (allC c_253_36_8 (allC c_253_36_9 (allC c_253_36_10 (allC c_253_36_11 (allC c_253_36_12 allN)))))))))))))⟩) (allC (.inl ⟨p_253_85, r_253_85, fun q0 => (allC c_253_85_0 (allC c_253_85_1 (allC c_253_85_2 (allC c_253_85_3 (allC c_253_85_4 (allC c_253_85_5 allN))))))⟩) allN))
/- MixStageModel.trim (III)I -/
noncomputable def s_254 : vM := ([(3, 12, 285, 0), (0, -2147483648, 2147483647, 0), (0, -2147483648, 2147483647, 0), (0, -2147483648, 2147483647, 0)], (0, -2147483648, 2147483647, 0), 1, 0, [(12, 64), (12, 65), (452, 0), (460, 0), (468, 0), (476, 0), (484, 0), (492, 0), (500, 0), (508, 0), (516, 0), (532, 0)])
def preb_254 (a0 a1 a2 a3 : Int) (h : gH) : Prop := hV h 285 65 ≤ 20000 ∧ SO h ∧ SS h ∧ AC h
def pre_254 : List Int → gH → Prop := fun xs h => match xs with
  | [a0, a1, a2, a3] => preb_254 a0 a1 a2 a3 h
  | _ => False
def postb_254 (r a0 a1 a2 a3 : Int) (h0 h : gH) : Prop := SO h ∧ SS h ∧ hV h 285 65 ≤ hV h0 285 65 + 1 ∧ AC h
def post_254 : List Int → gH → gH → Prop := fun xs h0 h => match xs with
  | [r, a0, a1, a2, a3] => postb_254 r a0 a1 a2 a3 h0 h
  | _ => True
noncomputable def e_254 : vE := (254, s_254, pre_254, post_254)
noncomputable def L_254 : List vE := [e_250, e_252]
def cs_254 : List vC := []
def A_254 : Int → List Int → gH → gH → Prop := fun c xs h0 h => True
def mu_254 : Int → List Int → gH → gH → Nat := fun c xs h0 h => 0
theorem q_254_0 {n0 n1 n2 n3 n4 n5 n6 : Int} {H0 : gH} (f0 : n0 ≤ 2147483647) (f1 : (-2147483648) ≤ n0) (f2 : n1 ≤ 2147483647) (f3 : (-2147483648) ≤ n1) (f4 : n2 ≤ 2147483647) (f5 : (-2147483648) ≤ n2) (f6 : n3 = 285) (f7 : hWt T0 H0 ∧ preb_254 n3 n2 n1 n0 H0) (f8 : n4 ≤ 20) (f9 : 0 ≤ n4) (f10 : n4 = hV H0 (n3).toNat 64) (f11 : n5 = 20) (f12 : n4 = n5) (f13 : n6 = (-1)) : postb_254 n6 n3 n2 n1 n0 H0 H0 := by
  unfold preb_254 at f7
  unfold postb_254
  have e0 : n4 = hV H0 285 64 := (by rw [f6] at f10; exact f10 : n4 = hV H0 285 64)
  have e1 : (0 : Int) ≤ hV H0 285 65 ∧ hV H0 285 65 ≤ 2147483647 := f7.1 285 65 _ _ (by decide +kernel)
  have p0 := f7.2.1
  have p1 := f7.2.2.1
  have p2 := f7.2.2.2.1
  have p3 := f7.2.2.2.2
  clear f10
  subst e0
  refine ⟨?_, ?_, ?_, ?_⟩ <;> first | assumption | omega | trivial
def g_254_s_0 : vG := ([(0, [6], [], -1), (40, [4, 5], [], 0), (0, [5], [], 20), (20, [4, 0], [0], 64), (90, [4], [], 0), (91, [4], [], 20), (6000, [0, 1, 2, 3], [0], 0), (0, [0], [], 285), (90, [1], [], -2147483648), (91, [1], [], 2147483647), (90, [2], [], -2147483648), (91, [2], [], 2147483647), (90, [3], [], -2147483648), (91, [3], [], 2147483647)], (3000, [6], [0], 46))
theorem c_254_s_0 : vOkm T0 (eP e_254 L_254 A_254 mu_254 none) 4 g_254_s_0 := vOk_in fun ρ η h => by
  obtain ⟨f0, f1, f2, f3, f4, f5, f6, f7, f8, f9, f10, f11, f12, f13, _⟩ := h
  exact q_254_0 (n0 := ρ 3) (n1 := ρ 2) (n2 := ρ 1) (n3 := ρ 0) (n4 := ρ 4) (n5 := ρ 5) (n6 := ρ 6) (H0 := η 0) f13 f12 f11 f10 f9 f8 f7 f6 f5 f4 f3 f2 f1 f0
theorem q_254_1 {n0 n1 n2 n3 n4 n5 n6 n7 : Int} {H0 H1 : gH} (f0 : n0 ≤ 2147483647) (f1 : (-2147483648) ≤ n0) (f2 : n1 ≤ 2147483647) (f3 : (-2147483648) ≤ n1) (f4 : n2 ≤ 2147483647) (f5 : (-2147483648) ≤ n2) (f6 : n3 = 285) (f7 : hWt T0 H0 ∧ preb_254 n3 n2 n1 n0 H0) (f8 : n4 ≤ 20) (f9 : 0 ≤ n4) (f10 : n4 = hV H0 (n3).toNat 64) (f11 : n5 = 20) (f12 : n4 ≠ n5) (f13 : n6 ≤ 1) (f14 : 0 ≤ n6) (f15 : (hLe T0 H0 H1 ∧ hFr s_250.2.2.2.2 H0 H1 ∧ ((0 : Int) = 0 → H1.length = H0.length) ∧ hWt T0 H1) ∧ postb_250 n6 n3 n2 H0 H1) (f16 : n6 = 0) (f17 : n7 = (-1)) : postb_254 n7 n3 n2 n1 n0 H0 H1 := by
  unfold preb_254 at f7
  unfold postb_250 at f15
  unfold postb_254
  have e0 : n4 = hV H0 285 64 := (by rw [f6] at f10; exact f10 : n4 = hV H0 285 64)
  have e1 : hV H1 285 64 = hV H0 285 64 := f15.1.2.1.1 285 64 (by decide +kernel)
  have e2 : hV H1 285 64 = hV H0 285 64 := e1
  have e3 : hV H1 285 65 = hV H0 285 65 := f15.1.2.1.1 285 65 (by decide +kernel)
  have e4 : hV H1 285 65 = hV H0 285 65 := e3
  have e5 : AC H1 = AC H0 := AC_fr f15.1.2.1 (by decide +kernel)
  have e6 : SO H1 = SO H0 := SO_fr f15.1.2.1 (by decide +kernel)
  have e7 : SS H1 = SS H0 := SS_fr f15.1.2.1 (by decide +kernel)
  have e8 : (0 : Int) ≤ hV H0 285 65 ∧ hV H0 285 65 ≤ 2147483647 := f7.1 285 65 _ _ (by decide +kernel)
  have e9 : (0 : Int) ≤ hV H1 285 64 ∧ hV H1 285 64 ≤ 20 := f15.1.2.2.2 285 64 _ _ (by decide +kernel)
  have e10 : (0 : Int) ≤ hV H0 285 64 ∧ hV H0 285 64 ≤ 20 := f7.1 285 64 _ _ (by decide +kernel)
  have e11 : (0 : Int) ≤ hV H1 285 65 ∧ hV H1 285 65 ≤ 2147483647 := f15.1.2.2.2 285 65 _ _ (by decide +kernel)
  try simp only [e2, e4, e5, e6, e7] at f7
  try simp only [e2, e4, e5, e6, e7] at f15
  try simp only [e2, e4, e5, e6, e7] at e8
  try simp only [e2, e4, e5, e6, e7] at e9
  try simp only [e2, e4, e5, e6, e7] at e10
  try simp only [e2, e4, e5, e6, e7] at e11
  try simp only [e2, e4, e5, e6, e7]
  have p0 := f7.2.1
  have p1 := f7.2.2.1
  have p2 := f7.2.2.2.1
  have p3 := f7.2.2.2.2
  have r0_0 := f15.2
  try simp only [e2, e4, e5, e6, e7] at p0
  try simp only [e2, e4, e5, e6, e7] at p1
  try simp only [e2, e4, e5, e6, e7] at p2
  try simp only [e2, e4, e5, e6, e7] at p3
  try simp only [e2, e4, e5, e6, e7] at r0_0
  clear f10 e1 e2 e3 e4 e5 e6 e7
  subst e0
  refine ⟨?_, ?_, ?_, ?_⟩ <;> first | assumption | omega | trivial
def g_254_s_1 : vG := ([(0, [7], [], -1), (30, [6], [], 0), (1250, [6, 0, 1], [0, 1], 0), (90, [6], [], 0), (91, [6], [], 1), (41, [4, 5], [], 0), (0, [5], [], 20), (20, [4, 0], [0], 64), (90, [4], [], 0), (91, [4], [], 20), (6000, [0, 1, 2, 3], [0], 0), (0, [0], [], 285), (90, [1], [], -2147483648), (91, [1], [], 2147483647), (90, [2], [], -2147483648), (91, [2], [], 2147483647), (90, [3], [], -2147483648), (91, [3], [], 2147483647)], (3000, [7], [1], 46))
theorem c_254_s_1 : vOkm T0 (eP e_254 L_254 A_254 mu_254 none) 4 g_254_s_1 := vOk_in fun ρ η h => by
  obtain ⟨f0, f1, f2, f3, f4, f5, f6, f7, f8, f9, f10, f11, f12, f13, f14, f15, f16, f17, _⟩ := h
  exact q_254_1 (n0 := ρ 3) (n1 := ρ 2) (n2 := ρ 1) (n3 := ρ 0) (n4 := ρ 4) (n5 := ρ 5) (n6 := ρ 6) (n7 := ρ 7) (H0 := η 0) (H1 := η 1) f17 f16 f15 f14 f13 f12 f11 f10 f9 f8 f7 f6 f5 f4 f3 f2 f1 f0
theorem q_254_2 {n0 n1 n2 n3 n4 n5 n6 n7 : Int} {H0 H1 : gH} (f0 : n0 ≤ 2147483647) (f1 : (-2147483648) ≤ n0) (f2 : n1 ≤ 2147483647) (f3 : (-2147483648) ≤ n1) (f4 : n2 ≤ 2147483647) (f5 : (-2147483648) ≤ n2) (f6 : n3 = 285) (f7 : hWt T0 H0 ∧ preb_254 n3 n2 n1 n0 H0) (f8 : n4 ≤ 20) (f9 : 0 ≤ n4) (f10 : n4 = hV H0 (n3).toNat 64) (f11 : n5 = 20) (f12 : n4 ≠ n5) (f13 : n6 ≤ 1) (f14 : 0 ≤ n6) (f15 : (hLe T0 H0 H1 ∧ hFr s_250.2.2.2.2 H0 H1 ∧ ((0 : Int) = 0 → H1.length = H0.length) ∧ hWt T0 H1) ∧ postb_250 n6 n3 n2 H0 H1) (f16 : n6 ≠ 0) (f17 : n1 < 0) (f18 : n7 = (-1)) : postb_254 n7 n3 n2 n1 n0 H0 H1 := by
  unfold preb_254 at f7
  unfold postb_250 at f15
  unfold postb_254
  have e0 : n4 = hV H0 285 64 := (by rw [f6] at f10; exact f10 : n4 = hV H0 285 64)
  have e1 : hV H1 285 64 = hV H0 285 64 := f15.1.2.1.1 285 64 (by decide +kernel)
  have e2 : hV H1 285 64 = hV H0 285 64 := e1
  have e3 : hV H1 285 65 = hV H0 285 65 := f15.1.2.1.1 285 65 (by decide +kernel)
  have e4 : hV H1 285 65 = hV H0 285 65 := e3
  have e5 : AC H1 = AC H0 := AC_fr f15.1.2.1 (by decide +kernel)
  have e6 : SO H1 = SO H0 := SO_fr f15.1.2.1 (by decide +kernel)
  have e7 : SS H1 = SS H0 := SS_fr f15.1.2.1 (by decide +kernel)
  have e8 : (0 : Int) ≤ hV H0 285 65 ∧ hV H0 285 65 ≤ 2147483647 := f7.1 285 65 _ _ (by decide +kernel)
  have e9 : (0 : Int) ≤ hV H1 285 64 ∧ hV H1 285 64 ≤ 20 := f15.1.2.2.2 285 64 _ _ (by decide +kernel)
  have e10 : (0 : Int) ≤ hV H0 285 64 ∧ hV H0 285 64 ≤ 20 := f7.1 285 64 _ _ (by decide +kernel)
  have e11 : (0 : Int) ≤ hV H1 285 65 ∧ hV H1 285 65 ≤ 2147483647 := f15.1.2.2.2 285 65 _ _ (by decide +kernel)
  try simp only [e2, e4, e5, e6, e7] at f7
  try simp only [e2, e4, e5, e6, e7] at f15
  try simp only [e2, e4, e5, e6, e7] at e8
  try simp only [e2, e4, e5, e6, e7] at e9
  try simp only [e2, e4, e5, e6, e7] at e10
  try simp only [e2, e4, e5, e6, e7] at e11
  try simp only [e2, e4, e5, e6, e7]
  have p0 := f7.2.1
  have p1 := f7.2.2.1
  have p2 := f7.2.2.2.1
  have p3 := f7.2.2.2.2
  have r0_0 := f15.2
  try simp only [e2, e4, e5, e6, e7] at p0
  try simp only [e2, e4, e5, e6, e7] at p1
  try simp only [e2, e4, e5, e6, e7] at p2
  try simp only [e2, e4, e5, e6, e7] at p3
  try simp only [e2, e4, e5, e6, e7] at r0_0
  clear f10 e1 e2 e3 e4 e5 e6 e7
  subst e0
  refine ⟨?_, ?_, ?_, ?_⟩ <;> first | assumption | omega | trivial
def g_254_s_2 : vG := ([(0, [7], [], -1), (32, [2], [], 0), (31, [6], [], 0), (1250, [6, 0, 1], [0, 1], 0), (90, [6], [], 0), (91, [6], [], 1), (41, [4, 5], [], 0), (0, [5], [], 20), (20, [4, 0], [0], 64), (90, [4], [], 0), (91, [4], [], 20), (6000, [0, 1, 2, 3], [0], 0), (0, [0], [], 285), (90, [1], [], -2147483648), (91, [1], [], 2147483647), (90, [2], [], -2147483648), (91, [2], [], 2147483647), (90, [3], [], -2147483648), (91, [3], [], 2147483647)], (3000, [7], [1], 46))
theorem c_254_s_2 : vOkm T0 (eP e_254 L_254 A_254 mu_254 none) 4 g_254_s_2 := vOk_in fun ρ η h => by
  obtain ⟨f0, f1, f2, f3, f4, f5, f6, f7, f8, f9, f10, f11, f12, f13, f14, f15, f16, f17, f18, _⟩ := h
  exact q_254_2 (n0 := ρ 3) (n1 := ρ 2) (n2 := ρ 1) (n3 := ρ 0) (n4 := ρ 4) (n5 := ρ 5) (n6 := ρ 6) (n7 := ρ 7) (H0 := η 0) (H1 := η 1) f18 f17 f16 f15 f14 f13 f12 f11 f10 f9 f8 f7 f6 f5 f4 f3 f2 f1 f0
theorem q_254_3 {n0 n1 n2 n3 n4 n5 n6 n7 : Int} {H0 H1 : gH} (f0 : n0 ≤ 2147483647) (f1 : (-2147483648) ≤ n0) (f2 : n1 ≤ 2147483647) (f3 : (-2147483648) ≤ n1) (f4 : n2 ≤ 2147483647) (f5 : (-2147483648) ≤ n2) (f6 : n3 = 285) (f7 : hWt T0 H0 ∧ preb_254 n3 n2 n1 n0 H0) (f8 : n4 ≤ 20) (f9 : 0 ≤ n4) (f10 : n4 = hV H0 (n3).toNat 64) (f11 : n5 = 20) (f12 : n4 ≠ n5) (f13 : n6 ≤ 1) (f14 : 0 ≤ n6) (f15 : (hLe T0 H0 H1 ∧ hFr s_250.2.2.2.2 H0 H1 ∧ ((0 : Int) = 0 → H1.length = H0.length) ∧ hWt T0 H1) ∧ postb_250 n6 n3 n2 H0 H1) (f16 : n6 ≠ 0) (f17 : 0 ≤ n1) (f18 : n0 ≤ n1) (f19 : n7 = (-1)) : postb_254 n7 n3 n2 n1 n0 H0 H1 := by
  unfold preb_254 at f7
  unfold postb_250 at f15
  unfold postb_254
  have e0 : n4 = hV H0 285 64 := (by rw [f6] at f10; exact f10 : n4 = hV H0 285 64)
  have e1 : hV H1 285 64 = hV H0 285 64 := f15.1.2.1.1 285 64 (by decide +kernel)
  have e2 : hV H1 285 64 = hV H0 285 64 := e1
  have e3 : hV H1 285 65 = hV H0 285 65 := f15.1.2.1.1 285 65 (by decide +kernel)
  have e4 : hV H1 285 65 = hV H0 285 65 := e3
  have e5 : AC H1 = AC H0 := AC_fr f15.1.2.1 (by decide +kernel)
  have e6 : SO H1 = SO H0 := SO_fr f15.1.2.1 (by decide +kernel)
  have e7 : SS H1 = SS H0 := SS_fr f15.1.2.1 (by decide +kernel)
  have e8 : (0 : Int) ≤ hV H0 285 65 ∧ hV H0 285 65 ≤ 2147483647 := f7.1 285 65 _ _ (by decide +kernel)
  have e9 : (0 : Int) ≤ hV H1 285 64 ∧ hV H1 285 64 ≤ 20 := f15.1.2.2.2 285 64 _ _ (by decide +kernel)
  have e10 : (0 : Int) ≤ hV H0 285 64 ∧ hV H0 285 64 ≤ 20 := f7.1 285 64 _ _ (by decide +kernel)
  have e11 : (0 : Int) ≤ hV H1 285 65 ∧ hV H1 285 65 ≤ 2147483647 := f15.1.2.2.2 285 65 _ _ (by decide +kernel)
  try simp only [e2, e4, e5, e6, e7] at f7
  try simp only [e2, e4, e5, e6, e7] at f15
  try simp only [e2, e4, e5, e6, e7] at e8
  try simp only [e2, e4, e5, e6, e7] at e9
  try simp only [e2, e4, e5, e6, e7] at e10
  try simp only [e2, e4, e5, e6, e7] at e11
  try simp only [e2, e4, e5, e6, e7]
  have p0 := f7.2.1
  have p1 := f7.2.2.1
  have p2 := f7.2.2.2.1
  have p3 := f7.2.2.2.2
  have r0_0 := f15.2
  try simp only [e2, e4, e5, e6, e7] at p0
  try simp only [e2, e4, e5, e6, e7] at p1
  try simp only [e2, e4, e5, e6, e7] at p2
  try simp only [e2, e4, e5, e6, e7] at p3
  try simp only [e2, e4, e5, e6, e7] at r0_0
  clear f10 e1 e2 e3 e4 e5 e6 e7
  subst e0
  refine ⟨?_, ?_, ?_, ?_⟩ <;> first | assumption | omega | trivial
def g_254_s_3 : vG := ([(0, [7], [], -1), (43, [2, 3], [], 0), (33, [2], [], 0), (31, [6], [], 0), (1250, [6, 0, 1], [0, 1], 0), (90, [6], [], 0), (91, [6], [], 1), (41, [4, 5], [], 0), (0, [5], [], 20), (20, [4, 0], [0], 64), (90, [4], [], 0), (91, [4], [], 20), (6000, [0, 1, 2, 3], [0], 0), (0, [0], [], 285), (90, [1], [], -2147483648), (91, [1], [], 2147483647), (90, [2], [], -2147483648), (91, [2], [], 2147483647), (90, [3], [], -2147483648), (91, [3], [], 2147483647)], (3000, [7], [1], 46))
theorem c_254_s_3 : vOkm T0 (eP e_254 L_254 A_254 mu_254 none) 4 g_254_s_3 := vOk_in fun ρ η h => by
  obtain ⟨f0, f1, f2, f3, f4, f5, f6, f7, f8, f9, f10, f11, f12, f13, f14, f15, f16, f17, f18, f19, _⟩ := h
  exact q_254_3 (n0 := ρ 3) (n1 := ρ 2) (n2 := ρ 1) (n3 := ρ 0) (n4 := ρ 4) (n5 := ρ 5) (n6 := ρ 6) (n7 := ρ 7) (H0 := η 0) (H1 := η 1) f19 f18 f17 f16 f15 f14 f13 f12 f11 f10 f9 f8 f7 f6 f5 f4 f3 f2 f1 f0
theorem q_254_4 {n0 n1 n2 : Int} {H0 H1 : gH} (f0 : n0 = 285) (f1 : (hLe T0 H0 H1 ∧ hFr s_250.2.2.2.2 H0 H1 ∧ ((0 : Int) = 0 → H1.length = H0.length) ∧ hWt T0 H1) ∧ postb_250 n1 n0 n2 H0 H1) (f2 : n1 ≠ 0) : (-1) ≤ n2 := by
  unfold postb_250 at f1
  have e0 : hV H1 285 64 = hV H0 285 64 := f1.1.2.1.1 285 64 (by decide +kernel)
  have e1 : hV H1 285 64 = hV H0 285 64 := e0
  have e2 : (0 : Int) ≤ hV H1 285 64 ∧ hV H1 285 64 ≤ 20 := f1.1.2.2.2 285 64 _ _ (by decide +kernel)
  try simp only [e1] at f1
  try simp only [e1] at e2
  try simp only [e1]
  have r0_0 := f1.2
  try simp only [e1] at r0_0
  clear e0 e1
  omega
def g_254_s_4 : vG := ([(31, [6], [], 0), (1250, [6, 0, 1], [0, 1], 0), (0, [0], [], 285)], (90, [1], [], -1))
theorem c_254_s_4 : vOkm T0 (eP e_254 L_254 A_254 mu_254 none) 4 g_254_s_4 := vOk_in fun ρ η h => by
  obtain ⟨f0, f1, f2, _⟩ := h
  exact q_254_4 (n0 := ρ 0) (n1 := ρ 6) (n2 := ρ 1) (H0 := η 0) (H1 := η 1) f2 f1 f0
theorem q_254_5 {n0 n1 n2 n3 : Int} {H0 H1 : gH} (f0 : n0 = 285) (f1 : n1 ≤ 20) (f2 : n1 = hV H0 (n0).toNat 64) (f3 : (hLe T0 H0 H1 ∧ hFr s_250.2.2.2.2 H0 H1 ∧ ((0 : Int) = 0 → H1.length = H0.length) ∧ hWt T0 H1) ∧ postb_250 n2 n0 n3 H0 H1) (f4 : n2 ≠ 0) : n3 ≤ 19 := by
  unfold postb_250 at f3
  have e0 : n1 = hV H0 285 64 := (by rw [f0] at f2; exact f2 : n1 = hV H0 285 64)
  have e1 : hV H1 285 64 = hV H0 285 64 := f3.1.2.1.1 285 64 (by decide +kernel)
  have e2 : hV H1 285 64 = hV H0 285 64 := e1
  have e3 : (0 : Int) ≤ hV H1 285 64 ∧ hV H1 285 64 ≤ 20 := f3.1.2.2.2 285 64 _ _ (by decide +kernel)
  try simp only [e2] at f3
  try simp only [e2] at e3
  try simp only [e2]
  have r0_0 := f3.2
  try simp only [e2] at r0_0
  clear f2 e1 e2
  subst e0
  omega
def g_254_s_5 : vG := ([(31, [6], [], 0), (1250, [6, 0, 1], [0, 1], 0), (20, [4, 0], [0], 64), (91, [4], [], 20), (0, [0], [], 285)], (91, [1], [], 19))
theorem c_254_s_5 : vOkm T0 (eP e_254 L_254 A_254 mu_254 none) 4 g_254_s_5 := vOk_in fun ρ η h => by
  obtain ⟨f0, f1, f2, f3, f4, _⟩ := h
  exact q_254_5 (n0 := ρ 0) (n1 := ρ 4) (n2 := ρ 6) (n3 := ρ 1) (H0 := η 0) (H1 := η 1) f4 f3 f2 f1 f0
theorem q_254_6 {n0 n1 n2 n3 n4 n5 n6 n7 n8 n9 : Int} {H0 H1 : gH} (f0 : n0 ≤ 2147483647) (f1 : (-2147483648) ≤ n0) (f2 : n1 ≤ 2147483647) (f3 : (-2147483648) ≤ n1) (f4 : n2 ≤ 2147483647) (f5 : (-2147483648) ≤ n2) (f6 : n3 = 285) (f7 : hWt T0 H0 ∧ preb_254 n3 n2 n1 n0 H0) (f8 : n4 ≤ 20) (f9 : 0 ≤ n4) (f10 : n4 = hV H0 (n3).toNat 64) (f11 : n5 = 20) (f12 : n4 ≠ n5) (f13 : n6 ≤ 1) (f14 : 0 ≤ n6) (f15 : (hLe T0 H0 H1 ∧ hFr s_250.2.2.2.2 H0 H1 ∧ ((0 : Int) = 0 → H1.length = H0.length) ∧ hWt T0 H1) ∧ postb_250 n6 n3 n2 H0 H1) (f16 : n6 ≠ 0) (f17 : 0 ≤ n1) (f18 : n1 < n0) (f19 : n7 = 240) (f20 : n0 ≤ n7) (f21 : n8 = 4) (f22 : n9 = 0) : preb_252 n3 n8 n9 n1 n0 n2 H1 := by
  unfold preb_254 at f7
  unfold postb_250 at f15
  unfold preb_252
  have e0 : n4 = hV H0 285 64 := (by rw [f6] at f10; exact f10 : n4 = hV H0 285 64)
  have e1 : hV H1 285 64 = hV H0 285 64 := f15.1.2.1.1 285 64 (by decide +kernel)
  have e2 : hV H1 285 64 = hV H0 285 64 := e1
  have e3 : hV H1 285 65 = hV H0 285 65 := f15.1.2.1.1 285 65 (by decide +kernel)
  have e4 : hV H1 285 65 = hV H0 285 65 := e3
  have e5 : AC H1 = AC H0 := AC_fr f15.1.2.1 (by decide +kernel)
  have e6 : SO H1 = SO H0 := SO_fr f15.1.2.1 (by decide +kernel)
  have e7 : SS H1 = SS H0 := SS_fr f15.1.2.1 (by decide +kernel)
  have e8 : (0 : Int) ≤ hV H0 285 65 ∧ hV H0 285 65 ≤ 2147483647 := f7.1 285 65 _ _ (by decide +kernel)
  have e9 : (0 : Int) ≤ hV H1 285 64 ∧ hV H1 285 64 ≤ 20 := f15.1.2.2.2 285 64 _ _ (by decide +kernel)
  have e10 : (0 : Int) ≤ hV H0 285 64 ∧ hV H0 285 64 ≤ 20 := f7.1 285 64 _ _ (by decide +kernel)
  have e11 : (0 : Int) ≤ hV H1 285 65 ∧ hV H1 285 65 ≤ 2147483647 := f15.1.2.2.2 285 65 _ _ (by decide +kernel)
  try simp only [e2, e4, e5, e6, e7] at f7
  try simp only [e2, e4, e5, e6, e7] at f15
  try simp only [e2, e4, e5, e6, e7] at e8
  try simp only [e2, e4, e5, e6, e7] at e9
  try simp only [e2, e4, e5, e6, e7] at e10
  try simp only [e2, e4, e5, e6, e7] at e11
  try simp only [e2, e4, e5, e6, e7]
  have p0 := f7.2.1
  have p1 := f7.2.2.1
  have p2 := f7.2.2.2.1
  have p3 := f7.2.2.2.2
  have r0_0 := f15.2
  try simp only [e2, e4, e5, e6, e7] at p0
  try simp only [e2, e4, e5, e6, e7] at p1
  try simp only [e2, e4, e5, e6, e7] at p2
  try simp only [e2, e4, e5, e6, e7] at p3
  try simp only [e2, e4, e5, e6, e7] at r0_0
  clear f10 e1 e2 e3 e4 e5 e6 e7
  subst e0
  refine ⟨?_, ?_, ?_, ?_, ?_, ?_, ?_, ?_⟩ <;> first | assumption | omega | trivial
def g_254_s_6 : vG := ([(0, [9], [], 0), (0, [8], [], 4), (45, [3, 7], [], 0), (0, [7], [], 240), (42, [2, 3], [], 0), (33, [2], [], 0), (31, [6], [], 0), (1250, [6, 0, 1], [0, 1], 0), (90, [6], [], 0), (91, [6], [], 1), (41, [4, 5], [], 0), (0, [5], [], 20), (20, [4, 0], [0], 64), (90, [4], [], 0), (91, [4], [], 20), (6000, [0, 1, 2, 3], [0], 0), (0, [0], [], 285), (90, [1], [], -2147483648), (91, [1], [], 2147483647), (90, [2], [], -2147483648), (91, [2], [], 2147483647), (90, [3], [], -2147483648), (91, [3], [], 2147483647)], (2252, [0, 8, 9, 2, 3, 1], [1], 0))
theorem c_254_s_6 : vOkm T0 (eP e_254 L_254 A_254 mu_254 none) 4 g_254_s_6 := vOk_in fun ρ η h => by
  obtain ⟨f0, f1, f2, f3, f4, f5, f6, f7, f8, f9, f10, f11, f12, f13, f14, f15, f16, f17, f18, f19, f20, f21, f22, _⟩ := h
  exact q_254_6 (n0 := ρ 3) (n1 := ρ 2) (n2 := ρ 1) (n3 := ρ 0) (n4 := ρ 4) (n5 := ρ 5) (n6 := ρ 6) (n7 := ρ 7) (n8 := ρ 8) (n9 := ρ 9) (H0 := η 0) (H1 := η 1) f22 f21 f20 f19 f18 f17 f16 f15 f14 f13 f12 f11 f10 f9 f8 f7 f6 f5 f4 f3 f2 f1 f0
theorem q_254_7 {n0 n1 n2 n3 n4 n5 n6 n7 n8 n9 n10 : Int} {H0 H1 H2 : gH} (f0 : n0 ≤ 2147483647) (f1 : (-2147483648) ≤ n0) (f2 : n1 ≤ 2147483647) (f3 : (-2147483648) ≤ n1) (f4 : n2 ≤ 2147483647) (f5 : (-2147483648) ≤ n2) (f6 : n3 = 285) (f7 : hWt T0 H0 ∧ preb_254 n3 n2 n1 n0 H0) (f8 : n4 ≤ 20) (f9 : 0 ≤ n4) (f10 : n4 = hV H0 (n3).toNat 64) (f11 : n5 = 20) (f12 : n4 ≠ n5) (f13 : n6 ≤ 1) (f14 : 0 ≤ n6) (f15 : (hLe T0 H0 H1 ∧ hFr s_250.2.2.2.2 H0 H1 ∧ ((0 : Int) = 0 → H1.length = H0.length) ∧ hWt T0 H1) ∧ postb_250 n6 n3 n2 H0 H1) (f16 : n6 ≠ 0) (f17 : 0 ≤ n1) (f18 : n1 < n0) (f19 : n7 = 240) (f20 : n0 ≤ n7) (f21 : n8 = 4) (f22 : n9 = 0) (f23 : n10 ≤ 2147483647) (f24 : (-2147483648) ≤ n10) (f25 : (hLe T0 H1 H2 ∧ hFr s_252.2.2.2.2 H1 H2 ∧ ((0 : Int) = 0 → H2.length = H1.length) ∧ hWt T0 H2) ∧ postb_252 n10 n3 n8 n9 n1 n0 n2 H1 H2) : postb_254 n10 n3 n2 n1 n0 H0 H2 := by
  unfold preb_254 at f7
  unfold postb_250 at f15
  unfold postb_252 at f25
  unfold postb_254
  have e0 : n4 = hV H0 285 64 := (by rw [f6] at f10; exact f10 : n4 = hV H0 285 64)
  have e1 : hV H1 285 64 = hV H0 285 64 := f15.1.2.1.1 285 64 (by decide +kernel)
  have e2 : hV H1 285 64 = hV H0 285 64 := e1
  have e3 : hV H1 285 65 = hV H0 285 65 := f15.1.2.1.1 285 65 (by decide +kernel)
  have e4 : hV H1 285 65 = hV H0 285 65 := e3
  have e5 : (0 : Int) ≤ hV H0 285 65 ∧ hV H0 285 65 ≤ 2147483647 := f7.1 285 65 _ _ (by decide +kernel)
  have e6 : (0 : Int) ≤ hV H1 285 64 ∧ hV H1 285 64 ≤ 20 := f15.1.2.2.2 285 64 _ _ (by decide +kernel)
  have e7 : (0 : Int) ≤ hV H0 285 64 ∧ hV H0 285 64 ≤ 20 := f7.1 285 64 _ _ (by decide +kernel)
  have e8 : (0 : Int) ≤ hV H1 285 65 ∧ hV H1 285 65 ≤ 2147483647 := f15.1.2.2.2 285 65 _ _ (by decide +kernel)
  have e9 : (0 : Int) ≤ hV H2 285 64 ∧ hV H2 285 64 ≤ 20 := f25.1.2.2.2 285 64 _ _ (by decide +kernel)
  have e10 : (0 : Int) ≤ hV H2 285 65 ∧ hV H2 285 65 ≤ 2147483647 := f25.1.2.2.2 285 65 _ _ (by decide +kernel)
  try simp only [e2, e4] at f7
  try simp only [e2, e4] at f15
  try simp only [e2, e4] at f25
  try simp only [e2, e4] at e5
  try simp only [e2, e4] at e6
  try simp only [e2, e4] at e7
  try simp only [e2, e4] at e8
  try simp only [e2, e4] at e9
  try simp only [e2, e4] at e10
  try simp only [e2, e4]
  have p0 := f7.2.1
  have p1 := f7.2.2.1
  have p2 := f7.2.2.2.1
  have p3 := f7.2.2.2.2
  have r0_0 := f15.2
  have r1_0 := f25.2.1
  have r1_1 := f25.2.2.1
  have r1_2 := f25.2.2.2.1
  have r1_3 := f25.2.2.2.2.1
  have r1_4 := f25.2.2.2.2.2.1
  have r1_5 := f25.2.2.2.2.2.2
  try simp only [e2, e4] at p0
  try simp only [e2, e4] at p1
  try simp only [e2, e4] at p2
  try simp only [e2, e4] at p3
  try simp only [e2, e4] at r0_0
  try simp only [e2, e4] at r1_0
  try simp only [e2, e4] at r1_1
  try simp only [e2, e4] at r1_2
  try simp only [e2, e4] at r1_3
  try simp only [e2, e4] at r1_4
  try simp only [e2, e4] at r1_5
  clear f10 e1 e2 e3 e4
  subst e0
  refine ⟨?_, ?_, ?_, ?_⟩ <;> first | assumption | omega | trivial
def g_254_s_7 : vG := ([(1252, [10, 0, 8, 9, 2, 3, 1], [1, 2], 0), (90, [10], [], -2147483648), (91, [10], [], 2147483647), (0, [9], [], 0), (0, [8], [], 4), (45, [3, 7], [], 0), (0, [7], [], 240), (42, [2, 3], [], 0), (33, [2], [], 0), (31, [6], [], 0), (1250, [6, 0, 1], [0, 1], 0), (90, [6], [], 0), (91, [6], [], 1), (41, [4, 5], [], 0), (0, [5], [], 20), (20, [4, 0], [0], 64), (90, [4], [], 0), (91, [4], [], 20), (6000, [0, 1, 2, 3], [0], 0), (0, [0], [], 285), (90, [1], [], -2147483648), (91, [1], [], 2147483647), (90, [2], [], -2147483648), (91, [2], [], 2147483647), (90, [3], [], -2147483648), (91, [3], [], 2147483647)], (3000, [10], [2], 46))
theorem c_254_s_7 : vOkm T0 (eP e_254 L_254 A_254 mu_254 none) 4 g_254_s_7 := vOk_in fun ρ η h => by
  obtain ⟨f0, f1, f2, f3, f4, f5, f6, f7, f8, f9, f10, f11, f12, f13, f14, f15, f16, f17, f18, f19, f20, f21, f22, f23, f24, f25, _⟩ := h
  exact q_254_7 (n0 := ρ 3) (n1 := ρ 2) (n2 := ρ 1) (n3 := ρ 0) (n4 := ρ 4) (n5 := ρ 5) (n6 := ρ 6) (n7 := ρ 7) (n8 := ρ 8) (n9 := ρ 9) (n10 := ρ 10) (H0 := η 0) (H1 := η 1) (H2 := η 2) f25 f24 f23 f22 f21 f20 f19 f18 f17 f16 f15 f14 f13 f12 f11 f10 f9 f8 f7 f6 f5 f4 f3 f2 f1 f0
theorem q_254_8 {n0 n1 n2 n3 n4 n5 n6 n7 n8 : Int} {H0 H1 : gH} (f0 : n0 ≤ 2147483647) (f1 : (-2147483648) ≤ n0) (f2 : n1 ≤ 2147483647) (f3 : (-2147483648) ≤ n1) (f4 : n2 ≤ 2147483647) (f5 : (-2147483648) ≤ n2) (f6 : n3 = 285) (f7 : hWt T0 H0 ∧ preb_254 n3 n2 n1 n0 H0) (f8 : n4 ≤ 20) (f9 : 0 ≤ n4) (f10 : n4 = hV H0 (n3).toNat 64) (f11 : n5 = 20) (f12 : n4 ≠ n5) (f13 : n6 ≤ 1) (f14 : 0 ≤ n6) (f15 : (hLe T0 H0 H1 ∧ hFr s_250.2.2.2.2 H0 H1 ∧ ((0 : Int) = 0 → H1.length = H0.length) ∧ hWt T0 H1) ∧ postb_250 n6 n3 n2 H0 H1) (f16 : n6 ≠ 0) (f17 : 0 ≤ n1) (f18 : n1 < n0) (f19 : n7 = 240) (f20 : n7 < n0) (f21 : n8 = (-1)) : postb_254 n8 n3 n2 n1 n0 H0 H1 := by
  unfold preb_254 at f7
  unfold postb_250 at f15
  unfold postb_254
  have e0 : n4 = hV H0 285 64 := (by rw [f6] at f10; exact f10 : n4 = hV H0 285 64)
  have e1 : hV H1 285 64 = hV H0 285 64 := f15.1.2.1.1 285 64 (by decide +kernel)
  have e2 : hV H1 285 64 = hV H0 285 64 := e1
  have e3 : hV H1 285 65 = hV H0 285 65 := f15.1.2.1.1 285 65 (by decide +kernel)
  have e4 : hV H1 285 65 = hV H0 285 65 := e3
  have e5 : AC H1 = AC H0 := AC_fr f15.1.2.1 (by decide +kernel)
  have e6 : SO H1 = SO H0 := SO_fr f15.1.2.1 (by decide +kernel)
  have e7 : SS H1 = SS H0 := SS_fr f15.1.2.1 (by decide +kernel)
  have e8 : (0 : Int) ≤ hV H0 285 65 ∧ hV H0 285 65 ≤ 2147483647 := f7.1 285 65 _ _ (by decide +kernel)
  have e9 : (0 : Int) ≤ hV H1 285 64 ∧ hV H1 285 64 ≤ 20 := f15.1.2.2.2 285 64 _ _ (by decide +kernel)
  have e10 : (0 : Int) ≤ hV H0 285 64 ∧ hV H0 285 64 ≤ 20 := f7.1 285 64 _ _ (by decide +kernel)
  have e11 : (0 : Int) ≤ hV H1 285 65 ∧ hV H1 285 65 ≤ 2147483647 := f15.1.2.2.2 285 65 _ _ (by decide +kernel)
  try simp only [e2, e4, e5, e6, e7] at f7
  try simp only [e2, e4, e5, e6, e7] at f15
  try simp only [e2, e4, e5, e6, e7] at e8
  try simp only [e2, e4, e5, e6, e7] at e9
  try simp only [e2, e4, e5, e6, e7] at e10
  try simp only [e2, e4, e5, e6, e7] at e11
  try simp only [e2, e4, e5, e6, e7]
  have p0 := f7.2.1
  have p1 := f7.2.2.1
  have p2 := f7.2.2.2.1
  have p3 := f7.2.2.2.2
  have r0_0 := f15.2
  try simp only [e2, e4, e5, e6, e7] at p0
  try simp only [e2, e4, e5, e6, e7] at p1
  try simp only [e2, e4, e5, e6, e7] at p2
  try simp only [e2, e4, e5, e6, e7] at p3
  try simp only [e2, e4, e5, e6, e7] at r0_0
  clear f10 e1 e2 e3 e4 e5 e6 e7
  subst e0
  refine ⟨?_, ?_, ?_, ?_⟩ <;> first | assumption | omega | trivial
def g_254_s_8 : vG := ([(0, [8], [], -1), (44, [3, 7], [], 0), (0, [7], [], 240), (42, [2, 3], [], 0), (33, [2], [], 0), (31, [6], [], 0), (1250, [6, 0, 1], [0, 1], 0), (90, [6], [], 0), (91, [6], [], 1), (41, [4, 5], [], 0), (0, [5], [], 20), (20, [4, 0], [0], 64), (90, [4], [], 0), (91, [4], [], 20), (6000, [0, 1, 2, 3], [0], 0), (0, [0], [], 285), (90, [1], [], -2147483648), (91, [1], [], 2147483647), (90, [2], [], -2147483648), (91, [2], [], 2147483647), (90, [3], [], -2147483648), (91, [3], [], 2147483647)], (3000, [8], [1], 46))
theorem c_254_s_8 : vOkm T0 (eP e_254 L_254 A_254 mu_254 none) 4 g_254_s_8 := vOk_in fun ρ η h => by
  obtain ⟨f0, f1, f2, f3, f4, f5, f6, f7, f8, f9, f10, f11, f12, f13, f14, f15, f16, f17, f18, f19, f20, f21, _⟩ := h
  exact q_254_8 (n0 := ρ 3) (n1 := ρ 2) (n2 := ρ 1) (n3 := ρ 0) (n4 := ρ 4) (n5 := ρ 5) (n6 := ρ 6) (n7 := ρ 7) (n8 := ρ 8) (H0 := η 0) (H1 := η 1) f21 f20 f19 f18 f17 f16 f15 f14 f13 f12 f11 f10 f9 f8 f7 f6 f5 f4 f3 f2 f1 f0
def p_254_s : List vG := [g_254_s_0,
  g_254_s_1,
  g_254_s_2,
  g_254_s_3,
  g_254_s_4,
  g_254_s_5,
  g_254_s_6,
  g_254_s_7,
  g_254_s_8]
theorem r_254_s : vCovO false (eR0 e_254 L_254 cs_254 2000) p_254_s = true := by decide +kernel
theorem m_254 (d : Nat) : eC e_254 (d + 2) := eC_ok (e := e_254) (L := L_254) (cs := cs_254) (n := 2000) (d := d + 1) (A := A_254) (μ := mu_254) (tp := false) (p0 := p_254_s) rfl ⟨m_250 d, ⟨m_252 d, trivial⟩⟩ rfl (.inl rfl) (by decide +kernel) (fun z => nomatch z) r_254_s (allC c_254_s_0 (allC c_254_s_1 (allC c_254_s_2 (allC c_254_s_3 (allC c_254_s_4 (allC c_254_s_5 (allC c_254_s_6 (allC c_254_s_7 (allC c_254_s_8 allN))))))))) allN
/- MixStageModel.mute (I)I -/
noncomputable def s_255 : vM := ([(3, 12, 285, 0), (0, -2147483648, 2147483647, 0)], (0, -2147483648, 2147483647, 0), 1, 0, [(12, 64), (12, 65), (452, 0), (460, 0), (468, 0), (476, 0), (484, 0), (492, 0), (500, 0), (508, 0), (516, 0), (532, 0)])
def preb_255 (a0 a1 : Int) (h : gH) : Prop := hV h 285 65 ≤ 20000 ∧ SO h ∧ SS h ∧ AC h
def pre_255 : List Int → gH → Prop := fun xs h => match xs with
  | [a0, a1] => preb_255 a0 a1 h
  | _ => False
def postb_255 (r a0 a1 : Int) (h0 h : gH) : Prop := SO h ∧ SS h ∧ hV h 285 65 ≤ hV h0 285 65 + 1 ∧ AC h
def post_255 : List Int → gH → gH → Prop := fun xs h0 h => match xs with
  | [r, a0, a1] => postb_255 r a0 a1 h0 h
  | _ => True
noncomputable def e_255 : vE := (255, s_255, pre_255, post_255)
noncomputable def L_255 : List vE := [e_250, e_252]
def cs_255 : List vC := []
def A_255 : Int → List Int → gH → gH → Prop := fun c xs h0 h => True
def mu_255 : Int → List Int → gH → gH → Nat := fun c xs h0 h => 0
theorem q_255_0 {n0 n1 n2 n3 n4 : Int} {H0 : gH} (f0 : n0 ≤ 2147483647) (f1 : (-2147483648) ≤ n0) (f2 : n1 = 285) (f3 : hWt T0 H0 ∧ preb_255 n1 n0 H0) (f4 : n2 ≤ 20) (f5 : 0 ≤ n2) (f6 : n2 = hV H0 (n1).toNat 64) (f7 : n3 = 20) (f8 : n2 = n3) (f9 : n4 = (-1)) : postb_255 n4 n1 n0 H0 H0 := by
  unfold preb_255 at f3
  unfold postb_255
  have e0 : n2 = hV H0 285 64 := (by rw [f2] at f6; exact f6 : n2 = hV H0 285 64)
  have e1 : (0 : Int) ≤ hV H0 285 65 ∧ hV H0 285 65 ≤ 2147483647 := f3.1 285 65 _ _ (by decide +kernel)
  have p0 := f3.2.1
  have p1 := f3.2.2.1
  have p2 := f3.2.2.2.1
  have p3 := f3.2.2.2.2
  clear f6
  subst e0
  refine ⟨?_, ?_, ?_, ?_⟩ <;> first | assumption | omega | trivial
def g_255_s_0 : vG := ([(0, [4], [], -1), (40, [2, 3], [], 0), (0, [3], [], 20), (20, [2, 0], [0], 64), (90, [2], [], 0), (91, [2], [], 20), (6000, [0, 1], [0], 0), (0, [0], [], 285), (90, [1], [], -2147483648), (91, [1], [], 2147483647)], (3000, [4], [0], 40))
theorem c_255_s_0 : vOkm T0 (eP e_255 L_255 A_255 mu_255 none) 2 g_255_s_0 := vOk_in fun ρ η h => by
  obtain ⟨f0, f1, f2, f3, f4, f5, f6, f7, f8, f9, _⟩ := h
  exact q_255_0 (n0 := ρ 1) (n1 := ρ 0) (n2 := ρ 2) (n3 := ρ 3) (n4 := ρ 4) (H0 := η 0) f9 f8 f7 f6 f5 f4 f3 f2 f1 f0
theorem q_255_1 {n0 n1 n2 n3 n4 n5 : Int} {H0 H1 : gH} (f0 : n0 ≤ 2147483647) (f1 : (-2147483648) ≤ n0) (f2 : n1 = 285) (f3 : hWt T0 H0 ∧ preb_255 n1 n0 H0) (f4 : n2 ≤ 20) (f5 : 0 ≤ n2) (f6 : n2 = hV H0 (n1).toNat 64) (f7 : n3 = 20) (f8 : n2 ≠ n3) (f9 : n4 ≤ 1) (f10 : 0 ≤ n4) (f11 : (hLe T0 H0 H1 ∧ hFr s_250.2.2.2.2 H0 H1 ∧ ((0 : Int) = 0 → H1.length = H0.length) ∧ hWt T0 H1) ∧ postb_250 n4 n1 n0 H0 H1) (f12 : n4 = 0) (f13 : n5 = (-1)) : postb_255 n5 n1 n0 H0 H1 := by
  unfold preb_255 at f3
  unfold postb_250 at f11
  unfold postb_255
  have e0 : n2 = hV H0 285 64 := (by rw [f2] at f6; exact f6 : n2 = hV H0 285 64)
  have e1 : hV H1 285 64 = hV H0 285 64 := f11.1.2.1.1 285 64 (by decide +kernel)
  have e2 : hV H1 285 64 = hV H0 285 64 := e1
  have e3 : hV H1 285 65 = hV H0 285 65 := f11.1.2.1.1 285 65 (by decide +kernel)
  have e4 : hV H1 285 65 = hV H0 285 65 := e3
  have e5 : AC H1 = AC H0 := AC_fr f11.1.2.1 (by decide +kernel)
  have e6 : SO H1 = SO H0 := SO_fr f11.1.2.1 (by decide +kernel)
  have e7 : SS H1 = SS H0 := SS_fr f11.1.2.1 (by decide +kernel)
  have e8 : (0 : Int) ≤ hV H0 285 65 ∧ hV H0 285 65 ≤ 2147483647 := f3.1 285 65 _ _ (by decide +kernel)
  have e9 : (0 : Int) ≤ hV H1 285 64 ∧ hV H1 285 64 ≤ 20 := f11.1.2.2.2 285 64 _ _ (by decide +kernel)
  have e10 : (0 : Int) ≤ hV H0 285 64 ∧ hV H0 285 64 ≤ 20 := f3.1 285 64 _ _ (by decide +kernel)
  have e11 : (0 : Int) ≤ hV H1 285 65 ∧ hV H1 285 65 ≤ 2147483647 := f11.1.2.2.2 285 65 _ _ (by decide +kernel)
  try simp only [e2, e4, e5, e6, e7] at f3
  try simp only [e2, e4, e5, e6, e7] at f11
  try simp only [e2, e4, e5, e6, e7] at e8
  try simp only [e2, e4, e5, e6, e7] at e9
  try simp only [e2, e4, e5, e6, e7] at e10
  try simp only [e2, e4, e5, e6, e7] at e11
  try simp only [e2, e4, e5, e6, e7]
  have p0 := f3.2.1
  have p1 := f3.2.2.1
  have p2 := f3.2.2.2.1
  have p3 := f3.2.2.2.2
  have r0_0 := f11.2
  try simp only [e2, e4, e5, e6, e7] at p0
  try simp only [e2, e4, e5, e6, e7] at p1
  try simp only [e2, e4, e5, e6, e7] at p2
  try simp only [e2, e4, e5, e6, e7] at p3
  try simp only [e2, e4, e5, e6, e7] at r0_0
  clear f6 e1 e2 e3 e4 e5 e6 e7
  subst e0
  refine ⟨?_, ?_, ?_, ?_⟩ <;> first | assumption | omega | trivial
def g_255_s_1 : vG := ([(0, [5], [], -1), (30, [4], [], 0), (1250, [4, 0, 1], [0, 1], 0), (90, [4], [], 0), (91, [4], [], 1), (41, [2, 3], [], 0), (0, [3], [], 20), (20, [2, 0], [0], 64), (90, [2], [], 0), (91, [2], [], 20), (6000, [0, 1], [0], 0), (0, [0], [], 285), (90, [1], [], -2147483648), (91, [1], [], 2147483647)], (3000, [5], [1], 40))
theorem c_255_s_1 : vOkm T0 (eP e_255 L_255 A_255 mu_255 none) 2 g_255_s_1 := vOk_in fun ρ η h => by
  obtain ⟨f0, f1, f2, f3, f4, f5, f6, f7, f8, f9, f10, f11, f12, f13, _⟩ := h
  exact q_255_1 (n0 := ρ 1) (n1 := ρ 0) (n2 := ρ 2) (n3 := ρ 3) (n4 := ρ 4) (n5 := ρ 5) (H0 := η 0) (H1 := η 1) f13 f12 f11 f10 f9 f8 f7 f6 f5 f4 f3 f2 f1 f0
theorem q_255_2 {n0 n1 n2 n3 : Int} {H0 H1 : gH} (f0 : n0 = 285) (f1 : n1 ≤ 20) (f2 : n1 = hV H0 (n0).toNat 64) (f3 : (hLe T0 H0 H1 ∧ hFr s_250.2.2.2.2 H0 H1 ∧ ((0 : Int) = 0 → H1.length = H0.length) ∧ hWt T0 H1) ∧ postb_250 n2 n0 n3 H0 H1) (f4 : n2 ≠ 0) : 0 ≤ n3 ∧ n3 < 20 := by
  unfold postb_250 at f3
  have e0 : n1 = hV H0 285 64 := (by rw [f0] at f2; exact f2 : n1 = hV H0 285 64)
  have e1 : hV H1 285 64 = hV H0 285 64 := f3.1.2.1.1 285 64 (by decide +kernel)
  have e2 : hV H1 285 64 = hV H0 285 64 := e1
  have e3 : (0 : Int) ≤ hV H1 285 64 ∧ hV H1 285 64 ≤ 20 := f3.1.2.2.2 285 64 _ _ (by decide +kernel)
  try simp only [e2] at f3
  try simp only [e2] at e3
  try simp only [e2]
  have r0_0 := f3.2
  try simp only [e2] at r0_0
  clear f2 e1 e2
  subst e0
  omega
def g_255_s_2 : vG := ([(31, [4], [], 0), (1250, [4, 0, 1], [0, 1], 0), (20, [2, 0], [0], 64), (91, [2], [], 20), (0, [0], [], 285)], (70, [1], [], 20))
theorem c_255_s_2 : vOkm T0 (eP e_255 L_255 A_255 mu_255 none) 2 g_255_s_2 := vOk_in fun ρ η h => by
  obtain ⟨f0, f1, f2, f3, f4, _⟩ := h
  exact q_255_2 (n0 := ρ 0) (n1 := ρ 2) (n2 := ρ 4) (n3 := ρ 1) (H0 := η 0) (H1 := η 1) f4 f3 f2 f1 f0
theorem q_255_3 {n0 n1 n2 : Int} {H0 H1 : gH} (f0 : n0 = 285) (f1 : (hLe T0 H0 H1 ∧ hFr s_250.2.2.2.2 H0 H1 ∧ ((0 : Int) = 0 → H1.length = H0.length) ∧ hWt T0 H1) ∧ postb_250 n1 n0 n2 H0 H1) (f2 : n1 ≠ 0) : (-1) ≤ n2 := by
  unfold postb_250 at f1
  have e0 : hV H1 285 64 = hV H0 285 64 := f1.1.2.1.1 285 64 (by decide +kernel)
  have e1 : hV H1 285 64 = hV H0 285 64 := e0
  have e2 : (0 : Int) ≤ hV H1 285 64 ∧ hV H1 285 64 ≤ 20 := f1.1.2.2.2 285 64 _ _ (by decide +kernel)
  try simp only [e1] at f1
  try simp only [e1] at e2
  try simp only [e1]
  have r0_0 := f1.2
  try simp only [e1] at r0_0
  clear e0 e1
  omega
def g_255_s_3 : vG := ([(31, [4], [], 0), (1250, [4, 0, 1], [0, 1], 0), (0, [0], [], 285)], (90, [1], [], -1))
theorem c_255_s_3 : vOkm T0 (eP e_255 L_255 A_255 mu_255 none) 2 g_255_s_3 := vOk_in fun ρ η h => by
  obtain ⟨f0, f1, f2, _⟩ := h
  exact q_255_3 (n0 := ρ 0) (n1 := ρ 4) (n2 := ρ 1) (H0 := η 0) (H1 := η 1) f2 f1 f0
theorem q_255_4 {n0 n1 n2 n3 : Int} {H0 H1 : gH} (f0 : n0 = 285) (f1 : n1 ≤ 20) (f2 : n1 = hV H0 (n0).toNat 64) (f3 : (hLe T0 H0 H1 ∧ hFr s_250.2.2.2.2 H0 H1 ∧ ((0 : Int) = 0 → H1.length = H0.length) ∧ hWt T0 H1) ∧ postb_250 n2 n0 n3 H0 H1) (f4 : n2 ≠ 0) : n3 ≤ 19 := by
  unfold postb_250 at f3
  have e0 : n1 = hV H0 285 64 := (by rw [f0] at f2; exact f2 : n1 = hV H0 285 64)
  have e1 : hV H1 285 64 = hV H0 285 64 := f3.1.2.1.1 285 64 (by decide +kernel)
  have e2 : hV H1 285 64 = hV H0 285 64 := e1
  have e3 : (0 : Int) ≤ hV H1 285 64 ∧ hV H1 285 64 ≤ 20 := f3.1.2.2.2 285 64 _ _ (by decide +kernel)
  try simp only [e2] at f3
  try simp only [e2] at e3
  try simp only [e2]
  have r0_0 := f3.2
  try simp only [e2] at r0_0
  clear f2 e1 e2
  subst e0
  omega
def g_255_s_4 : vG := ([(31, [4], [], 0), (1250, [4, 0, 1], [0, 1], 0), (20, [2, 0], [0], 64), (91, [2], [], 20), (0, [0], [], 285)], (91, [1], [], 19))
theorem c_255_s_4 : vOkm T0 (eP e_255 L_255 A_255 mu_255 none) 2 g_255_s_4 := vOk_in fun ρ η h => by
  obtain ⟨f0, f1, f2, f3, f4, _⟩ := h
  exact q_255_4 (n0 := ρ 0) (n1 := ρ 2) (n2 := ρ 4) (n3 := ρ 1) (H0 := η 0) (H1 := η 1) f4 f3 f2 f1 f0
theorem q_255_5 {n0 n1 n2 n3 n4 n5 n6 n7 n8 n9 n10 n11 : Int} {H0 H1 : gH} (f0 : n0 ≤ 2147483647) (f1 : (-2147483648) ≤ n0) (f2 : n1 = 285) (f3 : hWt T0 H0 ∧ preb_255 n1 n0 H0) (f4 : n2 ≤ 20) (f5 : 0 ≤ n2) (f6 : n2 = hV H0 (n1).toNat 64) (f7 : n3 = 20) (f8 : n2 ≠ n3) (f9 : n4 ≤ 1) (f10 : 0 ≤ n4) (f11 : (hLe T0 H0 H1 ∧ hFr s_250.2.2.2.2 H0 H1 ∧ ((0 : Int) = 0 → H1.length = H0.length) ∧ hWt T0 H1) ∧ postb_250 n4 n1 n0 H0 H1) (f12 : n4 ≠ 0) (f13 : n5 = 328) (f14 : n5 = hV H1 (n1).toNat 66) (f15 : n6 ≤ 6) (f16 : 0 ≤ n6) (f17 : n6 = hV H1 (n5).toNat (n0).toNat) (f18 : n7 = 2) (f19 : n6 = n7) (f20 : n8 = 5) (f21 : n9 = 0) (f22 : n10 = 0) (f23 : n11 = 0) : preb_252 n1 n8 n9 n10 n11 n0 H1 := by
  unfold preb_255 at f3
  unfold postb_250 at f11
  unfold preb_252
  have e0 : n2 = hV H0 285 64 := (by rw [f2] at f6; exact f6 : n2 = hV H0 285 64)
  have e1 : hV H1 328 = hV H0 328 := fRow f11.1.2.1 328 (by decide +kernel)
  have e2 : n6 = hV H0 328 (n0).toNat := (by rw [f13] at f17; exact f17 : n6 = hV H1 328 (n0).toNat).trans ((congrFun e1 _))
  have e3 : hV H1 285 64 = hV H0 285 64 := f11.1.2.1.1 285 64 (by decide +kernel)
  have e4 : hV H1 285 64 = hV H0 285 64 := e3
  have e5 : hV H1 285 65 = hV H0 285 65 := f11.1.2.1.1 285 65 (by decide +kernel)
  have e6 : hV H1 285 65 = hV H0 285 65 := e5
  have e7 : AC H1 = AC H0 := AC_fr f11.1.2.1 (by decide +kernel)
  have e8 : SO H1 = SO H0 := SO_fr f11.1.2.1 (by decide +kernel)
  have e9 : SS H1 = SS H0 := SS_fr f11.1.2.1 (by decide +kernel)
  have e10 : (0 : Int) ≤ hV H0 285 65 ∧ hV H0 285 65 ≤ 2147483647 := f3.1 285 65 _ _ (by decide +kernel)
  have e11 : (0 : Int) ≤ hV H1 285 64 ∧ hV H1 285 64 ≤ 20 := f11.1.2.2.2 285 64 _ _ (by decide +kernel)
  have e12 : (0 : Int) ≤ hV H0 285 64 ∧ hV H0 285 64 ≤ 20 := f3.1 285 64 _ _ (by decide +kernel)
  have e13 : (0 : Int) ≤ hV H1 285 65 ∧ hV H1 285 65 ≤ 2147483647 := f11.1.2.2.2 285 65 _ _ (by decide +kernel)
  try simp only [e4, e6, e7, e8, e9] at f3
  try simp only [e4, e6, e7, e8, e9] at f11
  try simp only [e4, e6, e7, e8, e9] at e10
  try simp only [e4, e6, e7, e8, e9] at e11
  try simp only [e4, e6, e7, e8, e9] at e12
  try simp only [e4, e6, e7, e8, e9] at e13
  try simp only [e4, e6, e7, e8, e9]
  have p0 := f3.2.1
  have p1 := f3.2.2.1
  have p2 := f3.2.2.2.1
  have p3 := f3.2.2.2.2
  have r0_0 := f11.2
  try simp only [e4, e6, e7, e8, e9] at p0
  try simp only [e4, e6, e7, e8, e9] at p1
  try simp only [e4, e6, e7, e8, e9] at p2
  try simp only [e4, e6, e7, e8, e9] at p3
  try simp only [e4, e6, e7, e8, e9] at r0_0
  clear f6 f14 f17 e1 e3 e4 e5 e6 e7 e8 e9
  subst e0
  subst e2
  refine ⟨?_, ?_, ?_, ?_, ?_, ?_, ?_, ?_⟩ <;> first | assumption | omega | trivial
def g_255_s_5 : vG := ([(0, [11], [], 0), (0, [10], [], 0), (0, [9], [], 0), (0, [8], [], 5), (40, [6, 7], [], 0), (0, [7], [], 2), (22, [6, 5, 1], [1], 0), (90, [6], [], 0), (91, [6], [], 6), (20, [5, 0], [1], 66), (0, [5], [], 328), (31, [4], [], 0), (1250, [4, 0, 1], [0, 1], 0), (90, [4], [], 0), (91, [4], [], 1), (41, [2, 3], [], 0), (0, [3], [], 20), (20, [2, 0], [0], 64), (90, [2], [], 0), (91, [2], [], 20), (6000, [0, 1], [0], 0), (0, [0], [], 285), (90, [1], [], -2147483648), (91, [1], [], 2147483647)], (2252, [0, 8, 9, 10, 11, 1], [1], 0))
theorem c_255_s_5 : vOkm T0 (eP e_255 L_255 A_255 mu_255 none) 2 g_255_s_5 := vOk_in fun ρ η h => by
  obtain ⟨f0, f1, f2, f3, f4, f5, f6, f7, f8, f9, f10, f11, f12, f13, f14, f15, f16, f17, f18, f19, f20, f21, f22, f23, _⟩ := h
  exact q_255_5 (n0 := ρ 1) (n1 := ρ 0) (n2 := ρ 2) (n3 := ρ 3) (n4 := ρ 4) (n5 := ρ 5) (n6 := ρ 6) (n7 := ρ 7) (n8 := ρ 8) (n9 := ρ 9) (n10 := ρ 10) (n11 := ρ 11) (H0 := η 0) (H1 := η 1) f23 f22 f21 f20 f19 f18 f17 f16 f15 f14 f13 f12 f11 f10 f9 f8 f7 f6 f5 f4 f3 f2 f1 f0
theorem q_255_6 {n0 n1 n2 n3 n4 n5 n6 n7 n8 n9 n10 n11 n12 : Int} {H0 H1 H2 : gH} (f0 : n0 ≤ 2147483647) (f1 : (-2147483648) ≤ n0) (f2 : n1 = 285) (f3 : hWt T0 H0 ∧ preb_255 n1 n0 H0) (f4 : n2 ≤ 20) (f5 : 0 ≤ n2) (f6 : n2 = hV H0 (n1).toNat 64) (f7 : n3 = 20) (f8 : n2 ≠ n3) (f9 : n4 ≤ 1) (f10 : 0 ≤ n4) (f11 : (hLe T0 H0 H1 ∧ hFr s_250.2.2.2.2 H0 H1 ∧ ((0 : Int) = 0 → H1.length = H0.length) ∧ hWt T0 H1) ∧ postb_250 n4 n1 n0 H0 H1) (f12 : n4 ≠ 0) (f13 : n5 = 328) (f14 : n5 = hV H1 (n1).toNat 66) (f15 : n6 ≤ 6) (f16 : 0 ≤ n6) (f17 : n6 = hV H1 (n5).toNat (n0).toNat) (f18 : n7 = 2) (f19 : n6 = n7) (f20 : n8 = 5) (f21 : n9 = 0) (f22 : n10 = 0) (f23 : n11 = 0) (f24 : n12 ≤ 2147483647) (f25 : (-2147483648) ≤ n12) (f26 : (hLe T0 H1 H2 ∧ hFr s_252.2.2.2.2 H1 H2 ∧ ((0 : Int) = 0 → H2.length = H1.length) ∧ hWt T0 H2) ∧ postb_252 n12 n1 n8 n9 n10 n11 n0 H1 H2) : postb_255 n12 n1 n0 H0 H2 := by
  unfold preb_255 at f3
  unfold postb_250 at f11
  unfold postb_252 at f26
  unfold postb_255
  have e0 : n2 = hV H0 285 64 := (by rw [f2] at f6; exact f6 : n2 = hV H0 285 64)
  have e1 : hV H1 328 = hV H0 328 := fRow f11.1.2.1 328 (by decide +kernel)
  have e2 : n6 = hV H0 328 (n0).toNat := (by rw [f13] at f17; exact f17 : n6 = hV H1 328 (n0).toNat).trans ((congrFun e1 _))
  have e3 : hV H1 285 64 = hV H0 285 64 := f11.1.2.1.1 285 64 (by decide +kernel)
  have e4 : hV H1 285 64 = hV H0 285 64 := e3
  have e5 : hV H1 285 65 = hV H0 285 65 := f11.1.2.1.1 285 65 (by decide +kernel)
  have e6 : hV H1 285 65 = hV H0 285 65 := e5
  have e7 : (0 : Int) ≤ hV H0 285 65 ∧ hV H0 285 65 ≤ 2147483647 := f3.1 285 65 _ _ (by decide +kernel)
  have e8 : (0 : Int) ≤ hV H1 285 64 ∧ hV H1 285 64 ≤ 20 := f11.1.2.2.2 285 64 _ _ (by decide +kernel)
  have e9 : (0 : Int) ≤ hV H0 285 64 ∧ hV H0 285 64 ≤ 20 := f3.1 285 64 _ _ (by decide +kernel)
  have e10 : (0 : Int) ≤ hV H1 285 65 ∧ hV H1 285 65 ≤ 2147483647 := f11.1.2.2.2 285 65 _ _ (by decide +kernel)
  have e11 : (0 : Int) ≤ hV H2 285 64 ∧ hV H2 285 64 ≤ 20 := f26.1.2.2.2 285 64 _ _ (by decide +kernel)
  have e12 : (0 : Int) ≤ hV H2 285 65 ∧ hV H2 285 65 ≤ 2147483647 := f26.1.2.2.2 285 65 _ _ (by decide +kernel)
  try simp only [e4, e6] at f3
  try simp only [e4, e6] at f11
  try simp only [e4, e6] at f26
  try simp only [e4, e6] at e7
  try simp only [e4, e6] at e8
  try simp only [e4, e6] at e9
  try simp only [e4, e6] at e10
  try simp only [e4, e6] at e11
  try simp only [e4, e6] at e12
  try simp only [e4, e6]
  have p0 := f3.2.1
  have p1 := f3.2.2.1
  have p2 := f3.2.2.2.1
  have p3 := f3.2.2.2.2
  have r0_0 := f11.2
  have r1_0 := f26.2.1
  have r1_1 := f26.2.2.1
  have r1_2 := f26.2.2.2.1
  have r1_3 := f26.2.2.2.2.1
  have r1_4 := f26.2.2.2.2.2.1
  have r1_5 := f26.2.2.2.2.2.2
  try simp only [e4, e6] at p0
  try simp only [e4, e6] at p1
  try simp only [e4, e6] at p2
  try simp only [e4, e6] at p3
  try simp only [e4, e6] at r0_0
  try simp only [e4, e6] at r1_0
  try simp only [e4, e6] at r1_1
  try simp only [e4, e6] at r1_2
  try simp only [e4, e6] at r1_3
  try simp only [e4, e6] at r1_4
  try simp only [e4, e6] at r1_5
  clear f6 f14 f17 e1 e3 e4 e5 e6
  subst e0
  subst e2
  refine ⟨?_, ?_, ?_, ?_⟩ <;> first | assumption | omega | trivial
def g_255_s_6 : vG := ([(1252, [12, 0, 8, 9, 10, 11, 1], [1, 2], 0), (90, [12], [], -2147483648), (91, [12], [], 2147483647), (0, [11], [], 0), (0, [10], [], 0), (0, [9], [], 0), (0, [8], [], 5), (40, [6, 7], [], 0), (0, [7], [], 2), (22, [6, 5, 1], [1], 0), (90, [6], [], 0), (91, [6], [], 6), (20, [5, 0], [1], 66), (0, [5], [], 328), (31, [4], [], 0), (1250, [4, 0, 1], [0, 1], 0), (90, [4], [], 0), (91, [4], [], 1), (41, [2, 3], [], 0), (0, [3], [], 20), (20, [2, 0], [0], 64), (90, [2], [], 0), (91, [2], [], 20), (6000, [0, 1], [0], 0), (0, [0], [], 285), (90, [1], [], -2147483648), (91, [1], [], 2147483647)], (3000, [12], [2], 40))
theorem c_255_s_6 : vOkm T0 (eP e_255 L_255 A_255 mu_255 none) 2 g_255_s_6 := vOk_in fun ρ η h => by
  obtain ⟨f0, f1, f2, f3, f4, f5, f6, f7, f8, f9, f10, f11, f12, f13, f14, f15, f16, f17, f18, f19, f20, f21, f22, f23, f24, f25, f26, _⟩ := h
  exact q_255_6 (n0 := ρ 1) (n1 := ρ 0) (n2 := ρ 2) (n3 := ρ 3) (n4 := ρ 4) (n5 := ρ 5) (n6 := ρ 6) (n7 := ρ 7) (n8 := ρ 8) (n9 := ρ 9) (n10 := ρ 10) (n11 := ρ 11) (n12 := ρ 12) (H0 := η 0) (H1 := η 1) (H2 := η 2) f26 f25 f24 f23 f22 f21 f20 f19 f18 f17 f16 f15 f14 f13 f12 f11 f10 f9 f8 f7 f6 f5 f4 f3 f2 f1 f0
theorem q_255_7 {n0 n1 n2 n3 n4 n5 n6 n7 n8 : Int} {H0 H1 : gH} (f0 : n0 ≤ 2147483647) (f1 : (-2147483648) ≤ n0) (f2 : n1 = 285) (f3 : hWt T0 H0 ∧ preb_255 n1 n0 H0) (f4 : n2 ≤ 20) (f5 : 0 ≤ n2) (f6 : n2 = hV H0 (n1).toNat 64) (f7 : n3 = 20) (f8 : n2 ≠ n3) (f9 : n4 ≤ 1) (f10 : 0 ≤ n4) (f11 : (hLe T0 H0 H1 ∧ hFr s_250.2.2.2.2 H0 H1 ∧ ((0 : Int) = 0 → H1.length = H0.length) ∧ hWt T0 H1) ∧ postb_250 n4 n1 n0 H0 H1) (f12 : n4 ≠ 0) (f13 : n5 = 328) (f14 : n5 = hV H1 (n1).toNat 66) (f15 : n6 ≤ 6) (f16 : 0 ≤ n6) (f17 : n6 = hV H1 (n5).toNat (n0).toNat) (f18 : n7 = 2) (f19 : n6 ≠ n7) (f20 : n8 = (-1)) : postb_255 n8 n1 n0 H0 H1 := by
  unfold preb_255 at f3
  unfold postb_250 at f11
  unfold postb_255
  have e0 : n2 = hV H0 285 64 := (by rw [f2] at f6; exact f6 : n2 = hV H0 285 64)
  have e1 : hV H1 328 = hV H0 328 := fRow f11.1.2.1 328 (by decide +kernel)
  have e2 : n6 = hV H0 328 (n0).toNat := (by rw [f13] at f17; exact f17 : n6 = hV H1 328 (n0).toNat).trans ((congrFun e1 _))
  have e3 : hV H1 285 64 = hV H0 285 64 := f11.1.2.1.1 285 64 (by decide +kernel)
  have e4 : hV H1 285 64 = hV H0 285 64 := e3
  have e5 : hV H1 285 65 = hV H0 285 65 := f11.1.2.1.1 285 65 (by decide +kernel)
  have e6 : hV H1 285 65 = hV H0 285 65 := e5
  have e7 : AC H1 = AC H0 := AC_fr f11.1.2.1 (by decide +kernel)
  have e8 : SO H1 = SO H0 := SO_fr f11.1.2.1 (by decide +kernel)
  have e9 : SS H1 = SS H0 := SS_fr f11.1.2.1 (by decide +kernel)
  have e10 : (0 : Int) ≤ hV H0 285 65 ∧ hV H0 285 65 ≤ 2147483647 := f3.1 285 65 _ _ (by decide +kernel)
  have e11 : (0 : Int) ≤ hV H1 285 64 ∧ hV H1 285 64 ≤ 20 := f11.1.2.2.2 285 64 _ _ (by decide +kernel)
  have e12 : (0 : Int) ≤ hV H0 285 64 ∧ hV H0 285 64 ≤ 20 := f3.1 285 64 _ _ (by decide +kernel)
  have e13 : (0 : Int) ≤ hV H1 285 65 ∧ hV H1 285 65 ≤ 2147483647 := f11.1.2.2.2 285 65 _ _ (by decide +kernel)
  try simp only [e4, e6, e7, e8, e9] at f3
  try simp only [e4, e6, e7, e8, e9] at f11
  try simp only [e4, e6, e7, e8, e9] at e10
  try simp only [e4, e6, e7, e8, e9] at e11
  try simp only [e4, e6, e7, e8, e9] at e12
  try simp only [e4, e6, e7, e8, e9] at e13
  try simp only [e4, e6, e7, e8, e9]
  have p0 := f3.2.1
  have p1 := f3.2.2.1
  have p2 := f3.2.2.2.1
  have p3 := f3.2.2.2.2
  have r0_0 := f11.2
  try simp only [e4, e6, e7, e8, e9] at p0
  try simp only [e4, e6, e7, e8, e9] at p1
  try simp only [e4, e6, e7, e8, e9] at p2
  try simp only [e4, e6, e7, e8, e9] at p3
  try simp only [e4, e6, e7, e8, e9] at r0_0
  clear f6 f14 f17 e1 e3 e4 e5 e6 e7 e8 e9
  subst e0
  subst e2
  refine ⟨?_, ?_, ?_, ?_⟩ <;> first | assumption | omega | trivial
def g_255_s_7 : vG := ([(0, [8], [], -1), (41, [6, 7], [], 0), (0, [7], [], 2), (22, [6, 5, 1], [1], 0), (90, [6], [], 0), (91, [6], [], 6), (20, [5, 0], [1], 66), (0, [5], [], 328), (31, [4], [], 0), (1250, [4, 0, 1], [0, 1], 0), (90, [4], [], 0), (91, [4], [], 1), (41, [2, 3], [], 0), (0, [3], [], 20), (20, [2, 0], [0], 64), (90, [2], [], 0), (91, [2], [], 20), (6000, [0, 1], [0], 0), (0, [0], [], 285), (90, [1], [], -2147483648), (91, [1], [], 2147483647)], (3000, [8], [1], 40))
theorem c_255_s_7 : vOkm T0 (eP e_255 L_255 A_255 mu_255 none) 2 g_255_s_7 := vOk_in fun ρ η h => by
  obtain ⟨f0, f1, f2, f3, f4, f5, f6, f7, f8, f9, f10, f11, f12, f13, f14, f15, f16, f17, f18, f19, f20, _⟩ := h
  exact q_255_7 (n0 := ρ 1) (n1 := ρ 0) (n2 := ρ 2) (n3 := ρ 3) (n4 := ρ 4) (n5 := ρ 5) (n6 := ρ 6) (n7 := ρ 7) (n8 := ρ 8) (H0 := η 0) (H1 := η 1) f20 f19 f18 f17 f16 f15 f14 f13 f12 f11 f10 f9 f8 f7 f6 f5 f4 f3 f2 f1 f0
def p_255_s : List vG := [g_255_s_0,
  g_255_s_1,
  g_255_s_2,
  g_255_s_3,
  g_255_s_4,
  g_255_s_5,
  g_255_s_6,
  g_255_s_7]
theorem r_255_s : vCovO false (eR0 e_255 L_255 cs_255 2000) p_255_s = true := by decide +kernel
theorem m_255 (d : Nat) : eC e_255 (d + 2) := eC_ok (e := e_255) (L := L_255) (cs := cs_255) (n := 2000) (d := d + 1) (A := A_255) (μ := mu_255) (tp := false) (p0 := p_255_s) rfl ⟨m_250 d, ⟨m_252 d, trivial⟩⟩ rfl (.inl rfl) (by decide +kernel) (fun z => nomatch z) r_255_s (allC c_255_s_0 (allC c_255_s_1 (allC c_255_s_2 (allC c_255_s_3 (allC c_255_s_4 (allC c_255_s_5 (allC c_255_s_6 (allC c_255_s_7 allN)))))))) allN
/- MixStageModel.mixed ()I -/
noncomputable def s_256 : vM := ([(3, 12, 285, 0)], (0, -2147483648, 2147483647, 0), 1, 0, [(12, 64), (12, 65), (452, 0), (460, 0), (468, 0), (476, 0), (484, 0), (492, 0), (500, 0), (508, 0), (516, 0), (532, 0)])
def preb_256 (a0 : Int) (h : gH) : Prop := hV h 285 65 ≤ 20000 ∧ SO h ∧ SS h ∧ AC h
def pre_256 : List Int → gH → Prop := fun xs h => match xs with
  | [a0] => preb_256 a0 h
  | _ => False
def postb_256 (r a0 : Int) (h0 h : gH) : Prop := SO h ∧ SS h ∧ hV h 285 65 ≤ hV h0 285 65 + 1 ∧ AC h
def post_256 : List Int → gH → gH → Prop := fun xs h0 h => match xs with
  | [r, a0] => postb_256 r a0 h0 h
  | _ => True
noncomputable def e_256 : vE := (256, s_256, pre_256, post_256)
noncomputable def L_256 : List vE := [e_252]
def cs_256 : List vC := []
def A_256 : Int → List Int → gH → gH → Prop := fun c xs h0 h => True
def mu_256 : Int → List Int → gH → gH → Nat := fun c xs h0 h => 0
theorem q_256_0 {n0 n1 n2 n3 n4 n5 n6 n7 : Int} {H0 : gH} (f0 : n0 = 285) (f1 : hWt T0 H0 ∧ preb_256 n0 H0) (f2 : n1 ≤ 20) (f3 : 0 ≤ n1) (f4 : n1 = hV H0 (n0).toNat 64) (f5 : n2 = 20) (f6 : n1 ≠ n2) (f7 : n3 = 6) (f8 : n4 = 0) (f9 : n5 = 0) (f10 : n6 = 0) (f11 : n7 = (-1)) : preb_252 n0 n3 n4 n5 n6 n7 H0 := by
  unfold preb_256 at f1
  unfold preb_252
  have e0 : n1 = hV H0 285 64 := (by rw [f0] at f4; exact f4 : n1 = hV H0 285 64)
  have e1 : (0 : Int) ≤ hV H0 285 64 ∧ hV H0 285 64 ≤ 20 := f1.1 285 64 _ _ (by decide +kernel)
  have e2 : (0 : Int) ≤ hV H0 285 65 ∧ hV H0 285 65 ≤ 2147483647 := f1.1 285 65 _ _ (by decide +kernel)
  have p0 := f1.2.1
  have p1 := f1.2.2.1
  have p2 := f1.2.2.2.1
  have p3 := f1.2.2.2.2
  clear f4
  subst e0
  refine ⟨?_, ?_, ?_, ?_, ?_, ?_, ?_, ?_⟩ <;> first | assumption | omega | trivial
def g_256_s_0 : vG := ([(0, [7], [], -1), (0, [6], [], 0), (0, [5], [], 0), (0, [4], [], 0), (0, [3], [], 6), (41, [1, 2], [], 0), (0, [2], [], 20), (20, [1, 0], [0], 64), (90, [1], [], 0), (91, [1], [], 20), (6000, [0], [0], 0), (0, [0], [], 285)], (2252, [0, 3, 4, 5, 6, 7], [0], 0))
theorem c_256_s_0 : vOkm T0 (eP e_256 L_256 A_256 mu_256 none) 1 g_256_s_0 := vOk_in fun ρ η h => by
  obtain ⟨f0, f1, f2, f3, f4, f5, f6, f7, f8, f9, f10, f11, _⟩ := h
  exact q_256_0 (n0 := ρ 0) (n1 := ρ 1) (n2 := ρ 2) (n3 := ρ 3) (n4 := ρ 4) (n5 := ρ 5) (n6 := ρ 6) (n7 := ρ 7) (H0 := η 0) f11 f10 f9 f8 f7 f6 f5 f4 f3 f2 f1 f0
theorem q_256_1 {n0 n1 n2 n3 n4 n5 n6 n7 n8 : Int} {H0 H1 : gH} (f0 : n0 = 285) (f1 : hWt T0 H0 ∧ preb_256 n0 H0) (f2 : n1 ≤ 20) (f3 : 0 ≤ n1) (f4 : n1 = hV H0 (n0).toNat 64) (f5 : n2 = 20) (f6 : n1 ≠ n2) (f7 : n3 = 6) (f8 : n4 = 0) (f9 : n5 = 0) (f10 : n6 = 0) (f11 : n7 = (-1)) (f12 : n8 ≤ 2147483647) (f13 : (-2147483648) ≤ n8) (f14 : (hLe T0 H0 H1 ∧ hFr s_252.2.2.2.2 H0 H1 ∧ ((0 : Int) = 0 → H1.length = H0.length) ∧ hWt T0 H1) ∧ postb_252 n8 n0 n3 n4 n5 n6 n7 H0 H1) : postb_256 n8 n0 H0 H1 := by
  unfold preb_256 at f1
  unfold postb_252 at f14
  unfold postb_256
  have e0 : n1 = hV H0 285 64 := (by rw [f0] at f4; exact f4 : n1 = hV H0 285 64)
  have e1 : (0 : Int) ≤ hV H0 285 64 ∧ hV H0 285 64 ≤ 20 := f1.1 285 64 _ _ (by decide +kernel)
  have e2 : (0 : Int) ≤ hV H0 285 65 ∧ hV H0 285 65 ≤ 2147483647 := f1.1 285 65 _ _ (by decide +kernel)
  have e3 : (0 : Int) ≤ hV H1 285 64 ∧ hV H1 285 64 ≤ 20 := f14.1.2.2.2 285 64 _ _ (by decide +kernel)
  have e4 : (0 : Int) ≤ hV H1 285 65 ∧ hV H1 285 65 ≤ 2147483647 := f14.1.2.2.2 285 65 _ _ (by decide +kernel)
  have p0 := f1.2.1
  have p1 := f1.2.2.1
  have p2 := f1.2.2.2.1
  have p3 := f1.2.2.2.2
  have r0_0 := f14.2.1
  have r0_1 := f14.2.2.1
  have r0_2 := f14.2.2.2.1
  have r0_3 := f14.2.2.2.2.1
  have r0_4 := f14.2.2.2.2.2.1
  have r0_5 := f14.2.2.2.2.2.2
  clear f4
  subst e0
  refine ⟨?_, ?_, ?_, ?_⟩ <;> first | assumption | omega | trivial
def g_256_s_1 : vG := ([(1252, [8, 0, 3, 4, 5, 6, 7], [0, 1], 0), (90, [8], [], -2147483648), (91, [8], [], 2147483647), (0, [7], [], -1), (0, [6], [], 0), (0, [5], [], 0), (0, [4], [], 0), (0, [3], [], 6), (41, [1, 2], [], 0), (0, [2], [], 20), (20, [1, 0], [0], 64), (90, [1], [], 0), (91, [1], [], 20), (6000, [0], [0], 0), (0, [0], [], 285)], (3000, [8], [1], 23))
theorem c_256_s_1 : vOkm T0 (eP e_256 L_256 A_256 mu_256 none) 1 g_256_s_1 := vOk_in fun ρ η h => by
  obtain ⟨f0, f1, f2, f3, f4, f5, f6, f7, f8, f9, f10, f11, f12, f13, f14, _⟩ := h
  exact q_256_1 (n0 := ρ 0) (n1 := ρ 1) (n2 := ρ 2) (n3 := ρ 3) (n4 := ρ 4) (n5 := ρ 5) (n6 := ρ 6) (n7 := ρ 7) (n8 := ρ 8) (H0 := η 0) (H1 := η 1) f14 f13 f12 f11 f10 f9 f8 f7 f6 f5 f4 f3 f2 f1 f0
theorem q_256_2 {n0 n1 n2 n3 : Int} {H0 : gH} (f0 : n0 = 285) (f1 : hWt T0 H0 ∧ preb_256 n0 H0) (f2 : n1 ≤ 20) (f3 : 0 ≤ n1) (f4 : n1 = hV H0 (n0).toNat 64) (f5 : n2 = 20) (f6 : n1 = n2) (f7 : n3 = (-1)) : postb_256 n3 n0 H0 H0 := by
  unfold preb_256 at f1
  unfold postb_256
  have e0 : n1 = hV H0 285 64 := (by rw [f0] at f4; exact f4 : n1 = hV H0 285 64)
  have e1 : (0 : Int) ≤ hV H0 285 65 ∧ hV H0 285 65 ≤ 2147483647 := f1.1 285 65 _ _ (by decide +kernel)
  have p0 := f1.2.1
  have p1 := f1.2.2.1
  have p2 := f1.2.2.2.1
  have p3 := f1.2.2.2.2
  clear f4
  subst e0
  refine ⟨?_, ?_, ?_, ?_⟩ <;> first | assumption | omega | trivial
def g_256_s_2 : vG := ([(0, [3], [], -1), (40, [1, 2], [], 0), (0, [2], [], 20), (20, [1, 0], [0], 64), (90, [1], [], 0), (91, [1], [], 20), (6000, [0], [0], 0), (0, [0], [], 285)], (3000, [3], [0], 23))
theorem c_256_s_2 : vOkm T0 (eP e_256 L_256 A_256 mu_256 none) 1 g_256_s_2 := vOk_in fun ρ η h => by
  obtain ⟨f0, f1, f2, f3, f4, f5, f6, f7, _⟩ := h
  exact q_256_2 (n0 := ρ 0) (n1 := ρ 1) (n2 := ρ 2) (n3 := ρ 3) (H0 := η 0) f7 f6 f5 f4 f3 f2 f1 f0
def p_256_s : List vG := [g_256_s_0,
  g_256_s_1,
  g_256_s_2]
theorem r_256_s : vCovO false (eR0 e_256 L_256 cs_256 2000) p_256_s = true := by decide +kernel
theorem m_256 (d : Nat) : eC e_256 (d + 2) := eC_ok (e := e_256) (L := L_256) (cs := cs_256) (n := 2000) (d := d + 1) (A := A_256) (μ := mu_256) (tp := false) (p0 := p_256_s) rfl ⟨m_252 d, trivial⟩ rfl (.inl rfl) (by decide +kernel) (fun z => nomatch z) r_256_s (allC c_256_s_0 (allC c_256_s_1 (allC c_256_s_2 allN))) allN
