/-! CONTRACTS of the compared methods, with what they answer (printed by wip/gen/lawloop.py). -/
/- MixStage.mark (II)Z -/
noncomputable def s_172v : vM := ([(3, 11, 7, 0), (0, -2147483648, 2147483647, 0), (0, -2147483648, 2147483647, 0)], (0, 0, 1, 0), 0, 0, [(0, 2), (100, 0)])
def postb_172v (r a0 a1 a2 : Int) (h0 h : gH) : Prop := (r = 1 ∧ 0 ≤ a1 ∧ a1 ≤ 7 ∧ 0 ≤ a2 ∧ a2 ≤ 60) ∨ (r = 0 ∧ ¬ (0 ≤ a1 ∧ a1 ≤ 7 ∧ 0 ≤ a2 ∧ a2 ≤ 60))
def post_172v : List Int → gH → gH → Prop := fun xs h0 h => match xs with
  | [r, a0, a1, a2] => postb_172v r a0 a1 a2 h0 h
  | _ => True
noncomputable def e_172v : vE := (172, s_172v, pre0, post_172v)
noncomputable def L_172v : List vE := [e_6]
def cs_172v : List vC := []
def A_172v : Int → List Int → gH → gH → Prop := fun c xs h0 h => True
def mu_172v : Int → List Int → gH → gH → Nat := fun c xs h0 h => 0
theorem q_172v_0 {n0 n1 n2 n3 : Int} {H0 : gH} (f0 : n0 ≤ 2147483647) (f1 : (-2147483648) ≤ n0) (f2 : n1 ≤ 2147483647) (f3 : (-2147483648) ≤ n1) (f4 : n2 = 7) (f5 : hWt T0 H0 ∧ True) (f6 : n1 < 0) (f7 : n3 = 0) : postb_172v n3 n2 n1 n0 H0 H0 := by
  unfold postb_172v
  omega
theorem c_172v_s_0 : vOkm T0 (eP e_172v L_172v A_172v mu_172v none) 3 ([(0, [3], [], 0), (32, [1], [], 0), (6000, [0, 1, 2], [0], 0), (0, [0], [], 7), (90, [1], [], -2147483648), (91, [1], [], 2147483647), (90, [2], [], -2147483648), (91, [2], [], 2147483647)], (3000, [3], [0], 21)) := vOk_in fun ρ η h => by
  obtain ⟨f0, f1, f2, f3, f4, f5, f6, f7, _⟩ := h
  exact q_172v_0 (n0 := ρ 2) (n1 := ρ 1) (n2 := ρ 0) (n3 := ρ 3) (H0 := η 0) f7 f6 f5 f4 f3 f2 f1 f0
theorem q_172v_1 {n0 n1 n2 n3 n4 : Int} {H0 : gH} (f0 : n0 ≤ 2147483647) (f1 : (-2147483648) ≤ n0) (f2 : n1 ≤ 2147483647) (f3 : (-2147483648) ≤ n1) (f4 : n2 = 7) (f5 : hWt T0 H0 ∧ True) (f6 : 0 ≤ n1) (f7 : n3 = 8) (f8 : n3 ≤ n1) (f9 : n4 = 0) : postb_172v n4 n2 n1 n0 H0 H0 := by
  unfold postb_172v
  omega
theorem c_172v_s_1 : vOkm T0 (eP e_172v L_172v A_172v mu_172v none) 3 ([(0, [4], [], 0), (43, [1, 3], [], 0), (0, [3], [], 8), (33, [1], [], 0), (6000, [0, 1, 2], [0], 0), (0, [0], [], 7), (90, [1], [], -2147483648), (91, [1], [], 2147483647), (90, [2], [], -2147483648), (91, [2], [], 2147483647)], (3000, [4], [0], 21)) := vOk_in fun ρ η h => by
  obtain ⟨f0, f1, f2, f3, f4, f5, f6, f7, f8, f9, _⟩ := h
  exact q_172v_1 (n0 := ρ 2) (n1 := ρ 1) (n2 := ρ 0) (n3 := ρ 3) (n4 := ρ 4) (H0 := η 0) f9 f8 f7 f6 f5 f4 f3 f2 f1 f0
theorem q_172v_2 {n0 n1 n2 n3 n4 : Int} {H0 : gH} (f0 : n0 ≤ 2147483647) (f1 : (-2147483648) ≤ n0) (f2 : n1 ≤ 2147483647) (f3 : (-2147483648) ≤ n1) (f4 : n2 = 7) (f5 : hWt T0 H0 ∧ True) (f6 : 0 ≤ n1) (f7 : n3 = 8) (f8 : n1 < n3) (f9 : n0 < 0) (f10 : n4 = 0) : postb_172v n4 n2 n1 n0 H0 H0 := by
  unfold postb_172v
  omega
theorem c_172v_s_2 : vOkm T0 (eP e_172v L_172v A_172v mu_172v none) 3 ([(0, [4], [], 0), (32, [2], [], 0), (42, [1, 3], [], 0), (0, [3], [], 8), (33, [1], [], 0), (6000, [0, 1, 2], [0], 0), (0, [0], [], 7), (90, [1], [], -2147483648), (91, [1], [], 2147483647), (90, [2], [], -2147483648), (91, [2], [], 2147483647)], (3000, [4], [0], 21)) := vOk_in fun ρ η h => by
  obtain ⟨f0, f1, f2, f3, f4, f5, f6, f7, f8, f9, f10, _⟩ := h
  exact q_172v_2 (n0 := ρ 2) (n1 := ρ 1) (n2 := ρ 0) (n3 := ρ 3) (n4 := ρ 4) (H0 := η 0) f10 f9 f8 f7 f6 f5 f4 f3 f2 f1 f0
theorem q_172v_3 {n0 n1 n2 n3 n4 n5 n6 : Int} {H0 H1 : gH} (f0 : n0 ≤ 2147483647) (f1 : (-2147483648) ≤ n0) (f2 : n1 ≤ 2147483647) (f3 : (-2147483648) ≤ n1) (f4 : n2 = 7) (f5 : hWt T0 H0 ∧ True) (f6 : 0 ≤ n1) (f7 : n3 = 8) (f8 : n1 < n3) (f9 : 0 ≤ n0) (f10 : n4 = 60) (f11 : n0 ≤ n4) (f12 : n5 = 23) (f13 : n5 = hV H0 (n2).toNat 7) (f14 : (hLe T0 H0 H1 ∧ hFr s_6.2.2.2.2 H0 H1 ∧ ((0 : Int) = 0 → H1.length = H0.length) ∧ hWt T0 H1) ∧ True) (f15 : n6 = 1) : postb_172v n6 n2 n1 n0 H0 H1 := by
  unfold postb_172v
  omega
theorem c_172v_s_3 : vOkm T0 (eP e_172v L_172v A_172v mu_172v none) 3 ([(0, [6], [], 1), (1006, [5, 1, 2], [0, 1], 0), (20, [5, 0], [0], 7), (0, [5], [], 23), (45, [2, 4], [], 0), (0, [4], [], 60), (33, [2], [], 0), (42, [1, 3], [], 0), (0, [3], [], 8), (33, [1], [], 0), (6000, [0, 1, 2], [0], 0), (0, [0], [], 7), (90, [1], [], -2147483648), (91, [1], [], 2147483647), (90, [2], [], -2147483648), (91, [2], [], 2147483647)], (3000, [6], [1], 32)) := vOk_in fun ρ η h => by
  obtain ⟨f0, f1, f2, f3, f4, f5, f6, f7, f8, f9, f10, f11, f12, f13, f14, f15, _⟩ := h
  exact q_172v_3 (n0 := ρ 2) (n1 := ρ 1) (n2 := ρ 0) (n3 := ρ 3) (n4 := ρ 4) (n5 := ρ 5) (n6 := ρ 6) (H0 := η 0) (H1 := η 1) f15 f14 f13 f12 f11 f10 f9 f8 f7 f6 f5 f4 f3 f2 f1 f0
theorem q_172v_4 {n0 n1 n2 n3 n4 n5 : Int} {H0 : gH} (f0 : n0 ≤ 2147483647) (f1 : (-2147483648) ≤ n0) (f2 : n1 ≤ 2147483647) (f3 : (-2147483648) ≤ n1) (f4 : n2 = 7) (f5 : hWt T0 H0 ∧ True) (f6 : 0 ≤ n1) (f7 : n3 = 8) (f8 : n1 < n3) (f9 : 0 ≤ n0) (f10 : n4 = 60) (f11 : n4 < n0) (f12 : n5 = 0) : postb_172v n5 n2 n1 n0 H0 H0 := by
  unfold postb_172v
  omega
theorem c_172v_s_4 : vOkm T0 (eP e_172v L_172v A_172v mu_172v none) 3 ([(0, [5], [], 0), (44, [2, 4], [], 0), (0, [4], [], 60), (33, [2], [], 0), (42, [1, 3], [], 0), (0, [3], [], 8), (33, [1], [], 0), (6000, [0, 1, 2], [0], 0), (0, [0], [], 7), (90, [1], [], -2147483648), (91, [1], [], 2147483647), (90, [2], [], -2147483648), (91, [2], [], 2147483647)], (3000, [5], [0], 21)) := vOk_in fun ρ η h => by
  obtain ⟨f0, f1, f2, f3, f4, f5, f6, f7, f8, f9, f10, f11, f12, _⟩ := h
  exact q_172v_4 (n0 := ρ 2) (n1 := ρ 1) (n2 := ρ 0) (n3 := ρ 3) (n4 := ρ 4) (n5 := ρ 5) (H0 := η 0) f12 f11 f10 f9 f8 f7 f6 f5 f4 f3 f2 f1 f0
def p_172v_s : List vG := [([(0, [3], [], 0), (32, [1], [], 0), (6000, [0, 1, 2], [0], 0), (0, [0], [], 7), (90, [1], [], -2147483648), (91, [1], [], 2147483647), (90, [2], [], -2147483648), (91, [2], [], 2147483647)], (3000, [3], [0], 21)),
  ([(0, [4], [], 0), (43, [1, 3], [], 0), (0, [3], [], 8), (33, [1], [], 0), (6000, [0, 1, 2], [0], 0), (0, [0], [], 7), (90, [1], [], -2147483648), (91, [1], [], 2147483647), (90, [2], [], -2147483648), (91, [2], [], 2147483647)], (3000, [4], [0], 21)),
  ([(0, [4], [], 0), (32, [2], [], 0), (42, [1, 3], [], 0), (0, [3], [], 8), (33, [1], [], 0), (6000, [0, 1, 2], [0], 0), (0, [0], [], 7), (90, [1], [], -2147483648), (91, [1], [], 2147483647), (90, [2], [], -2147483648), (91, [2], [], 2147483647)], (3000, [4], [0], 21)),
  ([(0, [6], [], 1), (1006, [5, 1, 2], [0, 1], 0), (20, [5, 0], [0], 7), (0, [5], [], 23), (45, [2, 4], [], 0), (0, [4], [], 60), (33, [2], [], 0), (42, [1, 3], [], 0), (0, [3], [], 8), (33, [1], [], 0), (6000, [0, 1, 2], [0], 0), (0, [0], [], 7), (90, [1], [], -2147483648), (91, [1], [], 2147483647), (90, [2], [], -2147483648), (91, [2], [], 2147483647)], (3000, [6], [1], 32)),
  ([(0, [5], [], 0), (44, [2, 4], [], 0), (0, [4], [], 60), (33, [2], [], 0), (42, [1, 3], [], 0), (0, [3], [], 8), (33, [1], [], 0), (6000, [0, 1, 2], [0], 0), (0, [0], [], 7), (90, [1], [], -2147483648), (91, [1], [], 2147483647), (90, [2], [], -2147483648), (91, [2], [], 2147483647)], (3000, [5], [0], 21))]
theorem r_172v_s : vCovO false (eR0 e_172v L_172v cs_172v 2000) p_172v_s = true := by decide +kernel
theorem m_172v (d : Nat) : eC e_172v (d + 3) := eC_ok (e := e_172v) (L := L_172v) (cs := cs_172v) (n := 2000) (d := d + 2) (A := A_172v) (μ := mu_172v) (tp := false) (p0 := p_172v_s) rfl ⟨m_6 d, trivial⟩ rfl (.inr pre0_ok) (by decide +kernel) (fun z => nomatch z) r_172v_s (allC c_172v_s_0 (allC c_172v_s_1 (allC c_172v_s_2 (allC c_172v_s_3 (allC c_172v_s_4 allN))))) allN
/- MixStageModel.mark (II)Z -/
noncomputable def s_262v : vM := ([(3, 12, 285, 0), (0, -2147483648, 2147483647, 0), (0, -2147483648, 2147483647, 0)], (0, 0, 1, 0), 1, 0, [(12, 65), (548, 0), (556, 0)])
def preb_262v (a0 a1 a2 : Int) (h : gH) : Prop := hV h 285 65 ≤ 20000 ∧ SO h ∧ SS h
def pre_262v : List Int → gH → Prop := fun xs h => match xs with
  | [a0, a1, a2] => preb_262v a0 a1 a2 h
  | _ => False
def postb_262v (r a0 a1 a2 : Int) (h0 h : gH) : Prop := SS h ∧ hV h 285 65 ≤ hV h0 285 65 + 1 ∧ ((r = 1 ∧ 0 ≤ a1 ∧ a1 ≤ 7 ∧ 0 ≤ a2 ∧ a2 ≤ 60) ∨ (r = 0 ∧ ¬ (0 ≤ a1 ∧ a1 ≤ 7 ∧ 0 ≤ a2 ∧ a2 ≤ 60)))
def post_262v : List Int → gH → gH → Prop := fun xs h0 h => match xs with
  | [r, a0, a1, a2] => postb_262v r a0 a1 a2 h0 h
  | _ => True
noncomputable def e_262v : vE := (262, s_262v, pre_262v, post_262v)
noncomputable def L_262v : List vE := [e_251]
def cs_262v : List vC := []
def A_262v : Int → List Int → gH → gH → Prop := fun c xs h0 h => True
def mu_262v : Int → List Int → gH → gH → Nat := fun c xs h0 h => 0
theorem q_262v_0 {n0 n1 n2 n3 n4 n5 n6 : Int} {H0 H1 : gH} (f0 : n0 ≤ 2147483647) (f1 : (-2147483648) ≤ n0) (f2 : n1 ≤ 2147483647) (f3 : (-2147483648) ≤ n1) (f4 : n2 = 285) (f5 : hWt T0 H0 ∧ preb_262v n2 n1 n0 H0) (f6 : n3 = 0) (f7 : n4 = 7) (f8 : n5 ≤ 1) (f9 : 0 ≤ n5) (f10 : (hLe T0 H0 H1 ∧ hFr s_251.2.2.2.2 H0 H1 ∧ ((0 : Int) = 0 → H1.length = H0.length) ∧ hWt T0 H1) ∧ postb_251 n5 n1 n3 n4 H0 H1) (f11 : n5 = 0) (f12 : n6 = 0) : postb_262v n6 n2 n1 n0 H0 H1 := by
  unfold preb_262v at f5
  unfold postb_251 at f10
  unfold postb_262v
  have e0 : hV H1 285 65 = hV H0 285 65 := f10.1.2.1.1 285 65 (by decide +kernel)
  have e1 : hV H1 285 65 = hV H0 285 65 := e0
  have e2 : hV H1 333 = hV H0 333 := fRow f10.1.2.1 333 (by decide +kernel)
  have e3 : hV H1 334 = hV H0 334 := fRow f10.1.2.1 334 (by decide +kernel)
  have e4 : hV H1 341 = hV H0 341 := fRow f10.1.2.1 341 (by decide +kernel)
  have e5 : (0 : Int) ≤ hV H0 285 65 ∧ hV H0 285 65 ≤ 2147483647 := f5.1 285 65 _ _ (by decide +kernel)
  have e6 : (0 : Int) ≤ hV H1 285 65 ∧ hV H1 285 65 ≤ 2147483647 := f10.1.2.2.2 285 65 _ _ (by decide +kernel)
  try simp only [SS] at *
  try simp only [e1, e2, e3, e4] at f5
  try simp only [e1, e2, e3, e4] at f10
  try simp only [e1, e2, e3, e4] at e5
  try simp only [e1, e2, e3, e4] at e6
  try simp only [e1, e2, e3, e4]
  have p0 := f5.2.1
  have p1 := f5.2.2.1
  have p2 := f5.2.2.2
  have r0_0 := f10.2
  try simp only [e1, e2, e3, e4] at p0
  try simp only [e1, e2, e3, e4] at p1
  try simp only [e1, e2, e3, e4] at p2
  try simp only [e1, e2, e3, e4] at r0_0
  clear e0 e1 e2 e3 e4

  first
  | exact ⟨p2, by omega, by omega⟩
  | exact ⟨SSp_mark p2 (by omega) (by omega), by omega, by omega⟩
def g_262v_s_0 : vG := ([(0, [6], [], 0), (30, [5], [], 0), (1251, [5, 1, 3, 4], [0, 1], 0), (90, [5], [], 0), (91, [5], [], 1), (0, [4], [], 7), (0, [3], [], 0), (6000, [0, 1, 2], [0], 0), (0, [0], [], 285), (90, [1], [], -2147483648), (91, [1], [], 2147483647), (90, [2], [], -2147483648), (91, [2], [], 2147483647)], (3000, [6], [1], 21))
theorem c_262v_s_0 : vOkm T0 (eP e_262v L_262v A_262v mu_262v none) 3 g_262v_s_0 := vOk_in fun ρ η h => by
  obtain ⟨f0, f1, f2, f3, f4, f5, f6, f7, f8, f9, f10, f11, f12, _⟩ := h
  exact q_262v_0 (n0 := ρ 2) (n1 := ρ 1) (n2 := ρ 0) (n3 := ρ 3) (n4 := ρ 4) (n5 := ρ 5) (n6 := ρ 6) (H0 := η 0) (H1 := η 1) f12 f11 f10 f9 f8 f7 f6 f5 f4 f3 f2 f1 f0
theorem q_262v_1 {n0 n1 n2 n3 n4 n5 n6 n7 n8 : Int} {H0 H1 H2 : gH} (f0 : n0 ≤ 2147483647) (f1 : (-2147483648) ≤ n0) (f2 : n1 ≤ 2147483647) (f3 : (-2147483648) ≤ n1) (f4 : n2 = 285) (f5 : hWt T0 H0 ∧ preb_262v n2 n1 n0 H0) (f6 : n3 = 0) (f7 : n4 = 7) (f8 : n5 ≤ 1) (f9 : 0 ≤ n5) (f10 : (hLe T0 H0 H1 ∧ hFr s_251.2.2.2.2 H0 H1 ∧ ((0 : Int) = 0 → H1.length = H0.length) ∧ hWt T0 H1) ∧ postb_251 n5 n1 n3 n4 H0 H1) (f11 : n5 ≠ 0) (f12 : n6 = 0) (f13 : n7 = 60) (f14 : n8 ≤ 1) (f15 : 0 ≤ n8) (f16 : (hLe T0 H1 H2 ∧ hFr s_251.2.2.2.2 H1 H2 ∧ ((0 : Int) = 0 → H2.length = H1.length) ∧ hWt T0 H2) ∧ postb_251 n8 n0 n6 n7 H1 H2) (f17 : n8 ≠ 0) : 0 ≤ n1 ∧ n1 < 8 := by
  unfold preb_262v at f5
  unfold postb_251 at f10
  unfold postb_251 at f16
  have e0 : (0 : Int) ≤ hV H0 285 65 ∧ hV H0 285 65 ≤ 2147483647 := f5.1 285 65 _ _ (by decide +kernel)
  have p0 := f5.2.1
  have p1 := f5.2.2.1
  have p2 := f5.2.2.2
  have r0_0 := f10.2
  have r1_0 := f16.2
  omega
def g_262v_s_1 : vG := ([(31, [8], [], 0), (1251, [8, 2, 6, 7], [1, 2], 0), (90, [8], [], 0), (91, [8], [], 1), (0, [7], [], 60), (0, [6], [], 0), (31, [5], [], 0), (1251, [5, 1, 3, 4], [0, 1], 0), (90, [5], [], 0), (91, [5], [], 1), (0, [4], [], 7), (0, [3], [], 0), (6000, [0, 1, 2], [0], 0), (0, [0], [], 285), (90, [1], [], -2147483648), (91, [1], [], 2147483647), (90, [2], [], -2147483648), (91, [2], [], 2147483647)], (70, [1], [], 8))
theorem c_262v_s_1 : vOkm T0 (eP e_262v L_262v A_262v mu_262v none) 3 g_262v_s_1 := vOk_in fun ρ η h => by
  obtain ⟨f0, f1, f2, f3, f4, f5, f6, f7, f8, f9, f10, f11, f12, f13, f14, f15, f16, f17, _⟩ := h
  exact q_262v_1 (n0 := ρ 2) (n1 := ρ 1) (n2 := ρ 0) (n3 := ρ 3) (n4 := ρ 4) (n5 := ρ 5) (n6 := ρ 6) (n7 := ρ 7) (n8 := ρ 8) (H0 := η 0) (H1 := η 1) (H2 := η 2) f17 f16 f15 f14 f13 f12 f11 f10 f9 f8 f7 f6 f5 f4 f3 f2 f1 f0
theorem q_262v_2 {n0 n1 n2 n3 n4 n5 n6 n7 n8 : Int} {H0 H1 H2 : gH} (f0 : n0 ≤ 2147483647) (f1 : (-2147483648) ≤ n0) (f2 : n1 ≤ 2147483647) (f3 : (-2147483648) ≤ n1) (f4 : n2 = 285) (f5 : hWt T0 H0 ∧ preb_262v n2 n1 n0 H0) (f6 : n3 = 0) (f7 : n4 = 7) (f8 : n5 ≤ 1) (f9 : 0 ≤ n5) (f10 : (hLe T0 H0 H1 ∧ hFr s_251.2.2.2.2 H0 H1 ∧ ((0 : Int) = 0 → H1.length = H0.length) ∧ hWt T0 H1) ∧ postb_251 n5 n1 n3 n4 H0 H1) (f11 : n5 ≠ 0) (f12 : n6 = 0) (f13 : n7 = 60) (f14 : n8 ≤ 1) (f15 : 0 ≤ n8) (f16 : (hLe T0 H1 H2 ∧ hFr s_251.2.2.2.2 H1 H2 ∧ ((0 : Int) = 0 → H2.length = H1.length) ∧ hWt T0 H2) ∧ postb_251 n8 n0 n6 n7 H1 H2) (f17 : n8 ≠ 0) : 0 ≤ n0 := by
  unfold preb_262v at f5
  unfold postb_251 at f10
  unfold postb_251 at f16
  have e0 : (0 : Int) ≤ hV H0 285 65 ∧ hV H0 285 65 ≤ 2147483647 := f5.1 285 65 _ _ (by decide +kernel)
  have p0 := f5.2.1
  have p1 := f5.2.2.1
  have p2 := f5.2.2.2
  have r0_0 := f10.2
  have r1_0 := f16.2
  omega
def g_262v_s_2 : vG := ([(31, [8], [], 0), (1251, [8, 2, 6, 7], [1, 2], 0), (90, [8], [], 0), (91, [8], [], 1), (0, [7], [], 60), (0, [6], [], 0), (31, [5], [], 0), (1251, [5, 1, 3, 4], [0, 1], 0), (90, [5], [], 0), (91, [5], [], 1), (0, [4], [], 7), (0, [3], [], 0), (6000, [0, 1, 2], [0], 0), (0, [0], [], 285), (90, [1], [], -2147483648), (91, [1], [], 2147483647), (90, [2], [], -2147483648), (91, [2], [], 2147483647)], (90, [2], [], 0))
theorem c_262v_s_2 : vOkm T0 (eP e_262v L_262v A_262v mu_262v none) 3 g_262v_s_2 := vOk_in fun ρ η h => by
  obtain ⟨f0, f1, f2, f3, f4, f5, f6, f7, f8, f9, f10, f11, f12, f13, f14, f15, f16, f17, _⟩ := h
  exact q_262v_2 (n0 := ρ 2) (n1 := ρ 1) (n2 := ρ 0) (n3 := ρ 3) (n4 := ρ 4) (n5 := ρ 5) (n6 := ρ 6) (n7 := ρ 7) (n8 := ρ 8) (H0 := η 0) (H1 := η 1) (H2 := η 2) f17 f16 f15 f14 f13 f12 f11 f10 f9 f8 f7 f6 f5 f4 f3 f2 f1 f0
theorem q_262v_3 {n0 n1 n2 n3 n4 n5 n6 n7 n8 : Int} {H0 H1 H2 : gH} (f0 : n0 ≤ 2147483647) (f1 : (-2147483648) ≤ n0) (f2 : n1 ≤ 2147483647) (f3 : (-2147483648) ≤ n1) (f4 : n2 = 285) (f5 : hWt T0 H0 ∧ preb_262v n2 n1 n0 H0) (f6 : n3 = 0) (f7 : n4 = 7) (f8 : n5 ≤ 1) (f9 : 0 ≤ n5) (f10 : (hLe T0 H0 H1 ∧ hFr s_251.2.2.2.2 H0 H1 ∧ ((0 : Int) = 0 → H1.length = H0.length) ∧ hWt T0 H1) ∧ postb_251 n5 n1 n3 n4 H0 H1) (f11 : n5 ≠ 0) (f12 : n6 = 0) (f13 : n7 = 60) (f14 : n8 ≤ 1) (f15 : 0 ≤ n8) (f16 : (hLe T0 H1 H2 ∧ hFr s_251.2.2.2.2 H1 H2 ∧ ((0 : Int) = 0 → H2.length = H1.length) ∧ hWt T0 H2) ∧ postb_251 n8 n0 n6 n7 H1 H2) (f17 : n8 ≠ 0) : n0 ≤ 60 := by
  unfold preb_262v at f5
  unfold postb_251 at f10
  unfold postb_251 at f16
  have e0 : (0 : Int) ≤ hV H0 285 65 ∧ hV H0 285 65 ≤ 2147483647 := f5.1 285 65 _ _ (by decide +kernel)
  have p0 := f5.2.1
  have p1 := f5.2.2.1
  have p2 := f5.2.2.2
  have r0_0 := f10.2
  have r1_0 := f16.2
  omega
def g_262v_s_3 : vG := ([(31, [8], [], 0), (1251, [8, 2, 6, 7], [1, 2], 0), (90, [8], [], 0), (91, [8], [], 1), (0, [7], [], 60), (0, [6], [], 0), (31, [5], [], 0), (1251, [5, 1, 3, 4], [0, 1], 0), (90, [5], [], 0), (91, [5], [], 1), (0, [4], [], 7), (0, [3], [], 0), (6000, [0, 1, 2], [0], 0), (0, [0], [], 285), (90, [1], [], -2147483648), (91, [1], [], 2147483647), (90, [2], [], -2147483648), (91, [2], [], 2147483647)], (91, [2], [], 60))
theorem c_262v_s_3 : vOkm T0 (eP e_262v L_262v A_262v mu_262v none) 3 g_262v_s_3 := vOk_in fun ρ η h => by
  obtain ⟨f0, f1, f2, f3, f4, f5, f6, f7, f8, f9, f10, f11, f12, f13, f14, f15, f16, f17, _⟩ := h
  exact q_262v_3 (n0 := ρ 2) (n1 := ρ 1) (n2 := ρ 0) (n3 := ρ 3) (n4 := ρ 4) (n5 := ρ 5) (n6 := ρ 6) (n7 := ρ 7) (n8 := ρ 8) (H0 := η 0) (H1 := η 1) (H2 := η 2) f17 f16 f15 f14 f13 f12 f11 f10 f9 f8 f7 f6 f5 f4 f3 f2 f1 f0
theorem q_262v_4 {n0 n1 n2 n3 n4 n5 n6 n7 n8 n9 n10 n11 n12 : Int} {H0 H1 H2 H3 : gH} (f0 : n0 ≤ 2147483647) (f1 : (-2147483648) ≤ n0) (f2 : n1 ≤ 2147483647) (f3 : (-2147483648) ≤ n1) (f4 : n2 = 285) (f5 : hWt T0 H0 ∧ preb_262v n2 n1 n0 H0) (f6 : n3 = 0) (f7 : n4 = 7) (f8 : n5 ≤ 1) (f9 : 0 ≤ n5) (f10 : (hLe T0 H0 H1 ∧ hFr s_251.2.2.2.2 H0 H1 ∧ ((0 : Int) = 0 → H1.length = H0.length) ∧ hWt T0 H1) ∧ postb_251 n5 n1 n3 n4 H0 H1) (f11 : n5 ≠ 0) (f12 : n6 = 0) (f13 : n7 = 60) (f14 : n8 ≤ 1) (f15 : 0 ≤ n8) (f16 : (hLe T0 H1 H2 ∧ hFr s_251.2.2.2.2 H1 H2 ∧ ((0 : Int) = 0 → H2.length = H1.length) ∧ hWt T0 H2) ∧ postb_251 n8 n0 n6 n7 H1 H2) (f17 : n8 ≠ 0) (f18 : n9 = 340) (f19 : n9 = hV H2 (n2).toNat 78) (f20 : hUpd H3 H2 n9 n1 n0) (f21 : n10 ≤ 2147483647) (f22 : 0 ≤ n10) (f23 : n10 = hV H3 (n2).toNat 65) (f24 : n11 = 1) (f25 : n12 = w32 (n10 + n11)) : 0 ≤ n12 := by
  unfold preb_262v at f5
  unfold postb_251 at f10
  unfold postb_251 at f16
  have e0 : hV H3 285 65 = hV H2 285 65 := uPlace f20 _ _ (iS (show n9 = ((340 : Nat) : Int) from f18) rfl)
  have e1 : hV H2 285 65 = hV H1 285 65 := f16.1.2.1.1 285 65 (by decide +kernel)
  have e2 : hV H1 285 65 = hV H0 285 65 := f10.1.2.1.1 285 65 (by decide +kernel)
  have e3 : n10 = hV H0 285 65 := (by rw [f4] at f23; exact f23 : n10 = hV H3 285 65).trans ((e0).trans ((e1).trans e2))
  have e4 : (0 : Int) ≤ hV H0 285 65 ∧ hV H0 285 65 ≤ 2147483647 := f5.1 285 65 _ _ (by decide +kernel)
  have p0 := f5.2.1
  have p1 := f5.2.2.1
  have p2 := f5.2.2.2
  have r0_0 := f10.2
  have r1_0 := f16.2
  clear f19 f23 e0 e1 e2
  subst e3
  unfold w32 at *
  try (have ix0 : n12 = hV H0 285 65 + 1 := (by omega); subst ix0)
  omega
def g_262v_s_4 : vG := ([(1, [12, 10, 11], [], 0), (0, [11], [], 1), (20, [10, 0], [3], 65), (90, [10], [], 0), (91, [10], [], 2147483647), (80, [9, 1, 2], [3, 2], 0), (20, [9, 0], [2], 78), (0, [9], [], 340), (31, [8], [], 0), (1251, [8, 2, 6, 7], [1, 2], 0), (90, [8], [], 0), (91, [8], [], 1), (0, [7], [], 60), (0, [6], [], 0), (31, [5], [], 0), (1251, [5, 1, 3, 4], [0, 1], 0), (90, [5], [], 0), (91, [5], [], 1), (0, [4], [], 7), (0, [3], [], 0), (6000, [0, 1, 2], [0], 0), (0, [0], [], 285), (90, [1], [], -2147483648), (91, [1], [], 2147483647), (90, [2], [], -2147483648), (91, [2], [], 2147483647)], (90, [12], [], 0))
theorem c_262v_s_4 : vOkm T0 (eP e_262v L_262v A_262v mu_262v none) 3 g_262v_s_4 := vOk_in fun ρ η h => by
  obtain ⟨f0, f1, f2, f3, f4, f5, f6, f7, f8, f9, f10, f11, f12, f13, f14, f15, f16, f17, f18, f19, f20, f21, f22, f23, f24, f25, _⟩ := h
  exact q_262v_4 (n0 := ρ 2) (n1 := ρ 1) (n2 := ρ 0) (n3 := ρ 3) (n4 := ρ 4) (n5 := ρ 5) (n6 := ρ 6) (n7 := ρ 7) (n8 := ρ 8) (n9 := ρ 9) (n10 := ρ 10) (n11 := ρ 11) (n12 := ρ 12) (H0 := η 0) (H1 := η 1) (H2 := η 2) (H3 := η 3) f25 f24 f23 f22 f21 f20 f19 f18 f17 f16 f15 f14 f13 f12 f11 f10 f9 f8 f7 f6 f5 f4 f3 f2 f1 f0
theorem q_262v_5 {n0 n1 n2 n3 n4 n5 n6 n7 n8 n9 n10 n11 n12 : Int} {H0 H1 H2 H3 : gH} (f0 : n0 ≤ 2147483647) (f1 : (-2147483648) ≤ n0) (f2 : n1 ≤ 2147483647) (f3 : (-2147483648) ≤ n1) (f4 : n2 = 285) (f5 : hWt T0 H0 ∧ preb_262v n2 n1 n0 H0) (f6 : n3 = 0) (f7 : n4 = 7) (f8 : n5 ≤ 1) (f9 : 0 ≤ n5) (f10 : (hLe T0 H0 H1 ∧ hFr s_251.2.2.2.2 H0 H1 ∧ ((0 : Int) = 0 → H1.length = H0.length) ∧ hWt T0 H1) ∧ postb_251 n5 n1 n3 n4 H0 H1) (f11 : n5 ≠ 0) (f12 : n6 = 0) (f13 : n7 = 60) (f14 : n8 ≤ 1) (f15 : 0 ≤ n8) (f16 : (hLe T0 H1 H2 ∧ hFr s_251.2.2.2.2 H1 H2 ∧ ((0 : Int) = 0 → H2.length = H1.length) ∧ hWt T0 H2) ∧ postb_251 n8 n0 n6 n7 H1 H2) (f17 : n8 ≠ 0) (f18 : n9 = 340) (f19 : n9 = hV H2 (n2).toNat 78) (f20 : hUpd H3 H2 n9 n1 n0) (f21 : n10 ≤ 2147483647) (f22 : 0 ≤ n10) (f23 : n10 = hV H3 (n2).toNat 65) (f24 : n11 = 1) (f25 : n12 = w32 (n10 + n11)) : n12 ≤ 2147483647 := by
  unfold preb_262v at f5
  unfold postb_251 at f10
  unfold postb_251 at f16
  have e0 : hV H3 285 65 = hV H2 285 65 := uPlace f20 _ _ (iS (show n9 = ((340 : Nat) : Int) from f18) rfl)
  have e1 : hV H2 285 65 = hV H1 285 65 := f16.1.2.1.1 285 65 (by decide +kernel)
  have e2 : hV H1 285 65 = hV H0 285 65 := f10.1.2.1.1 285 65 (by decide +kernel)
  have e3 : n10 = hV H0 285 65 := (by rw [f4] at f23; exact f23 : n10 = hV H3 285 65).trans ((e0).trans ((e1).trans e2))
  have e4 : (0 : Int) ≤ hV H0 285 65 ∧ hV H0 285 65 ≤ 2147483647 := f5.1 285 65 _ _ (by decide +kernel)
  have p0 := f5.2.1
  have p1 := f5.2.2.1
  have p2 := f5.2.2.2
  have r0_0 := f10.2
  have r1_0 := f16.2
  clear f19 f23 e0 e1 e2
  subst e3
  unfold w32 at *
  try (have ix0 : n12 = hV H0 285 65 + 1 := (by omega); subst ix0)
  omega
def g_262v_s_5 : vG := ([(1, [12, 10, 11], [], 0), (0, [11], [], 1), (20, [10, 0], [3], 65), (90, [10], [], 0), (91, [10], [], 2147483647), (80, [9, 1, 2], [3, 2], 0), (20, [9, 0], [2], 78), (0, [9], [], 340), (31, [8], [], 0), (1251, [8, 2, 6, 7], [1, 2], 0), (90, [8], [], 0), (91, [8], [], 1), (0, [7], [], 60), (0, [6], [], 0), (31, [5], [], 0), (1251, [5, 1, 3, 4], [0, 1], 0), (90, [5], [], 0), (91, [5], [], 1), (0, [4], [], 7), (0, [3], [], 0), (6000, [0, 1, 2], [0], 0), (0, [0], [], 285), (90, [1], [], -2147483648), (91, [1], [], 2147483647), (90, [2], [], -2147483648), (91, [2], [], 2147483647)], (91, [12], [], 2147483647))
theorem c_262v_s_5 : vOkm T0 (eP e_262v L_262v A_262v mu_262v none) 3 g_262v_s_5 := vOk_in fun ρ η h => by
  obtain ⟨f0, f1, f2, f3, f4, f5, f6, f7, f8, f9, f10, f11, f12, f13, f14, f15, f16, f17, f18, f19, f20, f21, f22, f23, f24, f25, _⟩ := h
  exact q_262v_5 (n0 := ρ 2) (n1 := ρ 1) (n2 := ρ 0) (n3 := ρ 3) (n4 := ρ 4) (n5 := ρ 5) (n6 := ρ 6) (n7 := ρ 7) (n8 := ρ 8) (n9 := ρ 9) (n10 := ρ 10) (n11 := ρ 11) (n12 := ρ 12) (H0 := η 0) (H1 := η 1) (H2 := η 2) (H3 := η 3) f25 f24 f23 f22 f21 f20 f19 f18 f17 f16 f15 f14 f13 f12 f11 f10 f9 f8 f7 f6 f5 f4 f3 f2 f1 f0
theorem q_262v_6 {n0 n1 n2 n3 n4 n5 n6 n7 n8 n9 n10 n11 n12 n13 n14 : Int} {H0 H1 H2 H3 H4 : gH} (f0 : n0 ≤ 2147483647) (f1 : (-2147483648) ≤ n0) (f2 : n1 ≤ 2147483647) (f3 : (-2147483648) ≤ n1) (f4 : n2 = 285) (f5 : hWt T0 H0 ∧ preb_262v n2 n1 n0 H0) (f6 : n3 = 0) (f7 : n4 = 7) (f8 : n5 ≤ 1) (f9 : 0 ≤ n5) (f10 : (hLe T0 H0 H1 ∧ hFr s_251.2.2.2.2 H0 H1 ∧ ((0 : Int) = 0 → H1.length = H0.length) ∧ hWt T0 H1) ∧ postb_251 n5 n1 n3 n4 H0 H1) (f11 : n5 ≠ 0) (f12 : n6 = 0) (f13 : n7 = 60) (f14 : n8 ≤ 1) (f15 : 0 ≤ n8) (f16 : (hLe T0 H1 H2 ∧ hFr s_251.2.2.2.2 H1 H2 ∧ ((0 : Int) = 0 → H2.length = H1.length) ∧ hWt T0 H2) ∧ postb_251 n8 n0 n6 n7 H1 H2) (f17 : n8 ≠ 0) (f18 : n9 = 340) (f19 : n9 = hV H2 (n2).toNat 78) (f20 : hUpd H3 H2 n9 n1 n0) (f21 : n10 ≤ 2147483647) (f22 : 0 ≤ n10) (f23 : n10 = hV H3 (n2).toNat 65) (f24 : n11 = 1) (f25 : n12 = w32 (n10 + n11)) (f26 : n13 = 65) (f27 : hUpd H4 H3 n2 n13 n12) (f28 : n14 ≤ 2147483647) (f29 : 0 ≤ n14) (f30 : n14 = hV H4 (n2).toNat 65) : 0 ≤ n1 ∧ n1 < 8 := by
  unfold preb_262v at f5
  unfold postb_251 at f10
  unfold postb_251 at f16
  have e0 : hV H3 285 65 = hV H2 285 65 := uPlace f20 _ _ (iS (show n9 = ((340 : Nat) : Int) from f18) rfl)
  have e1 : hV H2 285 65 = hV H1 285 65 := f16.1.2.1.1 285 65 (by decide +kernel)
  have e2 : hV H1 285 65 = hV H0 285 65 := f10.1.2.1.1 285 65 (by decide +kernel)
  have e3 : n10 = hV H0 285 65 := (by rw [f4] at f23; exact f23 : n10 = hV H3 285 65).trans ((e0).trans ((e1).trans e2))
  have e4 : hV H4 285 65 = n12 := uSame f27 _ _ f4.symm f26.symm
  have e5 : n14 = n12 := (by rw [f4] at f30; exact f30 : n14 = hV H4 285 65).trans (e4)
  have e6 : (0 : Int) ≤ hV H0 285 65 ∧ hV H0 285 65 ≤ 2147483647 := f5.1 285 65 _ _ (by decide +kernel)
  have p0 := f5.2.1
  have p1 := f5.2.2.1
  have p2 := f5.2.2.2
  have r0_0 := f10.2
  have r1_0 := f16.2
  clear f19 f23 f30 e0 e1 e2
  subst e3
  unfold w32 at *
  try (have ix0 : n12 = hV H0 285 65 + 1 := (by omega); subst ix0)
  omega
def g_262v_s_6 : vG := ([(20, [15, 0], [4], 65), (90, [15], [], 0), (91, [15], [], 2147483647), (80, [0, 13, 12], [4, 3], 0), (0, [13], [], 65), (1, [12, 10, 11], [], 0), (0, [11], [], 1), (20, [10, 0], [3], 65), (90, [10], [], 0), (91, [10], [], 2147483647), (80, [9, 1, 2], [3, 2], 0), (20, [9, 0], [2], 78), (0, [9], [], 340), (31, [8], [], 0), (1251, [8, 2, 6, 7], [1, 2], 0), (90, [8], [], 0), (91, [8], [], 1), (0, [7], [], 60), (0, [6], [], 0), (31, [5], [], 0), (1251, [5, 1, 3, 4], [0, 1], 0), (90, [5], [], 0), (91, [5], [], 1), (0, [4], [], 7), (0, [3], [], 0), (6000, [0, 1, 2], [0], 0), (0, [0], [], 285), (90, [1], [], -2147483648), (91, [1], [], 2147483647), (90, [2], [], -2147483648), (91, [2], [], 2147483647)], (70, [1], [], 8))
theorem c_262v_s_6 : vOkm T0 (eP e_262v L_262v A_262v mu_262v none) 3 g_262v_s_6 := vOk_in fun ρ η h => by
  obtain ⟨f0, f1, f2, f3, f4, f5, f6, f7, f8, f9, f10, f11, f12, f13, f14, f15, f16, f17, f18, f19, f20, f21, f22, f23, f24, f25, f26, f27, f28, f29, f30, _⟩ := h
  exact q_262v_6 (n0 := ρ 2) (n1 := ρ 1) (n2 := ρ 0) (n3 := ρ 3) (n4 := ρ 4) (n5 := ρ 5) (n6 := ρ 6) (n7 := ρ 7) (n8 := ρ 8) (n9 := ρ 9) (n10 := ρ 10) (n11 := ρ 11) (n12 := ρ 12) (n13 := ρ 13) (n14 := ρ 15) (H0 := η 0) (H1 := η 1) (H2 := η 2) (H3 := η 3) (H4 := η 4) f30 f29 f28 f27 f26 f25 f24 f23 f22 f21 f20 f19 f18 f17 f16 f15 f14 f13 f12 f11 f10 f9 f8 f7 f6 f5 f4 f3 f2 f1 f0
theorem q_262v_7 {n0 n1 n2 n3 n4 n5 n6 n7 n8 n9 n10 n11 n12 n13 n14 n15 n16 : Int} {H0 H1 H2 H3 H4 H5 : gH} (f0 : n0 ≤ 2147483647) (f1 : (-2147483648) ≤ n0) (f2 : n1 ≤ 2147483647) (f3 : (-2147483648) ≤ n1) (f4 : n2 = 285) (f5 : hWt T0 H0 ∧ preb_262v n2 n1 n0 H0) (f6 : n3 = 0) (f7 : n4 = 7) (f8 : n5 ≤ 1) (f9 : 0 ≤ n5) (f10 : (hLe T0 H0 H1 ∧ hFr s_251.2.2.2.2 H0 H1 ∧ ((0 : Int) = 0 → H1.length = H0.length) ∧ hWt T0 H1) ∧ postb_251 n5 n1 n3 n4 H0 H1) (f11 : n5 ≠ 0) (f12 : n6 = 0) (f13 : n7 = 60) (f14 : n8 ≤ 1) (f15 : 0 ≤ n8) (f16 : (hLe T0 H1 H2 ∧ hFr s_251.2.2.2.2 H1 H2 ∧ ((0 : Int) = 0 → H2.length = H1.length) ∧ hWt T0 H2) ∧ postb_251 n8 n0 n6 n7 H1 H2) (f17 : n8 ≠ 0) (f18 : n9 = 340) (f19 : n9 = hV H2 (n2).toNat 78) (f20 : hUpd H3 H2 n9 n1 n0) (f21 : n10 ≤ 2147483647) (f22 : 0 ≤ n10) (f23 : n10 = hV H3 (n2).toNat 65) (f24 : n11 = 1) (f25 : n12 = w32 (n10 + n11)) (f26 : n13 = 65) (f27 : hUpd H4 H3 n2 n13 n12) (f28 : n14 = 341) (f29 : n14 = hV H4 (n2).toNat 79) (f30 : n15 ≤ 2147483647) (f31 : 0 ≤ n15) (f32 : n15 = hV H4 (n2).toNat 65) (f33 : hUpd H5 H4 n14 n1 n15) (f34 : n16 = 1) : postb_262v n16 n2 n1 n0 H0 H5 := by
  unfold preb_262v at f5
  unfold postb_251 at f10
  unfold postb_251 at f16
  unfold postb_262v
  have e0 : hV H3 285 65 = hV H2 285 65 := uPlace f20 _ _ (iS (show n9 = ((340 : Nat) : Int) from f18) rfl)
  have e1 : hV H2 285 65 = hV H1 285 65 := f16.1.2.1.1 285 65 (by decide +kernel)
  have e2 : hV H1 285 65 = hV H0 285 65 := f10.1.2.1.1 285 65 (by decide +kernel)
  have e3 : n10 = hV H0 285 65 := (by rw [f4] at f23; exact f23 : n10 = hV H3 285 65).trans ((e0).trans ((e1).trans e2))
  have e4 : hV H4 285 65 = n12 := uSame f27 _ _ f4.symm f26.symm
  have e5 : n15 = n12 := (by rw [f4] at f32; exact f32 : n15 = hV H4 285 65).trans (e4)
  have e6 : hV H5 285 65 = hV H4 285 65 := uPlace f33 _ _ (iS (show n14 = ((341 : Nat) : Int) from f28) rfl)
  have e7 : hV H5 285 65 = n12 := (e6).trans e4
  have e8 : hV H5 333 = hV H4 333 := uRowNe f33 _ (iS (show n14 = ((341 : Nat) : Int) from f28) rfl)
  have e9 : hV H4 333 = hV H3 333 := uRowNe f27 _ (iS (show n2 = ((285 : Nat) : Int) from f4) rfl)
  have e10 : hV H3 333 = hV H2 333 := uRowNe f20 _ (iS (show n9 = ((340 : Nat) : Int) from f18) rfl)
  have e11 : hV H2 333 = hV H1 333 := fRow f16.1.2.1 333 (by decide +kernel)
  have e12 : hV H1 333 = hV H0 333 := fRow f10.1.2.1 333 (by decide +kernel)
  have e13 : hV H2 333 = hV H0 333 := e11.trans e12
  have e14 : hV H3 333 = hV H0 333 := e10.trans e13
  have e15 : hV H4 333 = hV H0 333 := e9.trans e14
  have e16 : hV H5 333 = hV H0 333 := e8.trans e15
  have e17 : hV H5 334 = hV H4 334 := uRowNe f33 _ (iS (show n14 = ((341 : Nat) : Int) from f28) rfl)
  have e18 : hV H4 334 = hV H3 334 := uRowNe f27 _ (iS (show n2 = ((285 : Nat) : Int) from f4) rfl)
  have e19 : hV H3 334 = hV H2 334 := uRowNe f20 _ (iS (show n9 = ((340 : Nat) : Int) from f18) rfl)
  have e20 : hV H2 334 = hV H1 334 := fRow f16.1.2.1 334 (by decide +kernel)
  have e21 : hV H1 334 = hV H0 334 := fRow f10.1.2.1 334 (by decide +kernel)
  have e22 : hV H2 334 = hV H0 334 := e20.trans e21
  have e23 : hV H3 334 = hV H0 334 := e19.trans e22
  have e24 : hV H4 334 = hV H0 334 := e18.trans e23
  have e25 : hV H5 334 = hV H0 334 := e17.trans e24
  have e26 : hV H5 341 = uF (hV H4 341) n1 n15 := uRow f33 _ f28.symm
  have e27 : hV H4 341 = hV H3 341 := uRowNe f27 _ (iS (show n2 = ((285 : Nat) : Int) from f4) rfl)
  have e28 : hV H3 341 = hV H2 341 := uRowNe f20 _ (iS (show n9 = ((340 : Nat) : Int) from f18) rfl)
  have e29 : hV H2 341 = hV H1 341 := fRow f16.1.2.1 341 (by decide +kernel)
  have e30 : hV H1 341 = hV H0 341 := fRow f10.1.2.1 341 (by decide +kernel)
  have e31 : hV H2 341 = hV H0 341 := e29.trans e30
  have e32 : hV H3 341 = hV H0 341 := e28.trans e31
  have e33 : hV H4 341 = hV H0 341 := e27.trans e32
  have e34 : hV H5 341 = (uF (hV H0 341) n1 n15) := e26.trans (congrArg (fun z => uF z n1 n15) e33)
  have e35 : (0 : Int) ≤ hV H0 285 65 ∧ hV H0 285 65 ≤ 2147483647 := f5.1 285 65 _ _ (by decide +kernel)
  try simp only [SS] at *
  try simp only [e7, e16, e25, e34] at f5
  try simp only [e7, e16, e25, e34] at f10
  try simp only [e7, e16, e25, e34] at f16
  try simp only [e7, e16, e25, e34] at e35
  try simp only [e7, e16, e25, e34]
  have p0 := f5.2.1
  have p1 := f5.2.2.1
  have p2 := f5.2.2.2
  have r0_0 := f10.2
  have r1_0 := f16.2
  try simp only [e7, e16, e25, e34] at p0
  try simp only [e7, e16, e25, e34] at p1
  try simp only [e7, e16, e25, e34] at p2
  try simp only [e7, e16, e25, e34] at r0_0
  try simp only [e7, e16, e25, e34] at r1_0
  clear f19 f23 f29 f32 e0 e1 e2 e6 e8 e9 e10 e11 e12 e13 e14 e15 e16 e17 e18 e19 e20 e21 e22 e23 e24 e25 e27 e28 e29 e30 e31 e32 e33 e34
  subst e3
  unfold w32 at *
  try (have ix0 : n12 = hV H0 285 65 + 1 := (by omega); subst ix0)

  first
  | exact ⟨p2, by omega, by omega⟩
  | exact ⟨SSp_mark p2 (by omega) (by omega), by omega, by omega⟩
def g_262v_s_7 : vG := ([(0, [16], [], 1), (80, [14, 1, 15], [5, 4], 0), (20, [15, 0], [4], 65), (90, [15], [], 0), (91, [15], [], 2147483647), (20, [14, 0], [4], 79), (0, [14], [], 341), (80, [0, 13, 12], [4, 3], 0), (0, [13], [], 65), (1, [12, 10, 11], [], 0), (0, [11], [], 1), (20, [10, 0], [3], 65), (90, [10], [], 0), (91, [10], [], 2147483647), (80, [9, 1, 2], [3, 2], 0), (20, [9, 0], [2], 78), (0, [9], [], 340), (31, [8], [], 0), (1251, [8, 2, 6, 7], [1, 2], 0), (90, [8], [], 0), (91, [8], [], 1), (0, [7], [], 60), (0, [6], [], 0), (31, [5], [], 0), (1251, [5, 1, 3, 4], [0, 1], 0), (90, [5], [], 0), (91, [5], [], 1), (0, [4], [], 7), (0, [3], [], 0), (6000, [0, 1, 2], [0], 0), (0, [0], [], 285), (90, [1], [], -2147483648), (91, [1], [], 2147483647), (90, [2], [], -2147483648), (91, [2], [], 2147483647)], (3000, [16], [5], 50))
theorem c_262v_s_7 : vOkm T0 (eP e_262v L_262v A_262v mu_262v none) 3 g_262v_s_7 := vOk_in fun ρ η h => by
  obtain ⟨f0, f1, f2, f3, f4, f5, f6, f7, f8, f9, f10, f11, f12, f13, f14, f15, f16, f17, f18, f19, f20, f21, f22, f23, f24, f25, f26, f27, f28, f29, f30, f31, f32, f33, f34, _⟩ := h
  exact q_262v_7 (n0 := ρ 2) (n1 := ρ 1) (n2 := ρ 0) (n3 := ρ 3) (n4 := ρ 4) (n5 := ρ 5) (n6 := ρ 6) (n7 := ρ 7) (n8 := ρ 8) (n9 := ρ 9) (n10 := ρ 10) (n11 := ρ 11) (n12 := ρ 12) (n13 := ρ 13) (n14 := ρ 14) (n15 := ρ 15) (n16 := ρ 16) (H0 := η 0) (H1 := η 1) (H2 := η 2) (H3 := η 3) (H4 := η 4) (H5 := η 5) f34 f33 f32 f31 f30 f29 f28 f27 f26 f25 f24 f23 f22 f21 f20 f19 f18 f17 f16 f15 f14 f13 f12 f11 f10 f9 f8 f7 f6 f5 f4 f3 f2 f1 f0
theorem q_262v_8 {n0 n1 n2 n3 n4 n5 n6 n7 n8 n9 : Int} {H0 H1 H2 : gH} (f0 : n0 ≤ 2147483647) (f1 : (-2147483648) ≤ n0) (f2 : n1 ≤ 2147483647) (f3 : (-2147483648) ≤ n1) (f4 : n2 = 285) (f5 : hWt T0 H0 ∧ preb_262v n2 n1 n0 H0) (f6 : n3 = 0) (f7 : n4 = 7) (f8 : n5 ≤ 1) (f9 : 0 ≤ n5) (f10 : (hLe T0 H0 H1 ∧ hFr s_251.2.2.2.2 H0 H1 ∧ ((0 : Int) = 0 → H1.length = H0.length) ∧ hWt T0 H1) ∧ postb_251 n5 n1 n3 n4 H0 H1) (f11 : n5 ≠ 0) (f12 : n6 = 0) (f13 : n7 = 60) (f14 : n8 ≤ 1) (f15 : 0 ≤ n8) (f16 : (hLe T0 H1 H2 ∧ hFr s_251.2.2.2.2 H1 H2 ∧ ((0 : Int) = 0 → H2.length = H1.length) ∧ hWt T0 H2) ∧ postb_251 n8 n0 n6 n7 H1 H2) (f17 : n8 = 0) (f18 : n9 = 0) : postb_262v n9 n2 n1 n0 H0 H2 := by
  unfold preb_262v at f5
  unfold postb_251 at f10
  unfold postb_251 at f16
  unfold postb_262v
  have e0 : hV H2 285 65 = hV H1 285 65 := f16.1.2.1.1 285 65 (by decide +kernel)
  have e1 : hV H1 285 65 = hV H0 285 65 := f10.1.2.1.1 285 65 (by decide +kernel)
  have e2 : hV H2 285 65 = hV H0 285 65 := (e0).trans e1
  have e3 : hV H2 333 = hV H1 333 := fRow f16.1.2.1 333 (by decide +kernel)
  have e4 : hV H1 333 = hV H0 333 := fRow f10.1.2.1 333 (by decide +kernel)
  have e5 : hV H2 333 = hV H0 333 := e3.trans e4
  have e6 : hV H2 334 = hV H1 334 := fRow f16.1.2.1 334 (by decide +kernel)
  have e7 : hV H1 334 = hV H0 334 := fRow f10.1.2.1 334 (by decide +kernel)
  have e8 : hV H2 334 = hV H0 334 := e6.trans e7
  have e9 : hV H2 341 = hV H1 341 := fRow f16.1.2.1 341 (by decide +kernel)
  have e10 : hV H1 341 = hV H0 341 := fRow f10.1.2.1 341 (by decide +kernel)
  have e11 : hV H2 341 = hV H0 341 := e9.trans e10
  have e12 : (0 : Int) ≤ hV H0 285 65 ∧ hV H0 285 65 ≤ 2147483647 := f5.1 285 65 _ _ (by decide +kernel)
  have e13 : (0 : Int) ≤ hV H2 285 65 ∧ hV H2 285 65 ≤ 2147483647 := f16.1.2.2.2 285 65 _ _ (by decide +kernel)
  try simp only [SS] at *
  try simp only [e2, e5, e8, e11] at f5
  try simp only [e2, e5, e8, e11] at f10
  try simp only [e2, e5, e8, e11] at f16
  try simp only [e2, e5, e8, e11] at e12
  try simp only [e2, e5, e8, e11] at e13
  try simp only [e2, e5, e8, e11]
  have p0 := f5.2.1
  have p1 := f5.2.2.1
  have p2 := f5.2.2.2
  have r0_0 := f10.2
  have r1_0 := f16.2
  try simp only [e2, e5, e8, e11] at p0
  try simp only [e2, e5, e8, e11] at p1
  try simp only [e2, e5, e8, e11] at p2
  try simp only [e2, e5, e8, e11] at r0_0
  try simp only [e2, e5, e8, e11] at r1_0
  clear e0 e1 e2 e3 e4 e5 e6 e7 e8 e9 e10 e11

  first
  | exact ⟨p2, by omega, by omega⟩
  | exact ⟨SSp_mark p2 (by omega) (by omega), by omega, by omega⟩
def g_262v_s_8 : vG := ([(0, [9], [], 0), (30, [8], [], 0), (1251, [8, 2, 6, 7], [1, 2], 0), (90, [8], [], 0), (91, [8], [], 1), (0, [7], [], 60), (0, [6], [], 0), (31, [5], [], 0), (1251, [5, 1, 3, 4], [0, 1], 0), (90, [5], [], 0), (91, [5], [], 1), (0, [4], [], 7), (0, [3], [], 0), (6000, [0, 1, 2], [0], 0), (0, [0], [], 285), (90, [1], [], -2147483648), (91, [1], [], 2147483647), (90, [2], [], -2147483648), (91, [2], [], 2147483647)], (3000, [9], [2], 21))
theorem c_262v_s_8 : vOkm T0 (eP e_262v L_262v A_262v mu_262v none) 3 g_262v_s_8 := vOk_in fun ρ η h => by
  obtain ⟨f0, f1, f2, f3, f4, f5, f6, f7, f8, f9, f10, f11, f12, f13, f14, f15, f16, f17, f18, _⟩ := h
  exact q_262v_8 (n0 := ρ 2) (n1 := ρ 1) (n2 := ρ 0) (n3 := ρ 3) (n4 := ρ 4) (n5 := ρ 5) (n6 := ρ 6) (n7 := ρ 7) (n8 := ρ 8) (n9 := ρ 9) (H0 := η 0) (H1 := η 1) (H2 := η 2) f18 f17 f16 f15 f14 f13 f12 f11 f10 f9 f8 f7 f6 f5 f4 f3 f2 f1 f0
def p_262v_s : List vG := [g_262v_s_0,
  g_262v_s_1,
  g_262v_s_2,
  g_262v_s_3,
  g_262v_s_4,
  g_262v_s_5,
  g_262v_s_6,
  g_262v_s_7,
  g_262v_s_8]
theorem r_262v_s : vCovO false (eR0 e_262v L_262v cs_262v 2000) p_262v_s = true := by decide +kernel
theorem m_262v (d : Nat) : eC e_262v (d + 2) := eC_ok (e := e_262v) (L := L_262v) (cs := cs_262v) (n := 2000) (d := d + 1) (A := A_262v) (μ := mu_262v) (tp := false) (p0 := p_262v_s) rfl ⟨m_251 d, trivial⟩ rfl (.inl rfl) (by decide +kernel) (fun z => nomatch z) r_262v_s (allC c_262v_s_0 (allC c_262v_s_1 (allC c_262v_s_2 (allC c_262v_s_3 (allC c_262v_s_4 (allC c_262v_s_5 (allC c_262v_s_6 (allC c_262v_s_7 (allC c_262v_s_8 allN))))))))) allN
