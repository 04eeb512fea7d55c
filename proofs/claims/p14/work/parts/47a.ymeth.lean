/-! CONTRACTS of methods (printed by wip/gen/emit.py). -/
/- MixStageModel.isSheet (I)Z -/
noncomputable def s_282 : vM := ([(3, 12, 285, 0), (0, -2147483648, 2147483647, 0)], (0, 0, 1, 0), 0, 0, [])
def postb_282 (r a0 a1 : Int) (h0 h : gH) : Prop := (r = 1 ∧ 0 ≤ a1 ∧ a1 < hV h 285 18) ∨ (r = 0 ∧ ¬ (0 ≤ a1 ∧ a1 < hV h 285 18))
def post_282 : List Int → gH → gH → Prop := fun xs h0 h => match xs with
  | [r, a0, a1] => postb_282 r a0 a1 h0 h
  | _ => True
noncomputable def e_282 : vE := (282, s_282, pre0, post_282)
noncomputable def L_282 : List vE := []
def cs_282 : List vC := []
def A_282 : Int → List Int → gH → gH → Prop := fun c xs h0 h => True
def mu_282 : Int → List Int → gH → gH → Nat := fun c xs h0 h => 0
theorem q_282_0 {n0 n1 n2 : Int} {H0 : gH} (f0 : n0 ≤ 2147483647) (f1 : (-2147483648) ≤ n0) (f2 : n1 = 285) (f3 : hWt T0 H0 ∧ True) (f4 : n0 < 0) (f5 : n2 = 0) : postb_282 n2 n1 n0 H0 H0 := by
  unfold postb_282
  have e0 : (0 : Int) ≤ hV H0 285 18 ∧ hV H0 285 18 ≤ 8 := f3.1 285 18 _ _ (by decide +kernel)
  first | assumption | omega | trivial
theorem c_282_s_0 : vOkm T0 (eP e_282 L_282 A_282 mu_282 none) 2 ([(0, [2], [], 0), (32, [1], [], 0), (6000, [0, 1], [0], 0), (0, [0], [], 285), (90, [1], [], -2147483648), (91, [1], [], 2147483647)], (3000, [2], [0], 17)) := vOk_in fun ρ η h => by
  obtain ⟨f0, f1, f2, f3, f4, f5, _⟩ := h
  exact q_282_0 (n0 := ρ 1) (n1 := ρ 0) (n2 := ρ 2) (H0 := η 0) f5 f4 f3 f2 f1 f0
theorem q_282_1 {n0 n1 n2 n3 : Int} {H0 : gH} (f0 : n0 ≤ 2147483647) (f1 : (-2147483648) ≤ n0) (f2 : n1 = 285) (f3 : hWt T0 H0 ∧ True) (f4 : 0 ≤ n0) (f5 : n2 ≤ 8) (f6 : 0 ≤ n2) (f7 : n2 = hV H0 (n1).toNat 18) (f8 : n2 ≤ n0) (f9 : n3 = 0) : postb_282 n3 n1 n0 H0 H0 := by
  unfold postb_282
  have e0 : n2 = hV H0 285 18 := (by rw [f2] at f7; exact f7 : n2 = hV H0 285 18)
  have e1 : (0 : Int) ≤ hV H0 285 18 ∧ hV H0 285 18 ≤ 8 := f3.1 285 18 _ _ (by decide +kernel)
  clear f7
  subst e0
  first | assumption | omega | trivial
theorem c_282_s_1 : vOkm T0 (eP e_282 L_282 A_282 mu_282 none) 2 ([(0, [3], [], 0), (43, [1, 2], [], 0), (20, [2, 0], [0], 18), (90, [2], [], 0), (91, [2], [], 8), (33, [1], [], 0), (6000, [0, 1], [0], 0), (0, [0], [], 285), (90, [1], [], -2147483648), (91, [1], [], 2147483647)], (3000, [3], [0], 17)) := vOk_in fun ρ η h => by
  obtain ⟨f0, f1, f2, f3, f4, f5, f6, f7, f8, f9, _⟩ := h
  exact q_282_1 (n0 := ρ 1) (n1 := ρ 0) (n2 := ρ 2) (n3 := ρ 3) (H0 := η 0) f9 f8 f7 f6 f5 f4 f3 f2 f1 f0
theorem q_282_2 {n0 n1 n2 n3 : Int} {H0 : gH} (f0 : n0 ≤ 2147483647) (f1 : (-2147483648) ≤ n0) (f2 : n1 = 285) (f3 : hWt T0 H0 ∧ True) (f4 : 0 ≤ n0) (f5 : n2 ≤ 8) (f6 : 0 ≤ n2) (f7 : n2 = hV H0 (n1).toNat 18) (f8 : n0 < n2) (f9 : n3 = 1) : postb_282 n3 n1 n0 H0 H0 := by
  unfold postb_282
  have e0 : n2 = hV H0 285 18 := (by rw [f2] at f7; exact f7 : n2 = hV H0 285 18)
  have e1 : (0 : Int) ≤ hV H0 285 18 ∧ hV H0 285 18 ≤ 8 := f3.1 285 18 _ _ (by decide +kernel)
  clear f7
  subst e0
  first | assumption | omega | trivial
theorem c_282_s_2 : vOkm T0 (eP e_282 L_282 A_282 mu_282 none) 2 ([(0, [3], [], 1), (42, [1, 2], [], 0), (20, [2, 0], [0], 18), (90, [2], [], 0), (91, [2], [], 8), (33, [1], [], 0), (6000, [0, 1], [0], 0), (0, [0], [], 285), (90, [1], [], -2147483648), (91, [1], [], 2147483647)], (3000, [3], [0], 17)) := vOk_in fun ρ η h => by
  obtain ⟨f0, f1, f2, f3, f4, f5, f6, f7, f8, f9, _⟩ := h
  exact q_282_2 (n0 := ρ 1) (n1 := ρ 0) (n2 := ρ 2) (n3 := ρ 3) (H0 := η 0) f9 f8 f7 f6 f5 f4 f3 f2 f1 f0
def p_282_s : List vG := [([(0, [2], [], 0), (32, [1], [], 0), (6000, [0, 1], [0], 0), (0, [0], [], 285), (90, [1], [], -2147483648), (91, [1], [], 2147483647)], (3000, [2], [0], 17)),
  ([(0, [3], [], 0), (43, [1, 2], [], 0), (20, [2, 0], [0], 18), (90, [2], [], 0), (91, [2], [], 8), (33, [1], [], 0), (6000, [0, 1], [0], 0), (0, [0], [], 285), (90, [1], [], -2147483648), (91, [1], [], 2147483647)], (3000, [3], [0], 17)),
  ([(0, [3], [], 1), (42, [1, 2], [], 0), (20, [2, 0], [0], 18), (90, [2], [], 0), (91, [2], [], 8), (33, [1], [], 0), (6000, [0, 1], [0], 0), (0, [0], [], 285), (90, [1], [], -2147483648), (91, [1], [], 2147483647)], (3000, [3], [0], 17))]
theorem r_282_s : vCovO false (eR0 e_282 L_282 cs_282 2000) p_282_s = true := by decide +kernel
theorem m_282 (d : Nat) : eC e_282 (d + 1) := eC_ok (e := e_282) (L := L_282) (cs := cs_282) (n := 2000) (d := d + 0) (A := A_282) (μ := mu_282) (tp := false) (p0 := p_282_s) rfl trivial rfl (.inr pre0_ok) (by decide +kernel) (fun z => nomatch z) r_282_s (allC c_282_s_0 (allC c_282_s_1 (allC c_282_s_2 allN))) allN
/- MixStageModel.isLater (II)Z -/
noncomputable def s_284 : vM := ([(3, 12, 285, 0), (0, -2147483648, 2147483647, 0), (0, -2147483648, 2147483647, 0)], (0, 0, 1, 0), 0, 0, [])
def postb_284 (r a0 a1 a2 : Int) (h0 h : gH) : Prop := r ≠ 0 → 0 ≤ a1 ∧ a1 < hV h 285 18 ∧ 0 ≤ a2 ∧ a2 < hV h 285 60
def post_284 : List Int → gH → gH → Prop := fun xs h0 h => match xs with
  | [r, a0, a1, a2] => postb_284 r a0 a1 a2 h0 h
  | _ => True
noncomputable def e_284 : vE := (284, s_284, pre0, post_284)
noncomputable def L_284 : List vE := [e_246, e_282]
def cs_284 : List vC := []
def A_284 : Int → List Int → gH → gH → Prop := fun c xs h0 h => True
def mu_284 : Int → List Int → gH → gH → Nat := fun c xs h0 h => 0
theorem q_284_0 {n0 n1 n2 n3 n4 : Int} {H0 H1 : gH} (f0 : n0 ≤ 2147483647) (f1 : (-2147483648) ≤ n0) (f2 : n1 ≤ 2147483647) (f3 : (-2147483648) ≤ n1) (f4 : n2 = 285) (f5 : hWt T0 H0 ∧ True) (f6 : n3 ≤ 1) (f7 : 0 ≤ n3) (f8 : (hLe T0 H0 H1 ∧ hFr s_282.2.2.2.2 H0 H1 ∧ ((0 : Int) = 0 → H1.length = H0.length) ∧ hWt T0 H1) ∧ postb_282 n3 n2 n1 H0 H1) (f9 : n3 = 0) (f10 : n4 = 0) : postb_284 n4 n2 n1 n0 H0 H1 := by
  unfold postb_282 at f8
  unfold postb_284
  have e0 : hV H1 285 18 = hV H0 285 18 := f8.1.2.1.1 285 18 (by decide +kernel)
  have e1 : hV H1 285 18 = hV H0 285 18 := e0
  have e2 : hV H1 285 60 = hV H0 285 60 := f8.1.2.1.1 285 60 (by decide +kernel)
  have e3 : hV H1 285 60 = hV H0 285 60 := e2
  have e4 : (0 : Int) ≤ hV H1 285 18 ∧ hV H1 285 18 ≤ 8 := f8.1.2.2.2 285 18 _ _ (by decide +kernel)
  have e5 : (0 : Int) ≤ hV H0 285 18 ∧ hV H0 285 18 ≤ 8 := f5.1 285 18 _ _ (by decide +kernel)
  have e6 : (1 : Int) ≤ hV H1 285 60 ∧ hV H1 285 60 ≤ 6 := f8.1.2.2.2 285 60 _ _ (by decide +kernel)
  have e7 : (1 : Int) ≤ hV H0 285 60 ∧ hV H0 285 60 ≤ 6 := f5.1 285 60 _ _ (by decide +kernel)
  try simp only [e1, e3] at f8
  try simp only [e1, e3] at e4
  try simp only [e1, e3] at e5
  try simp only [e1, e3] at e6
  try simp only [e1, e3] at e7
  try simp only [e1, e3]
  have r0_0 := f8.2
  try simp only [e1, e3] at r0_0
  clear e0 e1 e2 e3
  first | assumption | omega | trivial
theorem c_284_s_0 : vOkm T0 (eP e_284 L_284 A_284 mu_284 none) 3 ([(0, [4], [], 0), (30, [3], [], 0), (1282, [3, 0, 1], [0, 1], 0), (90, [3], [], 0), (91, [3], [], 1), (6000, [0, 1, 2], [0], 0), (0, [0], [], 285), (90, [1], [], -2147483648), (91, [1], [], 2147483647), (90, [2], [], -2147483648), (91, [2], [], 2147483647)], (3000, [4], [1], 31)) := vOk_in fun ρ η h => by
  obtain ⟨f0, f1, f2, f3, f4, f5, f6, f7, f8, f9, f10, _⟩ := h
  exact q_284_0 (n0 := ρ 2) (n1 := ρ 1) (n2 := ρ 0) (n3 := ρ 3) (n4 := ρ 4) (H0 := η 0) (H1 := η 1) f10 f9 f8 f7 f6 f5 f4 f3 f2 f1 f0
theorem q_284_1 {n0 n1 n2 n3 n4 n5 : Int} {H0 H1 H2 : gH} (f0 : n0 ≤ 2147483647) (f1 : (-2147483648) ≤ n0) (f2 : n1 ≤ 2147483647) (f3 : (-2147483648) ≤ n1) (f4 : n2 = 285) (f5 : hWt T0 H0 ∧ True) (f6 : n3 ≤ 1) (f7 : 0 ≤ n3) (f8 : (hLe T0 H0 H1 ∧ hFr s_282.2.2.2.2 H0 H1 ∧ ((0 : Int) = 0 → H1.length = H0.length) ∧ hWt T0 H1) ∧ postb_282 n3 n2 n1 H0 H1) (f9 : n3 ≠ 0) (f10 : n4 ≤ 1) (f11 : 0 ≤ n4) (f12 : (hLe T0 H1 H2 ∧ hFr s_246.2.2.2.2 H1 H2 ∧ ((0 : Int) = 0 → H2.length = H1.length) ∧ hWt T0 H2) ∧ postb_246 n4 n2 n0 H1 H2) (f13 : n4 = 0) (f14 : n5 = 0) : postb_284 n5 n2 n1 n0 H0 H2 := by
  unfold postb_282 at f8
  unfold postb_246 at f12
  unfold postb_284
  have e0 : hV H1 285 18 = hV H0 285 18 := f8.1.2.1.1 285 18 (by decide +kernel)
  have e1 : hV H1 285 18 = hV H0 285 18 := e0
  have e2 : hV H2 285 18 = hV H1 285 18 := f12.1.2.1.1 285 18 (by decide +kernel)
  have e3 : hV H2 285 18 = hV H0 285 18 := (e2).trans e0
  have e4 : hV H2 285 60 = hV H1 285 60 := f12.1.2.1.1 285 60 (by decide +kernel)
  have e5 : hV H1 285 60 = hV H0 285 60 := f8.1.2.1.1 285 60 (by decide +kernel)
  have e6 : hV H2 285 60 = hV H0 285 60 := (e4).trans e5
  have e7 : (0 : Int) ≤ hV H1 285 18 ∧ hV H1 285 18 ≤ 8 := f8.1.2.2.2 285 18 _ _ (by decide +kernel)
  have e8 : (0 : Int) ≤ hV H0 285 18 ∧ hV H0 285 18 ≤ 8 := f5.1 285 18 _ _ (by decide +kernel)
  have e9 : (0 : Int) ≤ hV H2 285 18 ∧ hV H2 285 18 ≤ 8 := f12.1.2.2.2 285 18 _ _ (by decide +kernel)
  have e10 : (1 : Int) ≤ hV H2 285 60 ∧ hV H2 285 60 ≤ 6 := f12.1.2.2.2 285 60 _ _ (by decide +kernel)
  have e11 : (1 : Int) ≤ hV H0 285 60 ∧ hV H0 285 60 ≤ 6 := f5.1 285 60 _ _ (by decide +kernel)
  try simp only [e1, e3, e6] at f8
  try simp only [e1, e3, e6] at f12
  try simp only [e1, e3, e6] at e7
  try simp only [e1, e3, e6] at e8
  try simp only [e1, e3, e6] at e9
  try simp only [e1, e3, e6] at e10
  try simp only [e1, e3, e6] at e11
  try simp only [e1, e3, e6]
  have r0_0 := f8.2
  have r1_0 := f12.2
  try simp only [e1, e3, e6] at r0_0
  try simp only [e1, e3, e6] at r1_0
  clear e0 e1 e2 e3 e4 e5 e6
  first | assumption | omega | trivial
theorem c_284_s_1 : vOkm T0 (eP e_284 L_284 A_284 mu_284 none) 3 ([(0, [5], [], 0), (30, [4], [], 0), (1246, [4, 0, 2], [1, 2], 0), (90, [4], [], 0), (91, [4], [], 1), (31, [3], [], 0), (1282, [3, 0, 1], [0, 1], 0), (90, [3], [], 0), (91, [3], [], 1), (6000, [0, 1, 2], [0], 0), (0, [0], [], 285), (90, [1], [], -2147483648), (91, [1], [], 2147483647), (90, [2], [], -2147483648), (91, [2], [], 2147483647)], (3000, [5], [2], 31)) := vOk_in fun ρ η h => by
  obtain ⟨f0, f1, f2, f3, f4, f5, f6, f7, f8, f9, f10, f11, f12, f13, f14, _⟩ := h
  exact q_284_1 (n0 := ρ 2) (n1 := ρ 1) (n2 := ρ 0) (n3 := ρ 3) (n4 := ρ 4) (n5 := ρ 5) (H0 := η 0) (H1 := η 1) (H2 := η 2) f14 f13 f12 f11 f10 f9 f8 f7 f6 f5 f4 f3 f2 f1 f0
theorem q_284_2 {n0 n1 n2 n3 n4 : Int} {H0 H1 H2 : gH} (f0 : n0 ≤ 2147483647) (f1 : (-2147483648) ≤ n0) (f2 : n1 ≤ 2147483647) (f3 : (-2147483648) ≤ n1) (f4 : n2 = 285) (f5 : hWt T0 H0 ∧ True) (f6 : n3 ≤ 1) (f7 : 0 ≤ n3) (f8 : (hLe T0 H0 H1 ∧ hFr s_282.2.2.2.2 H0 H1 ∧ ((0 : Int) = 0 → H1.length = H0.length) ∧ hWt T0 H1) ∧ postb_282 n3 n2 n1 H0 H1) (f9 : n3 ≠ 0) (f10 : n4 ≤ 1) (f11 : 0 ≤ n4) (f12 : (hLe T0 H1 H2 ∧ hFr s_246.2.2.2.2 H1 H2 ∧ ((0 : Int) = 0 → H2.length = H1.length) ∧ hWt T0 H2) ∧ postb_246 n4 n2 n0 H1 H2) (f13 : n4 ≠ 0) : 0 ≤ n1 ∧ n1 < 9 := by
  unfold postb_282 at f8
  unfold postb_246 at f12
  have e0 : hV H1 285 18 = hV H0 285 18 := f8.1.2.1.1 285 18 (by decide +kernel)
  have e1 : hV H1 285 18 = hV H0 285 18 := e0
  have e2 : hV H2 285 60 = hV H1 285 60 := f12.1.2.1.1 285 60 (by decide +kernel)
  have e3 : hV H1 285 60 = hV H0 285 60 := f8.1.2.1.1 285 60 (by decide +kernel)
  have e4 : hV H2 285 60 = hV H0 285 60 := (e2).trans e3
  have e5 : (0 : Int) ≤ hV H1 285 18 ∧ hV H1 285 18 ≤ 8 := f8.1.2.2.2 285 18 _ _ (by decide +kernel)
  have e6 : (0 : Int) ≤ hV H0 285 18 ∧ hV H0 285 18 ≤ 8 := f5.1 285 18 _ _ (by decide +kernel)
  have e7 : (1 : Int) ≤ hV H2 285 60 ∧ hV H2 285 60 ≤ 6 := f12.1.2.2.2 285 60 _ _ (by decide +kernel)
  have e8 : (1 : Int) ≤ hV H0 285 60 ∧ hV H0 285 60 ≤ 6 := f5.1 285 60 _ _ (by decide +kernel)
  try simp only [e1, e4] at f8
  try simp only [e1, e4] at f12
  try simp only [e1, e4] at e5
  try simp only [e1, e4] at e6
  try simp only [e1, e4] at e7
  try simp only [e1, e4] at e8
  try simp only [e1, e4]
  have r0_0 := f8.2
  have r1_0 := f12.2
  try simp only [e1, e4] at r0_0
  try simp only [e1, e4] at r1_0
  clear e0 e1 e2 e3 e4
  omega
theorem c_284_s_2 : vOkm T0 (eP e_284 L_284 A_284 mu_284 none) 3 ([(31, [4], [], 0), (1246, [4, 0, 2], [1, 2], 0), (90, [4], [], 0), (91, [4], [], 1), (31, [3], [], 0), (1282, [3, 0, 1], [0, 1], 0), (90, [3], [], 0), (91, [3], [], 1), (6000, [0, 1, 2], [0], 0), (0, [0], [], 285), (90, [1], [], -2147483648), (91, [1], [], 2147483647), (90, [2], [], -2147483648), (91, [2], [], 2147483647)], (70, [1], [], 9)) := vOk_in fun ρ η h => by
  obtain ⟨f0, f1, f2, f3, f4, f5, f6, f7, f8, f9, f10, f11, f12, f13, _⟩ := h
  exact q_284_2 (n0 := ρ 2) (n1 := ρ 1) (n2 := ρ 0) (n3 := ρ 3) (n4 := ρ 4) (H0 := η 0) (H1 := η 1) (H2 := η 2) f13 f12 f11 f10 f9 f8 f7 f6 f5 f4 f3 f2 f1 f0
theorem q_284_3 {n0 n1 n2 n3 n4 n5 n6 n7 : Int} {H0 H1 H2 : gH} (f0 : n0 ≤ 2147483647) (f1 : (-2147483648) ≤ n0) (f2 : n1 ≤ 2147483647) (f3 : (-2147483648) ≤ n1) (f4 : n2 = 285) (f5 : hWt T0 H0 ∧ True) (f6 : n3 ≤ 1) (f7 : 0 ≤ n3) (f8 : (hLe T0 H0 H1 ∧ hFr s_282.2.2.2.2 H0 H1 ∧ ((0 : Int) = 0 → H1.length = H0.length) ∧ hWt T0 H1) ∧ postb_282 n3 n2 n1 H0 H1) (f9 : n3 ≠ 0) (f10 : n4 ≤ 1) (f11 : 0 ≤ n4) (f12 : (hLe T0 H1 H2 ∧ hFr s_246.2.2.2.2 H1 H2 ∧ ((0 : Int) = 0 → H2.length = H1.length) ∧ hWt T0 H2) ∧ postb_246 n4 n2 n0 H1 H2) (f13 : n4 ≠ 0) (f14 : n5 = 293) (f15 : n5 = hV H2 (n2).toNat 19) (f16 : n6 ≤ 5) (f17 : 0 ≤ n6) (f18 : n6 = hV H2 (n5).toNat (n1).toNat) (f19 : n0 < n6) (f20 : n7 = 0) : postb_284 n7 n2 n1 n0 H0 H2 := by
  unfold postb_282 at f8
  unfold postb_246 at f12
  unfold postb_284
  have e0 : hV H2 293 = hV H1 293 := fRow f12.1.2.1 293 (by decide +kernel)
  have e1 : hV H1 293 = hV H0 293 := fRow f8.1.2.1 293 (by decide +kernel)
  have e2 : n6 = hV H0 293 (n1).toNat := (by rw [f14] at f18; exact f18 : n6 = hV H2 293 (n1).toNat).trans (((congrFun e0 _)).trans ((congrFun e1 _)))
  have e3 : hV H1 285 18 = hV H0 285 18 := f8.1.2.1.1 285 18 (by decide +kernel)
  have e4 : hV H1 285 18 = hV H0 285 18 := e3
  have e5 : hV H2 285 18 = hV H1 285 18 := f12.1.2.1.1 285 18 (by decide +kernel)
  have e6 : hV H2 285 18 = hV H0 285 18 := (e5).trans e3
  have e7 : hV H2 285 60 = hV H1 285 60 := f12.1.2.1.1 285 60 (by decide +kernel)
  have e8 : hV H1 285 60 = hV H0 285 60 := f8.1.2.1.1 285 60 (by decide +kernel)
  have e9 : hV H2 285 60 = hV H0 285 60 := (e7).trans e8
  have e10 : (0 : Int) ≤ hV H1 285 18 ∧ hV H1 285 18 ≤ 8 := f8.1.2.2.2 285 18 _ _ (by decide +kernel)
  have e11 : (0 : Int) ≤ hV H0 285 18 ∧ hV H0 285 18 ≤ 8 := f5.1 285 18 _ _ (by decide +kernel)
  have e12 : (0 : Int) ≤ hV H2 285 18 ∧ hV H2 285 18 ≤ 8 := f12.1.2.2.2 285 18 _ _ (by decide +kernel)
  have e13 : (1 : Int) ≤ hV H2 285 60 ∧ hV H2 285 60 ≤ 6 := f12.1.2.2.2 285 60 _ _ (by decide +kernel)
  have e14 : (1 : Int) ≤ hV H0 285 60 ∧ hV H0 285 60 ≤ 6 := f5.1 285 60 _ _ (by decide +kernel)
  try simp only [e4, e6, e9] at f8
  try simp only [e4, e6, e9] at f12
  try simp only [e4, e6, e9] at e10
  try simp only [e4, e6, e9] at e11
  try simp only [e4, e6, e9] at e12
  try simp only [e4, e6, e9] at e13
  try simp only [e4, e6, e9] at e14
  try simp only [e4, e6, e9]
  have r0_0 := f8.2
  have r1_0 := f12.2
  try simp only [e4, e6, e9] at r0_0
  try simp only [e4, e6, e9] at r1_0
  clear f15 f18 e0 e1 e3 e4 e5 e6 e7 e8 e9
  subst e2
  first | assumption | omega | trivial
theorem c_284_s_3 : vOkm T0 (eP e_284 L_284 A_284 mu_284 none) 3 ([(0, [7], [], 0), (42, [2, 6], [], 0), (22, [6, 5, 1], [2], 0), (90, [6], [], 0), (91, [6], [], 5), (20, [5, 0], [2], 19), (0, [5], [], 293), (31, [4], [], 0), (1246, [4, 0, 2], [1, 2], 0), (90, [4], [], 0), (91, [4], [], 1), (31, [3], [], 0), (1282, [3, 0, 1], [0, 1], 0), (90, [3], [], 0), (91, [3], [], 1), (6000, [0, 1, 2], [0], 0), (0, [0], [], 285), (90, [1], [], -2147483648), (91, [1], [], 2147483647), (90, [2], [], -2147483648), (91, [2], [], 2147483647)], (3000, [7], [2], 31)) := vOk_in fun ρ η h => by
  obtain ⟨f0, f1, f2, f3, f4, f5, f6, f7, f8, f9, f10, f11, f12, f13, f14, f15, f16, f17, f18, f19, f20, _⟩ := h
  exact q_284_3 (n0 := ρ 2) (n1 := ρ 1) (n2 := ρ 0) (n3 := ρ 3) (n4 := ρ 4) (n5 := ρ 5) (n6 := ρ 6) (n7 := ρ 7) (H0 := η 0) (H1 := η 1) (H2 := η 2) f20 f19 f18 f17 f16 f15 f14 f13 f12 f11 f10 f9 f8 f7 f6 f5 f4 f3 f2 f1 f0
theorem q_284_4 {n0 n1 n2 n3 n4 n5 n6 n7 : Int} {H0 H1 H2 : gH} (f0 : n0 ≤ 2147483647) (f1 : (-2147483648) ≤ n0) (f2 : n1 ≤ 2147483647) (f3 : (-2147483648) ≤ n1) (f4 : n2 = 285) (f5 : hWt T0 H0 ∧ True) (f6 : n3 ≤ 1) (f7 : 0 ≤ n3) (f8 : (hLe T0 H0 H1 ∧ hFr s_282.2.2.2.2 H0 H1 ∧ ((0 : Int) = 0 → H1.length = H0.length) ∧ hWt T0 H1) ∧ postb_282 n3 n2 n1 H0 H1) (f9 : n3 ≠ 0) (f10 : n4 ≤ 1) (f11 : 0 ≤ n4) (f12 : (hLe T0 H1 H2 ∧ hFr s_246.2.2.2.2 H1 H2 ∧ ((0 : Int) = 0 → H2.length = H1.length) ∧ hWt T0 H2) ∧ postb_246 n4 n2 n0 H1 H2) (f13 : n4 ≠ 0) (f14 : n5 = 293) (f15 : n5 = hV H2 (n2).toNat 19) (f16 : n6 ≤ 5) (f17 : 0 ≤ n6) (f18 : n6 = hV H2 (n5).toNat (n1).toNat) (f19 : n6 ≤ n0) (f20 : n7 = 1) : postb_284 n7 n2 n1 n0 H0 H2 := by
  unfold postb_282 at f8
  unfold postb_246 at f12
  unfold postb_284
  have e0 : hV H2 293 = hV H1 293 := fRow f12.1.2.1 293 (by decide +kernel)
  have e1 : hV H1 293 = hV H0 293 := fRow f8.1.2.1 293 (by decide +kernel)
  have e2 : n6 = hV H0 293 (n1).toNat := (by rw [f14] at f18; exact f18 : n6 = hV H2 293 (n1).toNat).trans (((congrFun e0 _)).trans ((congrFun e1 _)))
  have e3 : hV H1 285 18 = hV H0 285 18 := f8.1.2.1.1 285 18 (by decide +kernel)
  have e4 : hV H1 285 18 = hV H0 285 18 := e3
  have e5 : hV H2 285 18 = hV H1 285 18 := f12.1.2.1.1 285 18 (by decide +kernel)
  have e6 : hV H2 285 18 = hV H0 285 18 := (e5).trans e3
  have e7 : hV H2 285 60 = hV H1 285 60 := f12.1.2.1.1 285 60 (by decide +kernel)
  have e8 : hV H1 285 60 = hV H0 285 60 := f8.1.2.1.1 285 60 (by decide +kernel)
  have e9 : hV H2 285 60 = hV H0 285 60 := (e7).trans e8
  have e10 : (0 : Int) ≤ hV H1 285 18 ∧ hV H1 285 18 ≤ 8 := f8.1.2.2.2 285 18 _ _ (by decide +kernel)
  have e11 : (0 : Int) ≤ hV H0 285 18 ∧ hV H0 285 18 ≤ 8 := f5.1 285 18 _ _ (by decide +kernel)
  have e12 : (0 : Int) ≤ hV H2 285 18 ∧ hV H2 285 18 ≤ 8 := f12.1.2.2.2 285 18 _ _ (by decide +kernel)
  have e13 : (1 : Int) ≤ hV H2 285 60 ∧ hV H2 285 60 ≤ 6 := f12.1.2.2.2 285 60 _ _ (by decide +kernel)
  have e14 : (1 : Int) ≤ hV H0 285 60 ∧ hV H0 285 60 ≤ 6 := f5.1 285 60 _ _ (by decide +kernel)
  try simp only [e4, e6, e9] at f8
  try simp only [e4, e6, e9] at f12
  try simp only [e4, e6, e9] at e10
  try simp only [e4, e6, e9] at e11
  try simp only [e4, e6, e9] at e12
  try simp only [e4, e6, e9] at e13
  try simp only [e4, e6, e9] at e14
  try simp only [e4, e6, e9]
  have r0_0 := f8.2
  have r1_0 := f12.2
  try simp only [e4, e6, e9] at r0_0
  try simp only [e4, e6, e9] at r1_0
  clear f15 f18 e0 e1 e3 e4 e5 e6 e7 e8 e9
  subst e2
  first | assumption | omega | trivial
theorem c_284_s_4 : vOkm T0 (eP e_284 L_284 A_284 mu_284 none) 3 ([(0, [7], [], 1), (43, [2, 6], [], 0), (22, [6, 5, 1], [2], 0), (90, [6], [], 0), (91, [6], [], 5), (20, [5, 0], [2], 19), (0, [5], [], 293), (31, [4], [], 0), (1246, [4, 0, 2], [1, 2], 0), (90, [4], [], 0), (91, [4], [], 1), (31, [3], [], 0), (1282, [3, 0, 1], [0, 1], 0), (90, [3], [], 0), (91, [3], [], 1), (6000, [0, 1, 2], [0], 0), (0, [0], [], 285), (90, [1], [], -2147483648), (91, [1], [], 2147483647), (90, [2], [], -2147483648), (91, [2], [], 2147483647)], (3000, [7], [2], 31)) := vOk_in fun ρ η h => by
  obtain ⟨f0, f1, f2, f3, f4, f5, f6, f7, f8, f9, f10, f11, f12, f13, f14, f15, f16, f17, f18, f19, f20, _⟩ := h
  exact q_284_4 (n0 := ρ 2) (n1 := ρ 1) (n2 := ρ 0) (n3 := ρ 3) (n4 := ρ 4) (n5 := ρ 5) (n6 := ρ 6) (n7 := ρ 7) (H0 := η 0) (H1 := η 1) (H2 := η 2) f20 f19 f18 f17 f16 f15 f14 f13 f12 f11 f10 f9 f8 f7 f6 f5 f4 f3 f2 f1 f0
def p_284_s : List vG := [([(0, [4], [], 0), (30, [3], [], 0), (1282, [3, 0, 1], [0, 1], 0), (90, [3], [], 0), (91, [3], [], 1), (6000, [0, 1, 2], [0], 0), (0, [0], [], 285), (90, [1], [], -2147483648), (91, [1], [], 2147483647), (90, [2], [], -2147483648), (91, [2], [], 2147483647)], (3000, [4], [1], 31)),
  ([(0, [5], [], 0), (30, [4], [], 0), (1246, [4, 0, 2], [1, 2], 0), (90, [4], [], 0), (91, [4], [], 1), (31, [3], [], 0), (1282, [3, 0, 1], [0, 1], 0), (90, [3], [], 0), (91, [3], [], 1), (6000, [0, 1, 2], [0], 0), (0, [0], [], 285), (90, [1], [], -2147483648), (91, [1], [], 2147483647), (90, [2], [], -2147483648), (91, [2], [], 2147483647)], (3000, [5], [2], 31)),
  ([(31, [4], [], 0), (1246, [4, 0, 2], [1, 2], 0), (90, [4], [], 0), (91, [4], [], 1), (31, [3], [], 0), (1282, [3, 0, 1], [0, 1], 0), (90, [3], [], 0), (91, [3], [], 1), (6000, [0, 1, 2], [0], 0), (0, [0], [], 285), (90, [1], [], -2147483648), (91, [1], [], 2147483647), (90, [2], [], -2147483648), (91, [2], [], 2147483647)], (70, [1], [], 9)),
  ([(0, [7], [], 0), (42, [2, 6], [], 0), (22, [6, 5, 1], [2], 0), (90, [6], [], 0), (91, [6], [], 5), (20, [5, 0], [2], 19), (0, [5], [], 293), (31, [4], [], 0), (1246, [4, 0, 2], [1, 2], 0), (90, [4], [], 0), (91, [4], [], 1), (31, [3], [], 0), (1282, [3, 0, 1], [0, 1], 0), (90, [3], [], 0), (91, [3], [], 1), (6000, [0, 1, 2], [0], 0), (0, [0], [], 285), (90, [1], [], -2147483648), (91, [1], [], 2147483647), (90, [2], [], -2147483648), (91, [2], [], 2147483647)], (3000, [7], [2], 31)),
  ([(0, [7], [], 1), (43, [2, 6], [], 0), (22, [6, 5, 1], [2], 0), (90, [6], [], 0), (91, [6], [], 5), (20, [5, 0], [2], 19), (0, [5], [], 293), (31, [4], [], 0), (1246, [4, 0, 2], [1, 2], 0), (90, [4], [], 0), (91, [4], [], 1), (31, [3], [], 0), (1282, [3, 0, 1], [0, 1], 0), (90, [3], [], 0), (91, [3], [], 1), (6000, [0, 1, 2], [0], 0), (0, [0], [], 285), (90, [1], [], -2147483648), (91, [1], [], 2147483647), (90, [2], [], -2147483648), (91, [2], [], 2147483647)], (3000, [7], [2], 31))]
theorem r_284_s : vCovO false (eR0 e_284 L_284 cs_284 2000) p_284_s = true := by decide +kernel
theorem m_284 (d : Nat) : eC e_284 (d + 2) := eC_ok (e := e_284) (L := L_284) (cs := cs_284) (n := 2000) (d := d + 1) (A := A_284) (μ := mu_284) (tp := false) (p0 := p_284_s) rfl ⟨m_246 d, ⟨m_282 d, trivial⟩⟩ rfl (.inr pre0_ok) (by decide +kernel) (fun z => nomatch z) r_284_s (allC c_284_s_0 (allC c_284_s_1 (allC c_284_s_2 (allC c_284_s_3 (allC c_284_s_4 allN))))) allN
/- MixStageModel.cues (I)I -/
noncomputable def s_293 : vM := ([(3, 12, 285, 0), (0, -2147483648, 2147483647, 0)], (0, -2147483648, 2147483647, 0), 1, 0, [(12, 82), (580, 0), (588, 0), (596, 0), (604, 0), (612, 0)])
def preb_293 (a0 a1 : Int) (h : gH) : Prop := PG h
def pre_293 : List Int → gH → Prop := fun xs h => match xs with
  | [a0, a1] => preb_293 a0 a1 h
  | _ => False
noncomputable def e_293 : vE := (293, s_293, pre_293, post0)
noncomputable def L_293 : List vE := [e_270, e_282]
def cs_293 : List vC := []
def A_293 : Int → List Int → gH → gH → Prop := fun c xs h0 h => True
def mu_293 : Int → List Int → gH → gH → Nat := fun c xs h0 h => 0
theorem q_293_0 {n0 n1 n2 : Int} {H0 H1 : gH} (f0 : n0 ≤ 2147483647) (f1 : (-2147483648) ≤ n0) (f2 : n1 = 285) (f3 : hWt T0 H0 ∧ preb_293 n1 n0 H0) (f4 : n2 ≤ 1) (f5 : 0 ≤ n2) (f6 : (hLe T0 H0 H1 ∧ hFr s_282.2.2.2.2 H0 H1 ∧ ((0 : Int) = 0 → H1.length = H0.length) ∧ hWt T0 H1) ∧ postb_282 n2 n1 n0 H0 H1) (f7 : n2 ≠ 0) : 0 ≤ n0 := by
  unfold preb_293 at f3
  unfold postb_282 at f6
  have e0 : hV H1 285 18 = hV H0 285 18 := f6.1.2.1.1 285 18 (by decide +kernel)
  have e1 : hV H1 285 18 = hV H0 285 18 := e0
  have e2 : (0 : Int) ≤ hV H1 285 18 ∧ hV H1 285 18 ≤ 8 := f6.1.2.2.2 285 18 _ _ (by decide +kernel)
  have e3 : (0 : Int) ≤ hV H0 285 18 ∧ hV H0 285 18 ≤ 8 := f3.1 285 18 _ _ (by decide +kernel)
  try simp only [e1] at f3
  try simp only [e1] at f6
  try simp only [e1] at e2
  try simp only [e1] at e3
  try simp only [e1]
  have p0 := f3.2
  have r0_0 := f6.2
  try simp only [e1] at p0
  try simp only [e1] at r0_0
  clear e0 e1
  omega
theorem c_293_s_0 : vOkm T0 (eP e_293 L_293 A_293 mu_293 none) 2 ([(31, [2], [], 0), (1282, [2, 0, 1], [0, 1], 0), (90, [2], [], 0), (91, [2], [], 1), (6000, [0, 1], [0], 0), (0, [0], [], 285), (90, [1], [], -2147483648), (91, [1], [], 2147483647)], (90, [1], [], 0)) := vOk_in fun ρ η h => by
  obtain ⟨f0, f1, f2, f3, f4, f5, f6, f7, _⟩ := h
  exact q_293_0 (n0 := ρ 1) (n1 := ρ 0) (n2 := ρ 2) (H0 := η 0) (H1 := η 1) f7 f6 f5 f4 f3 f2 f1 f0
theorem q_293_1 {n0 n1 n2 : Int} {H0 H1 : gH} (f0 : n0 ≤ 2147483647) (f1 : (-2147483648) ≤ n0) (f2 : n1 = 285) (f3 : hWt T0 H0 ∧ preb_293 n1 n0 H0) (f4 : n2 ≤ 1) (f5 : 0 ≤ n2) (f6 : (hLe T0 H0 H1 ∧ hFr s_282.2.2.2.2 H0 H1 ∧ ((0 : Int) = 0 → H1.length = H0.length) ∧ hWt T0 H1) ∧ postb_282 n2 n1 n0 H0 H1) (f7 : n2 ≠ 0) : n0 ≤ 7 := by
  unfold preb_293 at f3
  unfold postb_282 at f6
  have e0 : hV H1 285 18 = hV H0 285 18 := f6.1.2.1.1 285 18 (by decide +kernel)
  have e1 : hV H1 285 18 = hV H0 285 18 := e0
  have e2 : (0 : Int) ≤ hV H1 285 18 ∧ hV H1 285 18 ≤ 8 := f6.1.2.2.2 285 18 _ _ (by decide +kernel)
  have e3 : (0 : Int) ≤ hV H0 285 18 ∧ hV H0 285 18 ≤ 8 := f3.1 285 18 _ _ (by decide +kernel)
  try simp only [e1] at f3
  try simp only [e1] at f6
  try simp only [e1] at e2
  try simp only [e1] at e3
  try simp only [e1]
  have p0 := f3.2
  have r0_0 := f6.2
  try simp only [e1] at p0
  try simp only [e1] at r0_0
  clear e0 e1
  omega
theorem c_293_s_1 : vOkm T0 (eP e_293 L_293 A_293 mu_293 none) 2 ([(31, [2], [], 0), (1282, [2, 0, 1], [0, 1], 0), (90, [2], [], 0), (91, [2], [], 1), (6000, [0, 1], [0], 0), (0, [0], [], 285), (90, [1], [], -2147483648), (91, [1], [], 2147483647)], (91, [1], [], 7)) := vOk_in fun ρ η h => by
  obtain ⟨f0, f1, f2, f3, f4, f5, f6, f7, _⟩ := h
  exact q_293_1 (n0 := ρ 1) (n1 := ρ 0) (n2 := ρ 2) (H0 := η 0) (H1 := η 1) f7 f6 f5 f4 f3 f2 f1 f0
theorem q_293_2 {n0 n1 n2 : Int} {H0 H1 : gH} (f0 : n0 ≤ 2147483647) (f1 : (-2147483648) ≤ n0) (f2 : n1 = 285) (f3 : hWt T0 H0 ∧ preb_293 n1 n0 H0) (f4 : n2 ≤ 1) (f5 : 0 ≤ n2) (f6 : (hLe T0 H0 H1 ∧ hFr s_282.2.2.2.2 H0 H1 ∧ ((0 : Int) = 0 → H1.length = H0.length) ∧ hWt T0 H1) ∧ postb_282 n2 n1 n0 H0 H1) (f7 : n2 ≠ 0) : preb_270 n1 n0 H1 := by
  unfold preb_293 at f3
  unfold postb_282 at f6
  unfold preb_270
  have e0 : hV H1 285 18 = hV H0 285 18 := f6.1.2.1.1 285 18 (by decide +kernel)
  have e1 : hV H1 285 18 = hV H0 285 18 := e0
  have e2 : PG H1 = PG H0 := PG_fr f6.1.2.1 (by decide +kernel)
  have e3 : (0 : Int) ≤ hV H1 285 18 ∧ hV H1 285 18 ≤ 8 := f6.1.2.2.2 285 18 _ _ (by decide +kernel)
  have e4 : (0 : Int) ≤ hV H0 285 18 ∧ hV H0 285 18 ≤ 8 := f3.1 285 18 _ _ (by decide +kernel)
  try simp only [e1, e2] at f3
  try simp only [e1, e2] at f6
  try simp only [e1, e2] at e3
  try simp only [e1, e2] at e4
  try simp only [e1, e2]
  have p0 := f3.2
  have r0_0 := f6.2
  try simp only [e1, e2] at p0
  try simp only [e1, e2] at r0_0
  clear e0 e1 e2
  refine ⟨?_, ?_⟩ <;> first | assumption | omega | trivial
theorem c_293_s_2 : vOkm T0 (eP e_293 L_293 A_293 mu_293 none) 2 ([(31, [2], [], 0), (1282, [2, 0, 1], [0, 1], 0), (90, [2], [], 0), (91, [2], [], 1), (6000, [0, 1], [0], 0), (0, [0], [], 285), (90, [1], [], -2147483648), (91, [1], [], 2147483647)], (2270, [0, 1], [1], 0)) := vOk_in fun ρ η h => by
  obtain ⟨f0, f1, f2, f3, f4, f5, f6, f7, _⟩ := h
  exact q_293_2 (n0 := ρ 1) (n1 := ρ 0) (n2 := ρ 2) (H0 := η 0) (H1 := η 1) f7 f6 f5 f4 f3 f2 f1 f0
def p_293_s : List vG := [([(31, [2], [], 0), (1282, [2, 0, 1], [0, 1], 0), (90, [2], [], 0), (91, [2], [], 1), (6000, [0, 1], [0], 0), (0, [0], [], 285), (90, [1], [], -2147483648), (91, [1], [], 2147483647)], (90, [1], [], 0)),
  ([(31, [2], [], 0), (1282, [2, 0, 1], [0, 1], 0), (90, [2], [], 0), (91, [2], [], 1), (6000, [0, 1], [0], 0), (0, [0], [], 285), (90, [1], [], -2147483648), (91, [1], [], 2147483647)], (91, [1], [], 7)),
  ([(31, [2], [], 0), (1282, [2, 0, 1], [0, 1], 0), (90, [2], [], 0), (91, [2], [], 1), (6000, [0, 1], [0], 0), (0, [0], [], 285), (90, [1], [], -2147483648), (91, [1], [], 2147483647)], (2270, [0, 1], [1], 0))]
theorem r_293_s : vCovO true (eR0 e_293 L_293 cs_293 2000) p_293_s = true := by decide +kernel
theorem m_293 (d : Nat) : eC e_293 (d + 3) := eC_ok (e := e_293) (L := L_293) (cs := cs_293) (n := 2000) (d := d + 2) (A := A_293) (μ := mu_293) (tp := true) (p0 := p_293_s) rfl ⟨m_270 d, ⟨m_282 (d + 1), trivial⟩⟩ rfl (.inl rfl) (by decide +kernel) (fun _ => post0_ok) r_293_s (allC c_293_s_0 (allC c_293_s_1 (allC c_293_s_2 allN))) allN
/- MixStageModel.isCue (II)Z -/
noncomputable def s_294 : vM := ([(3, 12, 285, 0), (0, -2147483648, 2147483647, 0), (0, -2147483648, 2147483647, 0)], (0, 0, 1, 0), 1, 0, [(12, 82), (580, 0), (588, 0), (596, 0), (604, 0), (612, 0)])
def preb_294 (a0 a1 a2 : Int) (h : gH) : Prop := PG h
def pre_294 : List Int → gH → Prop := fun xs h => match xs with
  | [a0, a1, a2] => preb_294 a0 a1 a2 h
  | _ => False
def postb_294 (r a0 a1 a2 : Int) (h0 h : gH) : Prop := r ≠ 0 → 0 ≤ a2 ∧ a2 < hV h 285 82 ∧ XQ h ∧ 0 ≤ a1 ∧ a1 < hV h 285 18
def post_294 : List Int → gH → gH → Prop := fun xs h0 h => match xs with
  | [r, a0, a1, a2] => postb_294 r a0 a1 a2 h0 h
  | _ => True
noncomputable def e_294 : vE := (294, s_294, pre_294, post_294)
noncomputable def L_294 : List vE := [e_270, e_282]
def cs_294 : List vC := []
def A_294 : Int → List Int → gH → gH → Prop := fun c xs h0 h => True
def mu_294 : Int → List Int → gH → gH → Nat := fun c xs h0 h => 0
theorem q_294_0 {n0 n1 n2 n3 : Int} {H0 H1 : gH} (f0 : n0 ≤ 2147483647) (f1 : (-2147483648) ≤ n0) (f2 : n1 ≤ 2147483647) (f3 : (-2147483648) ≤ n1) (f4 : n2 = 285) (f5 : hWt T0 H0 ∧ preb_294 n2 n1 n0 H0) (f6 : n3 ≤ 1) (f7 : 0 ≤ n3) (f8 : (hLe T0 H0 H1 ∧ hFr s_282.2.2.2.2 H0 H1 ∧ ((0 : Int) = 0 → H1.length = H0.length) ∧ hWt T0 H1) ∧ postb_282 n3 n2 n1 H0 H1) (f9 : n3 ≠ 0) : 0 ≤ n1 := by
  unfold preb_294 at f5
  unfold postb_282 at f8
  have e0 : hV H1 285 18 = hV H0 285 18 := f8.1.2.1.1 285 18 (by decide +kernel)
  have e1 : hV H1 285 18 = hV H0 285 18 := e0
  have e2 : (0 : Int) ≤ hV H1 285 18 ∧ hV H1 285 18 ≤ 8 := f8.1.2.2.2 285 18 _ _ (by decide +kernel)
  have e3 : (0 : Int) ≤ hV H0 285 18 ∧ hV H0 285 18 ≤ 8 := f5.1 285 18 _ _ (by decide +kernel)
  try simp only [e1] at f5
  try simp only [e1] at f8
  try simp only [e1] at e2
  try simp only [e1] at e3
  try simp only [e1]
  have p0 := f5.2
  have r0_0 := f8.2
  try simp only [e1] at p0
  try simp only [e1] at r0_0
  clear e0 e1
  omega
theorem c_294_s_0 : vOkm T0 (eP e_294 L_294 A_294 mu_294 none) 3 ([(31, [3], [], 0), (1282, [3, 0, 1], [0, 1], 0), (90, [3], [], 0), (91, [3], [], 1), (6000, [0, 1, 2], [0], 0), (0, [0], [], 285), (90, [1], [], -2147483648), (91, [1], [], 2147483647), (90, [2], [], -2147483648), (91, [2], [], 2147483647)], (90, [1], [], 0)) := vOk_in fun ρ η h => by
  obtain ⟨f0, f1, f2, f3, f4, f5, f6, f7, f8, f9, _⟩ := h
  exact q_294_0 (n0 := ρ 2) (n1 := ρ 1) (n2 := ρ 0) (n3 := ρ 3) (H0 := η 0) (H1 := η 1) f9 f8 f7 f6 f5 f4 f3 f2 f1 f0
theorem q_294_1 {n0 n1 n2 n3 : Int} {H0 H1 : gH} (f0 : n0 ≤ 2147483647) (f1 : (-2147483648) ≤ n0) (f2 : n1 ≤ 2147483647) (f3 : (-2147483648) ≤ n1) (f4 : n2 = 285) (f5 : hWt T0 H0 ∧ preb_294 n2 n1 n0 H0) (f6 : n3 ≤ 1) (f7 : 0 ≤ n3) (f8 : (hLe T0 H0 H1 ∧ hFr s_282.2.2.2.2 H0 H1 ∧ ((0 : Int) = 0 → H1.length = H0.length) ∧ hWt T0 H1) ∧ postb_282 n3 n2 n1 H0 H1) (f9 : n3 ≠ 0) : n1 ≤ 7 := by
  unfold preb_294 at f5
  unfold postb_282 at f8
  have e0 : hV H1 285 18 = hV H0 285 18 := f8.1.2.1.1 285 18 (by decide +kernel)
  have e1 : hV H1 285 18 = hV H0 285 18 := e0
  have e2 : (0 : Int) ≤ hV H1 285 18 ∧ hV H1 285 18 ≤ 8 := f8.1.2.2.2 285 18 _ _ (by decide +kernel)
  have e3 : (0 : Int) ≤ hV H0 285 18 ∧ hV H0 285 18 ≤ 8 := f5.1 285 18 _ _ (by decide +kernel)
  try simp only [e1] at f5
  try simp only [e1] at f8
  try simp only [e1] at e2
  try simp only [e1] at e3
  try simp only [e1]
  have p0 := f5.2
  have r0_0 := f8.2
  try simp only [e1] at p0
  try simp only [e1] at r0_0
  clear e0 e1
  omega
theorem c_294_s_1 : vOkm T0 (eP e_294 L_294 A_294 mu_294 none) 3 ([(31, [3], [], 0), (1282, [3, 0, 1], [0, 1], 0), (90, [3], [], 0), (91, [3], [], 1), (6000, [0, 1, 2], [0], 0), (0, [0], [], 285), (90, [1], [], -2147483648), (91, [1], [], 2147483647), (90, [2], [], -2147483648), (91, [2], [], 2147483647)], (91, [1], [], 7)) := vOk_in fun ρ η h => by
  obtain ⟨f0, f1, f2, f3, f4, f5, f6, f7, f8, f9, _⟩ := h
  exact q_294_1 (n0 := ρ 2) (n1 := ρ 1) (n2 := ρ 0) (n3 := ρ 3) (H0 := η 0) (H1 := η 1) f9 f8 f7 f6 f5 f4 f3 f2 f1 f0
theorem q_294_2 {n0 n1 n2 n3 : Int} {H0 H1 : gH} (f0 : n0 ≤ 2147483647) (f1 : (-2147483648) ≤ n0) (f2 : n1 ≤ 2147483647) (f3 : (-2147483648) ≤ n1) (f4 : n2 = 285) (f5 : hWt T0 H0 ∧ preb_294 n2 n1 n0 H0) (f6 : n3 ≤ 1) (f7 : 0 ≤ n3) (f8 : (hLe T0 H0 H1 ∧ hFr s_282.2.2.2.2 H0 H1 ∧ ((0 : Int) = 0 → H1.length = H0.length) ∧ hWt T0 H1) ∧ postb_282 n3 n2 n1 H0 H1) (f9 : n3 ≠ 0) : preb_270 n2 n1 H1 := by
  unfold preb_294 at f5
  unfold postb_282 at f8
  unfold preb_270
  have e0 : hV H1 285 18 = hV H0 285 18 := f8.1.2.1.1 285 18 (by decide +kernel)
  have e1 : hV H1 285 18 = hV H0 285 18 := e0
  have e2 : PG H1 = PG H0 := PG_fr f8.1.2.1 (by decide +kernel)
  have e3 : (0 : Int) ≤ hV H1 285 18 ∧ hV H1 285 18 ≤ 8 := f8.1.2.2.2 285 18 _ _ (by decide +kernel)
  have e4 : (0 : Int) ≤ hV H0 285 18 ∧ hV H0 285 18 ≤ 8 := f5.1 285 18 _ _ (by decide +kernel)
  try simp only [e1, e2] at f5
  try simp only [e1, e2] at f8
  try simp only [e1, e2] at e3
  try simp only [e1, e2] at e4
  try simp only [e1, e2]
  have p0 := f5.2
  have r0_0 := f8.2
  try simp only [e1, e2] at p0
  try simp only [e1, e2] at r0_0
  clear e0 e1 e2
  refine ⟨?_, ?_⟩ <;> first | assumption | omega | trivial
theorem c_294_s_2 : vOkm T0 (eP e_294 L_294 A_294 mu_294 none) 3 ([(31, [3], [], 0), (1282, [3, 0, 1], [0, 1], 0), (90, [3], [], 0), (91, [3], [], 1), (6000, [0, 1, 2], [0], 0), (0, [0], [], 285), (90, [1], [], -2147483648), (91, [1], [], 2147483647), (90, [2], [], -2147483648), (91, [2], [], 2147483647)], (2270, [0, 1], [1], 0)) := vOk_in fun ρ η h => by
  obtain ⟨f0, f1, f2, f3, f4, f5, f6, f7, f8, f9, _⟩ := h
  exact q_294_2 (n0 := ρ 2) (n1 := ρ 1) (n2 := ρ 0) (n3 := ρ 3) (H0 := η 0) (H1 := η 1) f9 f8 f7 f6 f5 f4 f3 f2 f1 f0
theorem q_294_3 {n0 n1 n2 n3 n4 : Int} {H0 H1 H2 : gH} (f0 : n0 ≤ 2147483647) (f1 : (-2147483648) ≤ n0) (f2 : n1 ≤ 2147483647) (f3 : (-2147483648) ≤ n1) (f4 : n2 = 285) (f5 : hWt T0 H0 ∧ preb_294 n2 n1 n0 H0) (f6 : n3 ≤ 1) (f7 : 0 ≤ n3) (f8 : (hLe T0 H0 H1 ∧ hFr s_282.2.2.2.2 H0 H1 ∧ ((0 : Int) = 0 → H1.length = H0.length) ∧ hWt T0 H1) ∧ postb_282 n3 n2 n1 H0 H1) (f9 : n3 ≠ 0) (f10 : (hLe T0 H1 H2 ∧ hFr s_270.2.2.2.2 H1 H2 ∧ ((0 : Int) = 0 → H2.length = H1.length) ∧ hWt T0 H2) ∧ postb_270 n2 n1 H1 H2) (f11 : n0 < 0) (f12 : n4 = 0) : postb_294 n4 n2 n1 n0 H0 H2 := by
  unfold preb_294 at f5
  unfold postb_282 at f8
  unfold postb_270 at f10
  unfold postb_294
  have e0 : hV H1 285 18 = hV H0 285 18 := f8.1.2.1.1 285 18 (by decide +kernel)
  have e1 : hV H1 285 18 = hV H0 285 18 := e0
  have e2 : hV H2 285 18 = hV H1 285 18 := f10.1.2.1.1 285 18 (by decide +kernel)
  have e3 : hV H2 285 18 = hV H0 285 18 := (e2).trans e0
  have e4 : hV H2 296 = hV H1 296 := fRow f10.1.2.1 296 (by decide +kernel)
  have e5 : hV H1 296 = hV H0 296 := fRow f8.1.2.1 296 (by decide +kernel)
  have e6 : hV H2 296 = hV H0 296 := e4.trans e5
  have e7 : hV H2 298 = hV H1 298 := fRow f10.1.2.1 298 (by decide +kernel)
  have e8 : hV H1 298 = hV H0 298 := fRow f8.1.2.1 298 (by decide +kernel)
  have e9 : hV H2 298 = hV H0 298 := e7.trans e8
  have e10 : hV H2 300 = hV H1 300 := fRow f10.1.2.1 300 (by decide +kernel)
  have e11 : hV H1 300 = hV H0 300 := fRow f8.1.2.1 300 (by decide +kernel)
  have e12 : hV H2 300 = hV H0 300 := e10.trans e11
  have e13 : (0 : Int) ≤ hV H1 285 18 ∧ hV H1 285 18 ≤ 8 := f8.1.2.2.2 285 18 _ _ (by decide +kernel)
  have e14 : (0 : Int) ≤ hV H0 285 18 ∧ hV H0 285 18 ≤ 8 := f5.1 285 18 _ _ (by decide +kernel)
  have e15 : (0 : Int) ≤ hV H2 285 18 ∧ hV H2 285 18 ≤ 8 := f10.1.2.2.2 285 18 _ _ (by decide +kernel)
  have e16 : (0 : Int) ≤ hV H2 285 82 ∧ hV H2 285 82 ≤ 40 := f10.1.2.2.2 285 82 _ _ (by decide +kernel)
  try simp only [e1, e3, e6, e9, e12] at f5
  try simp only [e1, e3, e6, e9, e12] at f8
  try simp only [e1, e3, e6, e9, e12] at f10
  try simp only [e1, e3, e6, e9, e12] at e13
  try simp only [e1, e3, e6, e9, e12] at e14
  try simp only [e1, e3, e6, e9, e12] at e15
  try simp only [e1, e3, e6, e9, e12] at e16
  try simp only [e1, e3, e6, e9, e12]
  have p0 := f5.2
  have r0_0 := f8.2
  have r1_0 := f10.2.1
  have r1_1 := f10.2.2
  try simp only [e1, e3, e6, e9, e12] at p0
  try simp only [e1, e3, e6, e9, e12] at r0_0
  try simp only [e1, e3, e6, e9, e12] at r1_0
  try simp only [e1, e3, e6, e9, e12] at r1_1
  clear e0 e1 e2 e3 e4 e5 e6 e7 e8 e9 e10 e11 e12

  intro hr
  first
  | omega
  | (refine ⟨?_, ?_, ?_, ?_, ?_⟩ <;> first | assumption | omega)
theorem c_294_s_3 : vOkm T0 (eP e_294 L_294 A_294 mu_294 none) 3 ([(0, [4], [], 0), (32, [2], [], 0), (1270, [0, 1], [1, 2], 0), (31, [3], [], 0), (1282, [3, 0, 1], [0, 1], 0), (90, [3], [], 0), (91, [3], [], 1), (6000, [0, 1, 2], [0], 0), (0, [0], [], 285), (90, [1], [], -2147483648), (91, [1], [], 2147483647), (90, [2], [], -2147483648), (91, [2], [], 2147483647)], (3000, [4], [2], 32)) := vOk_in fun ρ η h => by
  obtain ⟨f0, f1, f2, f3, f4, f5, f6, f7, f8, f9, f10, f11, f12, _⟩ := h
  exact q_294_3 (n0 := ρ 2) (n1 := ρ 1) (n2 := ρ 0) (n3 := ρ 3) (n4 := ρ 4) (H0 := η 0) (H1 := η 1) (H2 := η 2) f12 f11 f10 f9 f8 f7 f6 f5 f4 f3 f2 f1 f0
theorem q_294_4 {n0 n1 n2 n3 n4 n5 : Int} {H0 H1 H2 : gH} (f0 : n0 ≤ 2147483647) (f1 : (-2147483648) ≤ n0) (f2 : n1 ≤ 2147483647) (f3 : (-2147483648) ≤ n1) (f4 : n2 = 285) (f5 : hWt T0 H0 ∧ preb_294 n2 n1 n0 H0) (f6 : n3 ≤ 1) (f7 : 0 ≤ n3) (f8 : (hLe T0 H0 H1 ∧ hFr s_282.2.2.2.2 H0 H1 ∧ ((0 : Int) = 0 → H1.length = H0.length) ∧ hWt T0 H1) ∧ postb_282 n3 n2 n1 H0 H1) (f9 : n3 ≠ 0) (f10 : (hLe T0 H1 H2 ∧ hFr s_270.2.2.2.2 H1 H2 ∧ ((0 : Int) = 0 → H2.length = H1.length) ∧ hWt T0 H2) ∧ postb_270 n2 n1 H1 H2) (f11 : 0 ≤ n0) (f12 : n4 ≤ 40) (f13 : 0 ≤ n4) (f14 : n4 = hV H2 (n2).toNat 82) (f15 : n4 ≤ n0) (f16 : n5 = 0) : postb_294 n5 n2 n1 n0 H0 H2 := by
  unfold preb_294 at f5
  unfold postb_282 at f8
  unfold postb_270 at f10
  unfold postb_294
  have e0 : n4 = hV H2 285 82 := (by rw [f4] at f14; exact f14 : n4 = hV H2 285 82)
  have e1 : hV H1 285 18 = hV H0 285 18 := f8.1.2.1.1 285 18 (by decide +kernel)
  have e2 : hV H1 285 18 = hV H0 285 18 := e1
  have e3 : hV H2 285 18 = hV H1 285 18 := f10.1.2.1.1 285 18 (by decide +kernel)
  have e4 : hV H2 285 18 = hV H0 285 18 := (e3).trans e1
  have e5 : hV H2 296 = hV H1 296 := fRow f10.1.2.1 296 (by decide +kernel)
  have e6 : hV H1 296 = hV H0 296 := fRow f8.1.2.1 296 (by decide +kernel)
  have e7 : hV H2 296 = hV H0 296 := e5.trans e6
  have e8 : hV H2 298 = hV H1 298 := fRow f10.1.2.1 298 (by decide +kernel)
  have e9 : hV H1 298 = hV H0 298 := fRow f8.1.2.1 298 (by decide +kernel)
  have e10 : hV H2 298 = hV H0 298 := e8.trans e9
  have e11 : hV H2 300 = hV H1 300 := fRow f10.1.2.1 300 (by decide +kernel)
  have e12 : hV H1 300 = hV H0 300 := fRow f8.1.2.1 300 (by decide +kernel)
  have e13 : hV H2 300 = hV H0 300 := e11.trans e12
  have e14 : (0 : Int) ≤ hV H1 285 18 ∧ hV H1 285 18 ≤ 8 := f8.1.2.2.2 285 18 _ _ (by decide +kernel)
  have e15 : (0 : Int) ≤ hV H0 285 18 ∧ hV H0 285 18 ≤ 8 := f5.1 285 18 _ _ (by decide +kernel)
  have e16 : (0 : Int) ≤ hV H2 285 18 ∧ hV H2 285 18 ≤ 8 := f10.1.2.2.2 285 18 _ _ (by decide +kernel)
  have e17 : (0 : Int) ≤ hV H2 285 82 ∧ hV H2 285 82 ≤ 40 := f10.1.2.2.2 285 82 _ _ (by decide +kernel)
  try simp only [e2, e4, e7, e10, e13] at f5
  try simp only [e2, e4, e7, e10, e13] at f8
  try simp only [e2, e4, e7, e10, e13] at f10
  try simp only [e2, e4, e7, e10, e13] at e14
  try simp only [e2, e4, e7, e10, e13] at e15
  try simp only [e2, e4, e7, e10, e13] at e16
  try simp only [e2, e4, e7, e10, e13] at e17
  try simp only [e2, e4, e7, e10, e13]
  have p0 := f5.2
  have r0_0 := f8.2
  have r1_0 := f10.2.1
  have r1_1 := f10.2.2
  try simp only [e2, e4, e7, e10, e13] at p0
  try simp only [e2, e4, e7, e10, e13] at r0_0
  try simp only [e2, e4, e7, e10, e13] at r1_0
  try simp only [e2, e4, e7, e10, e13] at r1_1
  clear f14 e1 e2 e3 e4 e5 e6 e7 e8 e9 e10 e11 e12 e13
  subst e0

  intro hr
  first
  | omega
  | (refine ⟨?_, ?_, ?_, ?_, ?_⟩ <;> first | assumption | omega)
theorem c_294_s_4 : vOkm T0 (eP e_294 L_294 A_294 mu_294 none) 3 ([(0, [5], [], 0), (43, [2, 4], [], 0), (20, [4, 0], [2], 82), (90, [4], [], 0), (91, [4], [], 40), (33, [2], [], 0), (1270, [0, 1], [1, 2], 0), (31, [3], [], 0), (1282, [3, 0, 1], [0, 1], 0), (90, [3], [], 0), (91, [3], [], 1), (6000, [0, 1, 2], [0], 0), (0, [0], [], 285), (90, [1], [], -2147483648), (91, [1], [], 2147483647), (90, [2], [], -2147483648), (91, [2], [], 2147483647)], (3000, [5], [2], 32)) := vOk_in fun ρ η h => by
  obtain ⟨f0, f1, f2, f3, f4, f5, f6, f7, f8, f9, f10, f11, f12, f13, f14, f15, f16, _⟩ := h
  exact q_294_4 (n0 := ρ 2) (n1 := ρ 1) (n2 := ρ 0) (n3 := ρ 3) (n4 := ρ 4) (n5 := ρ 5) (H0 := η 0) (H1 := η 1) (H2 := η 2) f16 f15 f14 f13 f12 f11 f10 f9 f8 f7 f6 f5 f4 f3 f2 f1 f0
theorem q_294_5 {n0 n1 n2 n3 n4 n5 : Int} {H0 H1 H2 : gH} (f0 : n0 ≤ 2147483647) (f1 : (-2147483648) ≤ n0) (f2 : n1 ≤ 2147483647) (f3 : (-2147483648) ≤ n1) (f4 : n2 = 285) (f5 : hWt T0 H0 ∧ preb_294 n2 n1 n0 H0) (f6 : n3 ≤ 1) (f7 : 0 ≤ n3) (f8 : (hLe T0 H0 H1 ∧ hFr s_282.2.2.2.2 H0 H1 ∧ ((0 : Int) = 0 → H1.length = H0.length) ∧ hWt T0 H1) ∧ postb_282 n3 n2 n1 H0 H1) (f9 : n3 ≠ 0) (f10 : (hLe T0 H1 H2 ∧ hFr s_270.2.2.2.2 H1 H2 ∧ ((0 : Int) = 0 → H2.length = H1.length) ∧ hWt T0 H2) ∧ postb_270 n2 n1 H1 H2) (f11 : 0 ≤ n0) (f12 : n4 ≤ 40) (f13 : 0 ≤ n4) (f14 : n4 = hV H2 (n2).toNat 82) (f15 : n0 < n4) (f16 : n5 = 1) : postb_294 n5 n2 n1 n0 H0 H2 := by
  unfold preb_294 at f5
  unfold postb_282 at f8
  unfold postb_270 at f10
  unfold postb_294
  have e0 : n4 = hV H2 285 82 := (by rw [f4] at f14; exact f14 : n4 = hV H2 285 82)
  have e1 : hV H1 285 18 = hV H0 285 18 := f8.1.2.1.1 285 18 (by decide +kernel)
  have e2 : hV H1 285 18 = hV H0 285 18 := e1
  have e3 : hV H2 285 18 = hV H1 285 18 := f10.1.2.1.1 285 18 (by decide +kernel)
  have e4 : hV H2 285 18 = hV H0 285 18 := (e3).trans e1
  have e5 : hV H2 296 = hV H1 296 := fRow f10.1.2.1 296 (by decide +kernel)
  have e6 : hV H1 296 = hV H0 296 := fRow f8.1.2.1 296 (by decide +kernel)
  have e7 : hV H2 296 = hV H0 296 := e5.trans e6
  have e8 : hV H2 298 = hV H1 298 := fRow f10.1.2.1 298 (by decide +kernel)
  have e9 : hV H1 298 = hV H0 298 := fRow f8.1.2.1 298 (by decide +kernel)
  have e10 : hV H2 298 = hV H0 298 := e8.trans e9
  have e11 : hV H2 300 = hV H1 300 := fRow f10.1.2.1 300 (by decide +kernel)
  have e12 : hV H1 300 = hV H0 300 := fRow f8.1.2.1 300 (by decide +kernel)
  have e13 : hV H2 300 = hV H0 300 := e11.trans e12
  have e14 : (0 : Int) ≤ hV H1 285 18 ∧ hV H1 285 18 ≤ 8 := f8.1.2.2.2 285 18 _ _ (by decide +kernel)
  have e15 : (0 : Int) ≤ hV H0 285 18 ∧ hV H0 285 18 ≤ 8 := f5.1 285 18 _ _ (by decide +kernel)
  have e16 : (0 : Int) ≤ hV H2 285 18 ∧ hV H2 285 18 ≤ 8 := f10.1.2.2.2 285 18 _ _ (by decide +kernel)
  have e17 : (0 : Int) ≤ hV H2 285 82 ∧ hV H2 285 82 ≤ 40 := f10.1.2.2.2 285 82 _ _ (by decide +kernel)
  try simp only [e2, e4, e7, e10, e13] at f5
  try simp only [e2, e4, e7, e10, e13] at f8
  try simp only [e2, e4, e7, e10, e13] at f10
  try simp only [e2, e4, e7, e10, e13] at e14
  try simp only [e2, e4, e7, e10, e13] at e15
  try simp only [e2, e4, e7, e10, e13] at e16
  try simp only [e2, e4, e7, e10, e13] at e17
  try simp only [e2, e4, e7, e10, e13]
  have p0 := f5.2
  have r0_0 := f8.2
  have r1_0 := f10.2.1
  have r1_1 := f10.2.2
  try simp only [e2, e4, e7, e10, e13] at p0
  try simp only [e2, e4, e7, e10, e13] at r0_0
  try simp only [e2, e4, e7, e10, e13] at r1_0
  try simp only [e2, e4, e7, e10, e13] at r1_1
  clear f14 e1 e2 e3 e4 e5 e6 e7 e8 e9 e10 e11 e12 e13
  subst e0

  intro hr
  first
  | omega
  | (refine ⟨?_, ?_, ?_, ?_, ?_⟩ <;> first | assumption | omega)
theorem c_294_s_5 : vOkm T0 (eP e_294 L_294 A_294 mu_294 none) 3 ([(0, [5], [], 1), (42, [2, 4], [], 0), (20, [4, 0], [2], 82), (90, [4], [], 0), (91, [4], [], 40), (33, [2], [], 0), (1270, [0, 1], [1, 2], 0), (31, [3], [], 0), (1282, [3, 0, 1], [0, 1], 0), (90, [3], [], 0), (91, [3], [], 1), (6000, [0, 1, 2], [0], 0), (0, [0], [], 285), (90, [1], [], -2147483648), (91, [1], [], 2147483647), (90, [2], [], -2147483648), (91, [2], [], 2147483647)], (3000, [5], [2], 32)) := vOk_in fun ρ η h => by
  obtain ⟨f0, f1, f2, f3, f4, f5, f6, f7, f8, f9, f10, f11, f12, f13, f14, f15, f16, _⟩ := h
  exact q_294_5 (n0 := ρ 2) (n1 := ρ 1) (n2 := ρ 0) (n3 := ρ 3) (n4 := ρ 4) (n5 := ρ 5) (H0 := η 0) (H1 := η 1) (H2 := η 2) f16 f15 f14 f13 f12 f11 f10 f9 f8 f7 f6 f5 f4 f3 f2 f1 f0
theorem q_294_6 {n0 n1 n2 n3 n4 : Int} {H0 H1 : gH} (f0 : n0 ≤ 2147483647) (f1 : (-2147483648) ≤ n0) (f2 : n1 ≤ 2147483647) (f3 : (-2147483648) ≤ n1) (f4 : n2 = 285) (f5 : hWt T0 H0 ∧ preb_294 n2 n1 n0 H0) (f6 : n3 ≤ 1) (f7 : 0 ≤ n3) (f8 : (hLe T0 H0 H1 ∧ hFr s_282.2.2.2.2 H0 H1 ∧ ((0 : Int) = 0 → H1.length = H0.length) ∧ hWt T0 H1) ∧ postb_282 n3 n2 n1 H0 H1) (f9 : n3 = 0) (f10 : n4 = 0) : postb_294 n4 n2 n1 n0 H0 H1 := by
  unfold preb_294 at f5
  unfold postb_282 at f8
  unfold postb_294
  have e0 : hV H1 285 18 = hV H0 285 18 := f8.1.2.1.1 285 18 (by decide +kernel)
  have e1 : hV H1 285 18 = hV H0 285 18 := e0
  have e2 : hV H1 285 82 = hV H0 285 82 := f8.1.2.1.1 285 82 (by decide +kernel)
  have e3 : hV H1 285 82 = hV H0 285 82 := e2
  have e4 : XQ H1 = XQ H0 := XQ_fr f8.1.2.1 (by decide +kernel)
  have e5 : (0 : Int) ≤ hV H1 285 18 ∧ hV H1 285 18 ≤ 8 := f8.1.2.2.2 285 18 _ _ (by decide +kernel)
  have e6 : (0 : Int) ≤ hV H0 285 18 ∧ hV H0 285 18 ≤ 8 := f5.1 285 18 _ _ (by decide +kernel)
  have e7 : (0 : Int) ≤ hV H1 285 82 ∧ hV H1 285 82 ≤ 40 := f8.1.2.2.2 285 82 _ _ (by decide +kernel)
  have e8 : (0 : Int) ≤ hV H0 285 82 ∧ hV H0 285 82 ≤ 40 := f5.1 285 82 _ _ (by decide +kernel)
  try simp only [e1, e3, e4] at f5
  try simp only [e1, e3, e4] at f8
  try simp only [e1, e3, e4] at e5
  try simp only [e1, e3, e4] at e6
  try simp only [e1, e3, e4] at e7
  try simp only [e1, e3, e4] at e8
  try simp only [e1, e3, e4]
  have p0 := f5.2
  have r0_0 := f8.2
  try simp only [e1, e3, e4] at p0
  try simp only [e1, e3, e4] at r0_0
  clear e0 e1 e2 e3 e4

  intro hr
  first
  | omega
  | (refine ⟨?_, ?_, ?_, ?_, ?_⟩ <;> first | assumption | omega)
theorem c_294_s_6 : vOkm T0 (eP e_294 L_294 A_294 mu_294 none) 3 ([(0, [4], [], 0), (30, [3], [], 0), (1282, [3, 0, 1], [0, 1], 0), (90, [3], [], 0), (91, [3], [], 1), (6000, [0, 1, 2], [0], 0), (0, [0], [], 285), (90, [1], [], -2147483648), (91, [1], [], 2147483647), (90, [2], [], -2147483648), (91, [2], [], 2147483647)], (3000, [4], [1], 9)) := vOk_in fun ρ η h => by
  obtain ⟨f0, f1, f2, f3, f4, f5, f6, f7, f8, f9, f10, _⟩ := h
  exact q_294_6 (n0 := ρ 2) (n1 := ρ 1) (n2 := ρ 0) (n3 := ρ 3) (n4 := ρ 4) (H0 := η 0) (H1 := η 1) f10 f9 f8 f7 f6 f5 f4 f3 f2 f1 f0
def p_294_s : List vG := [([(31, [3], [], 0), (1282, [3, 0, 1], [0, 1], 0), (90, [3], [], 0), (91, [3], [], 1), (6000, [0, 1, 2], [0], 0), (0, [0], [], 285), (90, [1], [], -2147483648), (91, [1], [], 2147483647), (90, [2], [], -2147483648), (91, [2], [], 2147483647)], (90, [1], [], 0)),
  ([(31, [3], [], 0), (1282, [3, 0, 1], [0, 1], 0), (90, [3], [], 0), (91, [3], [], 1), (6000, [0, 1, 2], [0], 0), (0, [0], [], 285), (90, [1], [], -2147483648), (91, [1], [], 2147483647), (90, [2], [], -2147483648), (91, [2], [], 2147483647)], (91, [1], [], 7)),
  ([(31, [3], [], 0), (1282, [3, 0, 1], [0, 1], 0), (90, [3], [], 0), (91, [3], [], 1), (6000, [0, 1, 2], [0], 0), (0, [0], [], 285), (90, [1], [], -2147483648), (91, [1], [], 2147483647), (90, [2], [], -2147483648), (91, [2], [], 2147483647)], (2270, [0, 1], [1], 0)),
  ([(0, [4], [], 0), (32, [2], [], 0), (1270, [0, 1], [1, 2], 0), (31, [3], [], 0), (1282, [3, 0, 1], [0, 1], 0), (90, [3], [], 0), (91, [3], [], 1), (6000, [0, 1, 2], [0], 0), (0, [0], [], 285), (90, [1], [], -2147483648), (91, [1], [], 2147483647), (90, [2], [], -2147483648), (91, [2], [], 2147483647)], (3000, [4], [2], 32)),
  ([(0, [5], [], 0), (43, [2, 4], [], 0), (20, [4, 0], [2], 82), (90, [4], [], 0), (91, [4], [], 40), (33, [2], [], 0), (1270, [0, 1], [1, 2], 0), (31, [3], [], 0), (1282, [3, 0, 1], [0, 1], 0), (90, [3], [], 0), (91, [3], [], 1), (6000, [0, 1, 2], [0], 0), (0, [0], [], 285), (90, [1], [], -2147483648), (91, [1], [], 2147483647), (90, [2], [], -2147483648), (91, [2], [], 2147483647)], (3000, [5], [2], 32)),
  ([(0, [5], [], 1), (42, [2, 4], [], 0), (20, [4, 0], [2], 82), (90, [4], [], 0), (91, [4], [], 40), (33, [2], [], 0), (1270, [0, 1], [1, 2], 0), (31, [3], [], 0), (1282, [3, 0, 1], [0, 1], 0), (90, [3], [], 0), (91, [3], [], 1), (6000, [0, 1, 2], [0], 0), (0, [0], [], 285), (90, [1], [], -2147483648), (91, [1], [], 2147483647), (90, [2], [], -2147483648), (91, [2], [], 2147483647)], (3000, [5], [2], 32)),
  ([(0, [4], [], 0), (30, [3], [], 0), (1282, [3, 0, 1], [0, 1], 0), (90, [3], [], 0), (91, [3], [], 1), (6000, [0, 1, 2], [0], 0), (0, [0], [], 285), (90, [1], [], -2147483648), (91, [1], [], 2147483647), (90, [2], [], -2147483648), (91, [2], [], 2147483647)], (3000, [4], [1], 9))]
theorem r_294_s : vCovO false (eR0 e_294 L_294 cs_294 2000) p_294_s = true := by decide +kernel
theorem m_294 (d : Nat) : eC e_294 (d + 3) := eC_ok (e := e_294) (L := L_294) (cs := cs_294) (n := 2000) (d := d + 2) (A := A_294) (μ := mu_294) (tp := false) (p0 := p_294_s) rfl ⟨m_270 d, ⟨m_282 (d + 1), trivial⟩⟩ rfl (.inl rfl) (by decide +kernel) (fun z => nomatch z) r_294_s (allC c_294_s_0 (allC c_294_s_1 (allC c_294_s_2 (allC c_294_s_3 (allC c_294_s_4 (allC c_294_s_5 (allC c_294_s_6 allN))))))) allN
/- MixStageModel.cue (III)I -/
noncomputable def s_295 : vM := ([(3, 12, 285, 0), (0, -2147483648, 2147483647, 0), (0, -2147483648, 2147483647, 0), (0, -2147483648, 2147483647, 0)], (0, -2147483648, 2147483647, 0), 1, 0, [(12, 82), (580, 0), (588, 0), (596, 0), (604, 0), (612, 0)])
def preb_295 (a0 a1 a2 a3 : Int) (h : gH) : Prop := PG h
def pre_295 : List Int → gH → Prop := fun xs h => match xs with
  | [a0, a1, a2, a3] => preb_295 a0 a1 a2 a3 h
  | _ => False
noncomputable def e_295 : vE := (295, s_295, pre_295, post0)
noncomputable def L_295 : List vE := [e_271, e_294]
def cs_295 : List vC := []
def A_295 : Int → List Int → gH → gH → Prop := fun c xs h0 h => True
def mu_295 : Int → List Int → gH → gH → Nat := fun c xs h0 h => 0
theorem q_295_0 {n0 n1 n2 n3 : Int} {H0 : gH} (f0 : n0 ≤ 2147483647) (f1 : (-2147483648) ≤ n0) (f2 : n1 ≤ 2147483647) (f3 : (-2147483648) ≤ n1) (f4 : n2 ≤ 2147483647) (f5 : (-2147483648) ≤ n2) (f6 : n3 = 285) (f7 : hWt T0 H0 ∧ preb_295 n3 n2 n1 n0 H0) : preb_294 n3 n2 n1 H0 := by
  unfold preb_295 at f7
  unfold preb_294
  have p0 := f7.2
  try obtain ⟨w0, w1, w2, w3, w4⟩ := r0_0 (by omega)
  first | assumption | omega | trivial
theorem c_295_s_0 : vOkm T0 (eP e_295 L_295 A_295 mu_295 none) 4 ([(6000, [0, 1, 2, 3], [0], 0), (0, [0], [], 285), (90, [1], [], -2147483648), (91, [1], [], 2147483647), (90, [2], [], -2147483648), (91, [2], [], 2147483647), (90, [3], [], -2147483648), (91, [3], [], 2147483647)], (2294, [0, 1, 2], [0], 0)) := vOk_in fun ρ η h => by
  obtain ⟨f0, f1, f2, f3, f4, f5, f6, f7, _⟩ := h
  exact q_295_0 (n0 := ρ 3) (n1 := ρ 2) (n2 := ρ 1) (n3 := ρ 0) (H0 := η 0) f7 f6 f5 f4 f3 f2 f1 f0
theorem q_295_1 {n0 n1 n2 n3 n4 : Int} {H0 H1 : gH} (f0 : n0 ≤ 2147483647) (f1 : (-2147483648) ≤ n0) (f2 : n1 ≤ 2147483647) (f3 : (-2147483648) ≤ n1) (f4 : n2 ≤ 2147483647) (f5 : (-2147483648) ≤ n2) (f6 : n3 = 285) (f7 : hWt T0 H0 ∧ preb_295 n3 n2 n1 n0 H0) (f8 : n4 ≤ 1) (f9 : 0 ≤ n4) (f10 : (hLe T0 H0 H1 ∧ hFr s_294.2.2.2.2 H0 H1 ∧ ((0 : Int) = 0 → H1.length = H0.length) ∧ hWt T0 H1) ∧ postb_294 n4 n3 n2 n1 H0 H1) (f11 : n4 ≠ 0) : 0 ≤ n1 ∧ n1 < 40 := by
  unfold preb_295 at f7
  unfold postb_294 at f10
  have e0 : hV H1 285 18 = hV H0 285 18 := f10.1.2.1.1 285 18 (by decide +kernel)
  have e1 : hV H1 285 18 = hV H0 285 18 := e0
  have e2 : (0 : Int) ≤ hV H1 285 18 ∧ hV H1 285 18 ≤ 8 := f10.1.2.2.2 285 18 _ _ (by decide +kernel)
  have e3 : (0 : Int) ≤ hV H0 285 18 ∧ hV H0 285 18 ≤ 8 := f7.1 285 18 _ _ (by decide +kernel)
  have e4 : (0 : Int) ≤ hV H1 285 82 ∧ hV H1 285 82 ≤ 40 := f10.1.2.2.2 285 82 _ _ (by decide +kernel)
  try simp only [e1] at f7
  try simp only [e1] at f10
  try simp only [e1] at e2
  try simp only [e1] at e3
  try simp only [e1] at e4
  try simp only [e1]
  have p0 := f7.2
  have r0_0 := f10.2
  try simp only [e1] at p0
  try simp only [e1] at r0_0
  clear e0 e1
  try obtain ⟨w0, w1, w2, w3, w4⟩ := r0_0 (by omega)
  omega
theorem c_295_s_1 : vOkm T0 (eP e_295 L_295 A_295 mu_295 none) 4 ([(31, [4], [], 0), (1294, [4, 0, 1, 2], [0, 1], 0), (90, [4], [], 0), (91, [4], [], 1), (6000, [0, 1, 2, 3], [0], 0), (0, [0], [], 285), (90, [1], [], -2147483648), (91, [1], [], 2147483647), (90, [2], [], -2147483648), (91, [2], [], 2147483647), (90, [3], [], -2147483648), (91, [3], [], 2147483647)], (70, [2], [], 40)) := vOk_in fun ρ η h => by
  obtain ⟨f0, f1, f2, f3, f4, f5, f6, f7, f8, f9, f10, f11, _⟩ := h
  exact q_295_1 (n0 := ρ 3) (n1 := ρ 2) (n2 := ρ 1) (n3 := ρ 0) (n4 := ρ 4) (H0 := η 0) (H1 := η 1) f11 f10 f9 f8 f7 f6 f5 f4 f3 f2 f1 f0
theorem q_295_2 {n0 n1 n2 n3 n4 n5 n6 n7 n8 n9 : Int} {H0 H1 : gH} (f0 : n0 ≤ 2147483647) (f1 : (-2147483648) ≤ n0) (f2 : n1 ≤ 2147483647) (f3 : (-2147483648) ≤ n1) (f4 : n2 ≤ 2147483647) (f5 : (-2147483648) ≤ n2) (f6 : n3 = 285) (f7 : hWt T0 H0 ∧ preb_295 n3 n2 n1 n0 H0) (f8 : n4 ≤ 1) (f9 : 0 ≤ n4) (f10 : (hLe T0 H0 H1 ∧ hFr s_294.2.2.2.2 H0 H1 ∧ ((0 : Int) = 0 → H1.length = H0.length) ∧ hWt T0 H1) ∧ postb_294 n4 n3 n2 n1 H0 H1) (f11 : n4 ≠ 0) (f12 : n5 = 344) (f13 : n5 = hV H1 (n3).toNat 83) (f14 : n6 ≤ 1007) (f15 : 0 ≤ n6) (f16 : n6 = hV H1 (n5).toNat (n1).toNat) (f17 : n0 = 1) (f18 : n7 = 298) (f19 : n7 = hV H1 (n3).toNat 24) (f20 : n8 ≤ 5) (f21 : 0 ≤ n8) (f22 : n8 = hV H1 (n7).toNat (n6).toNat) (f23 : n9 = 2) (f24 : n8 < n9) : 0 ≤ n1 := by
  unfold preb_295 at f7
  unfold postb_294 at f10
  have e0 : n6 = hV H1 344 (n1).toNat := (by rw [f12] at f16; exact f16 : n6 = hV H1 344 (n1).toNat)
  have e1 : hV H1 298 = hV H0 298 := fRow f10.1.2.1 298 (by decide +kernel)
  have e2 : n8 = hV H0 298 (n6).toNat := (by rw [f18] at f22; exact f22 : n8 = hV H1 298 (n6).toNat).trans ((congrFun e1 _))
  have e3 : hV H1 285 18 = hV H0 285 18 := f10.1.2.1.1 285 18 (by decide +kernel)
  have e4 : hV H1 285 18 = hV H0 285 18 := e3
  have e5 : (0 : Int) ≤ hV H1 285 18 ∧ hV H1 285 18 ≤ 8 := f10.1.2.2.2 285 18 _ _ (by decide +kernel)
  have e6 : (0 : Int) ≤ hV H0 285 18 ∧ hV H0 285 18 ≤ 8 := f7.1 285 18 _ _ (by decide +kernel)
  have e7 : (0 : Int) ≤ hV H1 285 82 ∧ hV H1 285 82 ≤ 40 := f10.1.2.2.2 285 82 _ _ (by decide +kernel)
  try simp only [e4] at f7
  try simp only [e4] at f10
  try simp only [e4] at e5
  try simp only [e4] at e6
  try simp only [e4] at e7
  try simp only [e4]
  have p0 := f7.2
  have r0_0 := f10.2
  try simp only [e4] at p0
  try simp only [e4] at r0_0
  clear f13 f16 f19 f22 e1 e3 e4
  subst e0
  subst e2
  try obtain ⟨w0, w1, w2, w3, w4⟩ := r0_0 (by omega)
  omega
theorem c_295_s_2 : vOkm T0 (eP e_295 L_295 A_295 mu_295 none) 4 ([(42, [8, 9], [], 0), (0, [9], [], 2), (22, [8, 7, 6], [1], 0), (90, [8], [], 0), (91, [8], [], 5), (20, [7, 0], [1], 24), (0, [7], [], 298), (0, [3], [], 1), (22, [6, 5, 2], [1], 0), (90, [6], [], 0), (91, [6], [], 1007), (20, [5, 0], [1], 83), (0, [5], [], 344), (31, [4], [], 0), (1294, [4, 0, 1, 2], [0, 1], 0), (90, [4], [], 0), (91, [4], [], 1), (6000, [0, 1, 2, 3], [0], 0), (0, [0], [], 285), (90, [1], [], -2147483648), (91, [1], [], 2147483647), (90, [2], [], -2147483648), (91, [2], [], 2147483647), (90, [3], [], -2147483648), (91, [3], [], 2147483647)], (90, [2], [], 0)) := vOk_in fun ρ η h => by
  obtain ⟨f0, f1, f2, f3, f4, f5, f6, f7, f8, f9, f10, f11, f12, f13, f14, f15, f16, f17, f18, f19, f20, f21, f22, f23, f24, _⟩ := h
  exact q_295_2 (n0 := ρ 3) (n1 := ρ 2) (n2 := ρ 1) (n3 := ρ 0) (n4 := ρ 4) (n5 := ρ 5) (n6 := ρ 6) (n7 := ρ 7) (n8 := ρ 8) (n9 := ρ 9) (H0 := η 0) (H1 := η 1) f24 f23 f22 f21 f20 f19 f18 f17 f16 f15 f14 f13 f12 f11 f10 f9 f8 f7 f6 f5 f4 f3 f2 f1 f0
theorem q_295_3 {n0 n1 n2 n3 n4 n5 n6 n7 n8 n9 : Int} {H0 H1 : gH} (f0 : n0 ≤ 2147483647) (f1 : (-2147483648) ≤ n0) (f2 : n1 ≤ 2147483647) (f3 : (-2147483648) ≤ n1) (f4 : n2 ≤ 2147483647) (f5 : (-2147483648) ≤ n2) (f6 : n3 = 285) (f7 : hWt T0 H0 ∧ preb_295 n3 n2 n1 n0 H0) (f8 : n4 ≤ 1) (f9 : 0 ≤ n4) (f10 : (hLe T0 H0 H1 ∧ hFr s_294.2.2.2.2 H0 H1 ∧ ((0 : Int) = 0 → H1.length = H0.length) ∧ hWt T0 H1) ∧ postb_294 n4 n3 n2 n1 H0 H1) (f11 : n4 ≠ 0) (f12 : n5 = 344) (f13 : n5 = hV H1 (n3).toNat 83) (f14 : n6 ≤ 1007) (f15 : 0 ≤ n6) (f16 : n6 = hV H1 (n5).toNat (n1).toNat) (f17 : n0 = 1) (f18 : n7 = 298) (f19 : n7 = hV H1 (n3).toNat 24) (f20 : n8 ≤ 5) (f21 : 0 ≤ n8) (f22 : n8 = hV H1 (n7).toNat (n6).toNat) (f23 : n9 = 2) (f24 : n8 < n9) : n1 ≤ 39 := by
  unfold preb_295 at f7
  unfold postb_294 at f10
  have e0 : n6 = hV H1 344 (n1).toNat := (by rw [f12] at f16; exact f16 : n6 = hV H1 344 (n1).toNat)
  have e1 : hV H1 298 = hV H0 298 := fRow f10.1.2.1 298 (by decide +kernel)
  have e2 : n8 = hV H0 298 (n6).toNat := (by rw [f18] at f22; exact f22 : n8 = hV H1 298 (n6).toNat).trans ((congrFun e1 _))
  have e3 : hV H1 285 18 = hV H0 285 18 := f10.1.2.1.1 285 18 (by decide +kernel)
  have e4 : hV H1 285 18 = hV H0 285 18 := e3
  have e5 : (0 : Int) ≤ hV H1 285 18 ∧ hV H1 285 18 ≤ 8 := f10.1.2.2.2 285 18 _ _ (by decide +kernel)
  have e6 : (0 : Int) ≤ hV H0 285 18 ∧ hV H0 285 18 ≤ 8 := f7.1 285 18 _ _ (by decide +kernel)
  have e7 : (0 : Int) ≤ hV H1 285 82 ∧ hV H1 285 82 ≤ 40 := f10.1.2.2.2 285 82 _ _ (by decide +kernel)
  try simp only [e4] at f7
  try simp only [e4] at f10
  try simp only [e4] at e5
  try simp only [e4] at e6
  try simp only [e4] at e7
  try simp only [e4]
  have p0 := f7.2
  have r0_0 := f10.2
  try simp only [e4] at p0
  try simp only [e4] at r0_0
  clear f13 f16 f19 f22 e1 e3 e4
  subst e0
  subst e2
  try obtain ⟨w0, w1, w2, w3, w4⟩ := r0_0 (by omega)
  omega
theorem c_295_s_3 : vOkm T0 (eP e_295 L_295 A_295 mu_295 none) 4 ([(42, [8, 9], [], 0), (0, [9], [], 2), (22, [8, 7, 6], [1], 0), (90, [8], [], 0), (91, [8], [], 5), (20, [7, 0], [1], 24), (0, [7], [], 298), (0, [3], [], 1), (22, [6, 5, 2], [1], 0), (90, [6], [], 0), (91, [6], [], 1007), (20, [5, 0], [1], 83), (0, [5], [], 344), (31, [4], [], 0), (1294, [4, 0, 1, 2], [0, 1], 0), (90, [4], [], 0), (91, [4], [], 1), (6000, [0, 1, 2, 3], [0], 0), (0, [0], [], 285), (90, [1], [], -2147483648), (91, [1], [], 2147483647), (90, [2], [], -2147483648), (91, [2], [], 2147483647), (90, [3], [], -2147483648), (91, [3], [], 2147483647)], (91, [2], [], 39)) := vOk_in fun ρ η h => by
  obtain ⟨f0, f1, f2, f3, f4, f5, f6, f7, f8, f9, f10, f11, f12, f13, f14, f15, f16, f17, f18, f19, f20, f21, f22, f23, f24, _⟩ := h
  exact q_295_3 (n0 := ρ 3) (n1 := ρ 2) (n2 := ρ 1) (n3 := ρ 0) (n4 := ρ 4) (n5 := ρ 5) (n6 := ρ 6) (n7 := ρ 7) (n8 := ρ 8) (n9 := ρ 9) (H0 := η 0) (H1 := η 1) f24 f23 f22 f21 f20 f19 f18 f17 f16 f15 f14 f13 f12 f11 f10 f9 f8 f7 f6 f5 f4 f3 f2 f1 f0
theorem q_295_4 {n0 n1 n2 n3 n4 n5 n6 n7 n8 n9 : Int} {H0 H1 : gH} (f0 : n0 ≤ 2147483647) (f1 : (-2147483648) ≤ n0) (f2 : n1 ≤ 2147483647) (f3 : (-2147483648) ≤ n1) (f4 : n2 ≤ 2147483647) (f5 : (-2147483648) ≤ n2) (f6 : n3 = 285) (f7 : hWt T0 H0 ∧ preb_295 n3 n2 n1 n0 H0) (f8 : n4 ≤ 1) (f9 : 0 ≤ n4) (f10 : (hLe T0 H0 H1 ∧ hFr s_294.2.2.2.2 H0 H1 ∧ ((0 : Int) = 0 → H1.length = H0.length) ∧ hWt T0 H1) ∧ postb_294 n4 n3 n2 n1 H0 H1) (f11 : n4 ≠ 0) (f12 : n5 = 344) (f13 : n5 = hV H1 (n3).toNat 83) (f14 : n6 ≤ 1007) (f15 : 0 ≤ n6) (f16 : n6 = hV H1 (n5).toNat (n1).toNat) (f17 : n0 = 1) (f18 : n7 = 298) (f19 : n7 = hV H1 (n3).toNat 24) (f20 : n8 ≤ 5) (f21 : 0 ≤ n8) (f22 : n8 = hV H1 (n7).toNat (n6).toNat) (f23 : n9 = 2) (f24 : n8 < n9) : preb_271 n3 n1 H1 := by
  unfold preb_295 at f7
  unfold postb_294 at f10
  unfold preb_271
  have e0 : n6 = hV H1 344 (n1).toNat := (by rw [f12] at f16; exact f16 : n6 = hV H1 344 (n1).toNat)
  have e1 : hV H1 298 = hV H0 298 := fRow f10.1.2.1 298 (by decide +kernel)
  have e2 : n8 = hV H0 298 (n6).toNat := (by rw [f18] at f22; exact f22 : n8 = hV H1 298 (n6).toNat).trans ((congrFun e1 _))
  have e3 : hV H1 285 18 = hV H0 285 18 := f10.1.2.1.1 285 18 (by decide +kernel)
  have e4 : hV H1 285 18 = hV H0 285 18 := e3
  have e5 : (0 : Int) ≤ hV H1 285 18 ∧ hV H1 285 18 ≤ 8 := f10.1.2.2.2 285 18 _ _ (by decide +kernel)
  have e6 : (0 : Int) ≤ hV H0 285 18 ∧ hV H0 285 18 ≤ 8 := f7.1 285 18 _ _ (by decide +kernel)
  have e7 : (0 : Int) ≤ hV H1 285 82 ∧ hV H1 285 82 ≤ 40 := f10.1.2.2.2 285 82 _ _ (by decide +kernel)
  try simp only [e4, e1] at f7
  try simp only [e4, e1] at f10
  try simp only [e4, e1] at e5
  try simp only [e4, e1] at e6
  try simp only [e4, e1] at e7
  try simp only [e4, e1]
  have p0 := f7.2
  have r0_0 := f10.2
  try simp only [e4, e1] at p0
  try simp only [e4, e1] at r0_0
  clear f13 f16 f19 f22 e1 e3 e4
  subst e0
  subst e2
  try obtain ⟨w0, w1, w2, w3, w4⟩ := r0_0 (by omega)
  refine ⟨?_, ?_, ?_⟩ <;> first | assumption | omega | trivial
theorem c_295_s_4 : vOkm T0 (eP e_295 L_295 A_295 mu_295 none) 4 ([(42, [8, 9], [], 0), (0, [9], [], 2), (22, [8, 7, 6], [1], 0), (90, [8], [], 0), (91, [8], [], 5), (20, [7, 0], [1], 24), (0, [7], [], 298), (0, [3], [], 1), (22, [6, 5, 2], [1], 0), (90, [6], [], 0), (91, [6], [], 1007), (20, [5, 0], [1], 83), (0, [5], [], 344), (31, [4], [], 0), (1294, [4, 0, 1, 2], [0, 1], 0), (90, [4], [], 0), (91, [4], [], 1), (6000, [0, 1, 2, 3], [0], 0), (0, [0], [], 285), (90, [1], [], -2147483648), (91, [1], [], 2147483647), (90, [2], [], -2147483648), (91, [2], [], 2147483647), (90, [3], [], -2147483648), (91, [3], [], 2147483647)], (2271, [0, 2], [1], 0)) := vOk_in fun ρ η h => by
  obtain ⟨f0, f1, f2, f3, f4, f5, f6, f7, f8, f9, f10, f11, f12, f13, f14, f15, f16, f17, f18, f19, f20, f21, f22, f23, f24, _⟩ := h
  exact q_295_4 (n0 := ρ 3) (n1 := ρ 2) (n2 := ρ 1) (n3 := ρ 0) (n4 := ρ 4) (n5 := ρ 5) (n6 := ρ 6) (n7 := ρ 7) (n8 := ρ 8) (n9 := ρ 9) (H0 := η 0) (H1 := η 1) f24 f23 f22 f21 f20 f19 f18 f17 f16 f15 f14 f13 f12 f11 f10 f9 f8 f7 f6 f5 f4 f3 f2 f1 f0
def p_295_s : List vG := [([(6000, [0, 1, 2, 3], [0], 0), (0, [0], [], 285), (90, [1], [], -2147483648), (91, [1], [], 2147483647), (90, [2], [], -2147483648), (91, [2], [], 2147483647), (90, [3], [], -2147483648), (91, [3], [], 2147483647)], (2294, [0, 1, 2], [0], 0)),
  ([(31, [4], [], 0), (1294, [4, 0, 1, 2], [0, 1], 0), (90, [4], [], 0), (91, [4], [], 1), (6000, [0, 1, 2, 3], [0], 0), (0, [0], [], 285), (90, [1], [], -2147483648), (91, [1], [], 2147483647), (90, [2], [], -2147483648), (91, [2], [], 2147483647), (90, [3], [], -2147483648), (91, [3], [], 2147483647)], (70, [2], [], 40)),
  ([(42, [8, 9], [], 0), (0, [9], [], 2), (22, [8, 7, 6], [1], 0), (90, [8], [], 0), (91, [8], [], 5), (20, [7, 0], [1], 24), (0, [7], [], 298), (0, [3], [], 1), (22, [6, 5, 2], [1], 0), (90, [6], [], 0), (91, [6], [], 1007), (20, [5, 0], [1], 83), (0, [5], [], 344), (31, [4], [], 0), (1294, [4, 0, 1, 2], [0, 1], 0), (90, [4], [], 0), (91, [4], [], 1), (6000, [0, 1, 2, 3], [0], 0), (0, [0], [], 285), (90, [1], [], -2147483648), (91, [1], [], 2147483647), (90, [2], [], -2147483648), (91, [2], [], 2147483647), (90, [3], [], -2147483648), (91, [3], [], 2147483647)], (90, [2], [], 0)),
  ([(42, [8, 9], [], 0), (0, [9], [], 2), (22, [8, 7, 6], [1], 0), (90, [8], [], 0), (91, [8], [], 5), (20, [7, 0], [1], 24), (0, [7], [], 298), (0, [3], [], 1), (22, [6, 5, 2], [1], 0), (90, [6], [], 0), (91, [6], [], 1007), (20, [5, 0], [1], 83), (0, [5], [], 344), (31, [4], [], 0), (1294, [4, 0, 1, 2], [0, 1], 0), (90, [4], [], 0), (91, [4], [], 1), (6000, [0, 1, 2, 3], [0], 0), (0, [0], [], 285), (90, [1], [], -2147483648), (91, [1], [], 2147483647), (90, [2], [], -2147483648), (91, [2], [], 2147483647), (90, [3], [], -2147483648), (91, [3], [], 2147483647)], (91, [2], [], 39)),
  ([(42, [8, 9], [], 0), (0, [9], [], 2), (22, [8, 7, 6], [1], 0), (90, [8], [], 0), (91, [8], [], 5), (20, [7, 0], [1], 24), (0, [7], [], 298), (0, [3], [], 1), (22, [6, 5, 2], [1], 0), (90, [6], [], 0), (91, [6], [], 1007), (20, [5, 0], [1], 83), (0, [5], [], 344), (31, [4], [], 0), (1294, [4, 0, 1, 2], [0, 1], 0), (90, [4], [], 0), (91, [4], [], 1), (6000, [0, 1, 2, 3], [0], 0), (0, [0], [], 285), (90, [1], [], -2147483648), (91, [1], [], 2147483647), (90, [2], [], -2147483648), (91, [2], [], 2147483647), (90, [3], [], -2147483648), (91, [3], [], 2147483647)], (2271, [0, 2], [1], 0))]
theorem r_295_s : vCovO true (eR0 e_295 L_295 cs_295 2000) p_295_s = true := by decide +kernel
theorem m_295 (d : Nat) : eC e_295 (d + 4) := eC_ok (e := e_295) (L := L_295) (cs := cs_295) (n := 2000) (d := d + 3) (A := A_295) (μ := mu_295) (tp := true) (p0 := p_295_s) rfl ⟨m_271 (d + 1), ⟨m_294 d, trivial⟩⟩ rfl (.inl rfl) (by decide +kernel) (fun _ => post0_ok) r_295_s (allC c_295_s_0 (allC c_295_s_1 (allC c_295_s_2 (allC c_295_s_3 (allC c_295_s_4 allN))))) allN
/- MixStageModel.isLay (III)Z -/
noncomputable def s_297 : vM := ([(3, 12, 285, 0), (0, -2147483648, 2147483647, 0), (0, -2147483648, 2147483647, 0), (0, -2147483648, 2147483647, 0)], (0, 0, 1, 0), 1, 0, [(12, 82), (580, 0), (588, 0), (596, 0), (604, 0), (612, 0)])
def preb_297 (a0 a1 a2 a3 : Int) (h : gH) : Prop := PG h
def pre_297 : List Int → gH → Prop := fun xs h => match xs with
  | [a0, a1, a2, a3] => preb_297 a0 a1 a2 a3 h
  | _ => False
def postb_297 (r a0 a1 a2 a3 : Int) (h0 h : gH) : Prop := r ≠ 0 → 0 ≤ a2 ∧ a2 < hV h 285 82 ∧ XQ h ∧ 0 ≤ a1 ∧ a1 < hV h 285 18 ∧ hV h 298 ((hV h 344 ((a2).toNat)).toNat) = 0 ∧ 0 ≤ a3 ∧ a3 < hV h 285 60
def post_297 : List Int → gH → gH → Prop := fun xs h0 h => match xs with
  | [r, a0, a1, a2, a3] => postb_297 r a0 a1 a2 a3 h0 h
  | _ => True
noncomputable def e_297 : vE := (297, s_297, pre_297, post_297)
noncomputable def L_297 : List vE := [e_284, e_294]
def cs_297 : List vC := []
def A_297 : Int → List Int → gH → gH → Prop := fun c xs h0 h => True
def mu_297 : Int → List Int → gH → gH → Nat := fun c xs h0 h => 0
theorem q_297_0 {n0 n1 n2 n3 : Int} {H0 : gH} (f0 : n0 ≤ 2147483647) (f1 : (-2147483648) ≤ n0) (f2 : n1 ≤ 2147483647) (f3 : (-2147483648) ≤ n1) (f4 : n2 ≤ 2147483647) (f5 : (-2147483648) ≤ n2) (f6 : n3 = 285) (f7 : hWt T0 H0 ∧ preb_297 n3 n2 n1 n0 H0) : preb_294 n3 n2 n1 H0 := by
  unfold preb_297 at f7
  unfold preb_294
  have p0 := f7.2
  first | assumption | omega | trivial
theorem c_297_s_0 : vOkm T0 (eP e_297 L_297 A_297 mu_297 none) 4 ([(6000, [0, 1, 2, 3], [0], 0), (0, [0], [], 285), (90, [1], [], -2147483648), (91, [1], [], 2147483647), (90, [2], [], -2147483648), (91, [2], [], 2147483647), (90, [3], [], -2147483648), (91, [3], [], 2147483647)], (2294, [0, 1, 2], [0], 0)) := vOk_in fun ρ η h => by
  obtain ⟨f0, f1, f2, f3, f4, f5, f6, f7, _⟩ := h
  exact q_297_0 (n0 := ρ 3) (n1 := ρ 2) (n2 := ρ 1) (n3 := ρ 0) (H0 := η 0) f7 f6 f5 f4 f3 f2 f1 f0
theorem q_297_1 {n0 n1 n2 n3 n4 n5 : Int} {H0 H1 : gH} (f0 : n0 ≤ 2147483647) (f1 : (-2147483648) ≤ n0) (f2 : n1 ≤ 2147483647) (f3 : (-2147483648) ≤ n1) (f4 : n2 ≤ 2147483647) (f5 : (-2147483648) ≤ n2) (f6 : n3 = 285) (f7 : hWt T0 H0 ∧ preb_297 n3 n2 n1 n0 H0) (f8 : n4 ≤ 1) (f9 : 0 ≤ n4) (f10 : (hLe T0 H0 H1 ∧ hFr s_294.2.2.2.2 H0 H1 ∧ ((0 : Int) = 0 → H1.length = H0.length) ∧ hWt T0 H1) ∧ postb_294 n4 n3 n2 n1 H0 H1) (f11 : n4 = 0) (f12 : n5 = 0) : postb_297 n5 n3 n2 n1 n0 H0 H1 := by
  unfold preb_297 at f7
  unfold postb_294 at f10
  unfold postb_297
  have e0 : hV H1 285 18 = hV H0 285 18 := f10.1.2.1.1 285 18 (by decide +kernel)
  have e1 : hV H1 285 18 = hV H0 285 18 := e0
  have e2 : hV H1 285 60 = hV H0 285 60 := f10.1.2.1.1 285 60 (by decide +kernel)
  have e3 : hV H1 285 60 = hV H0 285 60 := e2
  have e4 : hV H1 298 = hV H0 298 := fRow f10.1.2.1 298 (by decide +kernel)
  have e5 : (0 : Int) ≤ hV H1 285 18 ∧ hV H1 285 18 ≤ 8 := f10.1.2.2.2 285 18 _ _ (by decide +kernel)
  have e6 : (0 : Int) ≤ hV H0 285 18 ∧ hV H0 285 18 ≤ 8 := f7.1 285 18 _ _ (by decide +kernel)
  have e7 : (1 : Int) ≤ hV H1 285 60 ∧ hV H1 285 60 ≤ 6 := f10.1.2.2.2 285 60 _ _ (by decide +kernel)
  have e8 : (1 : Int) ≤ hV H0 285 60 ∧ hV H0 285 60 ≤ 6 := f7.1 285 60 _ _ (by decide +kernel)
  have e9 : (0 : Int) ≤ hV H1 285 82 ∧ hV H1 285 82 ≤ 40 := f10.1.2.2.2 285 82 _ _ (by decide +kernel)
  try simp only [e1, e3, e4] at f7
  try simp only [e1, e3, e4] at f10
  try simp only [e1, e3, e4] at e5
  try simp only [e1, e3, e4] at e6
  try simp only [e1, e3, e4] at e7
  try simp only [e1, e3, e4] at e8
  try simp only [e1, e3, e4] at e9
  try simp only [e1, e3, e4]
  have p0 := f7.2
  have r0_0 := f10.2
  try simp only [e1, e3, e4] at p0
  try simp only [e1, e3, e4] at r0_0
  clear e0 e1 e2 e3 e4

  intro hr
  first
  | omega
  | (obtain ⟨w0, w1, w2, w3, w4⟩ := r0_0 (by omega)
     refine ⟨?_, ?_, ?_, ?_, ?_, ?_, ?_, ?_⟩ <;> first | assumption | omega)
theorem c_297_s_1 : vOkm T0 (eP e_297 L_297 A_297 mu_297 none) 4 ([(0, [5], [], 0), (30, [4], [], 0), (1294, [4, 0, 1, 2], [0, 1], 0), (90, [4], [], 0), (91, [4], [], 1), (6000, [0, 1, 2, 3], [0], 0), (0, [0], [], 285), (90, [1], [], -2147483648), (91, [1], [], 2147483647), (90, [2], [], -2147483648), (91, [2], [], 2147483647), (90, [3], [], -2147483648), (91, [3], [], 2147483647)], (3000, [5], [1], 37)) := vOk_in fun ρ η h => by
  obtain ⟨f0, f1, f2, f3, f4, f5, f6, f7, f8, f9, f10, f11, f12, _⟩ := h
  exact q_297_1 (n0 := ρ 3) (n1 := ρ 2) (n2 := ρ 1) (n3 := ρ 0) (n4 := ρ 4) (n5 := ρ 5) (H0 := η 0) (H1 := η 1) f12 f11 f10 f9 f8 f7 f6 f5 f4 f3 f2 f1 f0
theorem q_297_2 {n0 n1 n2 n3 n4 : Int} {H0 H1 : gH} (f0 : n0 ≤ 2147483647) (f1 : (-2147483648) ≤ n0) (f2 : n1 ≤ 2147483647) (f3 : (-2147483648) ≤ n1) (f4 : n2 ≤ 2147483647) (f5 : (-2147483648) ≤ n2) (f6 : n3 = 285) (f7 : hWt T0 H0 ∧ preb_297 n3 n2 n1 n0 H0) (f8 : n4 ≤ 1) (f9 : 0 ≤ n4) (f10 : (hLe T0 H0 H1 ∧ hFr s_294.2.2.2.2 H0 H1 ∧ ((0 : Int) = 0 → H1.length = H0.length) ∧ hWt T0 H1) ∧ postb_294 n4 n3 n2 n1 H0 H1) (f11 : n4 ≠ 0) : 0 ≤ n1 ∧ n1 < 40 := by
  unfold preb_297 at f7
  unfold postb_294 at f10
  have e0 : hV H1 285 18 = hV H0 285 18 := f10.1.2.1.1 285 18 (by decide +kernel)
  have e1 : hV H1 285 18 = hV H0 285 18 := e0
  have e2 : (0 : Int) ≤ hV H1 285 18 ∧ hV H1 285 18 ≤ 8 := f10.1.2.2.2 285 18 _ _ (by decide +kernel)
  have e3 : (0 : Int) ≤ hV H0 285 18 ∧ hV H0 285 18 ≤ 8 := f7.1 285 18 _ _ (by decide +kernel)
  have e4 : (0 : Int) ≤ hV H1 285 82 ∧ hV H1 285 82 ≤ 40 := f10.1.2.2.2 285 82 _ _ (by decide +kernel)
  try simp only [e1] at f7
  try simp only [e1] at f10
  try simp only [e1] at e2
  try simp only [e1] at e3
  try simp only [e1] at e4
  try simp only [e1]
  have p0 := f7.2
  have r0_0 := f10.2
  try simp only [e1] at p0
  try simp only [e1] at r0_0
  clear e0 e1
  omega
theorem c_297_s_2 : vOkm T0 (eP e_297 L_297 A_297 mu_297 none) 4 ([(31, [4], [], 0), (1294, [4, 0, 1, 2], [0, 1], 0), (90, [4], [], 0), (91, [4], [], 1), (6000, [0, 1, 2, 3], [0], 0), (0, [0], [], 285), (90, [1], [], -2147483648), (91, [1], [], 2147483647), (90, [2], [], -2147483648), (91, [2], [], 2147483647), (90, [3], [], -2147483648), (91, [3], [], 2147483647)], (70, [2], [], 40)) := vOk_in fun ρ η h => by
  obtain ⟨f0, f1, f2, f3, f4, f5, f6, f7, f8, f9, f10, f11, _⟩ := h
  exact q_297_2 (n0 := ρ 3) (n1 := ρ 2) (n2 := ρ 1) (n3 := ρ 0) (n4 := ρ 4) (H0 := η 0) (H1 := η 1) f11 f10 f9 f8 f7 f6 f5 f4 f3 f2 f1 f0
theorem q_297_3 {n0 n1 n2 n3 n4 n5 n6 n7 n8 n9 : Int} {H0 H1 : gH} (f0 : n0 ≤ 2147483647) (f1 : (-2147483648) ≤ n0) (f2 : n1 ≤ 2147483647) (f3 : (-2147483648) ≤ n1) (f4 : n2 ≤ 2147483647) (f5 : (-2147483648) ≤ n2) (f6 : n3 = 285) (f7 : hWt T0 H0 ∧ preb_297 n3 n2 n1 n0 H0) (f8 : n4 ≤ 1) (f9 : 0 ≤ n4) (f10 : (hLe T0 H0 H1 ∧ hFr s_294.2.2.2.2 H0 H1 ∧ ((0 : Int) = 0 → H1.length = H0.length) ∧ hWt T0 H1) ∧ postb_294 n4 n3 n2 n1 H0 H1) (f11 : n4 ≠ 0) (f12 : n5 = 298) (f13 : n5 = hV H1 (n3).toNat 24) (f14 : n6 = 344) (f15 : n6 = hV H1 (n3).toNat 83) (f16 : n7 ≤ 1007) (f17 : 0 ≤ n7) (f18 : n7 = hV H1 (n6).toNat (n1).toNat) (f19 : n8 ≤ 5) (f20 : 0 ≤ n8) (f21 : n8 = hV H1 (n5).toNat (n7).toNat) (f22 : n8 ≠ 0) (f23 : n9 = 0) : postb_297 n9 n3 n2 n1 n0 H0 H1 := by
  unfold preb_297 at f7
  unfold postb_294 at f10
  unfold postb_297
  have e0 : n7 = hV H1 344 (n1).toNat := (by rw [f14] at f18; exact f18 : n7 = hV H1 344 (n1).toNat)
  have e1 : hV H1 298 = hV H0 298 := fRow f10.1.2.1 298 (by decide +kernel)
  have e2 : n8 = hV H0 298 (n7).toNat := (by rw [f12] at f21; exact f21 : n8 = hV H1 298 (n7).toNat).trans ((congrFun e1 _))
  have e3 : hV H1 285 18 = hV H0 285 18 := f10.1.2.1.1 285 18 (by decide +kernel)
  have e4 : hV H1 285 18 = hV H0 285 18 := e3
  have e5 : hV H1 285 60 = hV H0 285 60 := f10.1.2.1.1 285 60 (by decide +kernel)
  have e6 : hV H1 285 60 = hV H0 285 60 := e5
  have e7 : (0 : Int) ≤ hV H1 285 18 ∧ hV H1 285 18 ≤ 8 := f10.1.2.2.2 285 18 _ _ (by decide +kernel)
  have e8 : (0 : Int) ≤ hV H0 285 18 ∧ hV H0 285 18 ≤ 8 := f7.1 285 18 _ _ (by decide +kernel)
  have e9 : (1 : Int) ≤ hV H1 285 60 ∧ hV H1 285 60 ≤ 6 := f10.1.2.2.2 285 60 _ _ (by decide +kernel)
  have e10 : (1 : Int) ≤ hV H0 285 60 ∧ hV H0 285 60 ≤ 6 := f7.1 285 60 _ _ (by decide +kernel)
  have e11 : (0 : Int) ≤ hV H1 285 82 ∧ hV H1 285 82 ≤ 40 := f10.1.2.2.2 285 82 _ _ (by decide +kernel)
  try simp only [e4, e6, e1] at f7
  try simp only [e4, e6, e1] at f10
  try simp only [e4, e6, e1] at e7
  try simp only [e4, e6, e1] at e8
  try simp only [e4, e6, e1] at e9
  try simp only [e4, e6, e1] at e10
  try simp only [e4, e6, e1] at e11
  try simp only [e4, e6, e1]
  have p0 := f7.2
  have r0_0 := f10.2
  try simp only [e4, e6, e1] at p0
  try simp only [e4, e6, e1] at r0_0
  clear f13 f15 f18 f21 e1 e3 e4 e5 e6
  subst e0
  subst e2

  intro hr
  first
  | omega
  | (obtain ⟨w0, w1, w2, w3, w4⟩ := r0_0 (by omega)
     refine ⟨?_, ?_, ?_, ?_, ?_, ?_, ?_, ?_⟩ <;> first | assumption | omega)
theorem c_297_s_3 : vOkm T0 (eP e_297 L_297 A_297 mu_297 none) 4 ([(0, [9], [], 0), (31, [8], [], 0), (22, [8, 5, 7], [1], 0), (90, [8], [], 0), (91, [8], [], 5), (22, [7, 6, 2], [1], 0), (90, [7], [], 0), (91, [7], [], 1007), (20, [6, 0], [1], 83), (0, [6], [], 344), (20, [5, 0], [1], 24), (0, [5], [], 298), (31, [4], [], 0), (1294, [4, 0, 1, 2], [0, 1], 0), (90, [4], [], 0), (91, [4], [], 1), (6000, [0, 1, 2, 3], [0], 0), (0, [0], [], 285), (90, [1], [], -2147483648), (91, [1], [], 2147483647), (90, [2], [], -2147483648), (91, [2], [], 2147483647), (90, [3], [], -2147483648), (91, [3], [], 2147483647)], (3000, [9], [1], 37)) := vOk_in fun ρ η h => by
  obtain ⟨f0, f1, f2, f3, f4, f5, f6, f7, f8, f9, f10, f11, f12, f13, f14, f15, f16, f17, f18, f19, f20, f21, f22, f23, _⟩ := h
  exact q_297_3 (n0 := ρ 3) (n1 := ρ 2) (n2 := ρ 1) (n3 := ρ 0) (n4 := ρ 4) (n5 := ρ 5) (n6 := ρ 6) (n7 := ρ 7) (n8 := ρ 8) (n9 := ρ 9) (H0 := η 0) (H1 := η 1) f23 f22 f21 f20 f19 f18 f17 f16 f15 f14 f13 f12 f11 f10 f9 f8 f7 f6 f5 f4 f3 f2 f1 f0
theorem q_297_4 {n0 n1 n2 n3 n4 n5 n6 n7 n8 n9 n10 : Int} {H0 H1 H2 : gH} (f0 : n0 ≤ 2147483647) (f1 : (-2147483648) ≤ n0) (f2 : n1 ≤ 2147483647) (f3 : (-2147483648) ≤ n1) (f4 : n2 ≤ 2147483647) (f5 : (-2147483648) ≤ n2) (f6 : n3 = 285) (f7 : hWt T0 H0 ∧ preb_297 n3 n2 n1 n0 H0) (f8 : n4 ≤ 1) (f9 : 0 ≤ n4) (f10 : (hLe T0 H0 H1 ∧ hFr s_294.2.2.2.2 H0 H1 ∧ ((0 : Int) = 0 → H1.length = H0.length) ∧ hWt T0 H1) ∧ postb_294 n4 n3 n2 n1 H0 H1) (f11 : n4 ≠ 0) (f12 : n5 = 298) (f13 : n5 = hV H1 (n3).toNat 24) (f14 : n6 = 344) (f15 : n6 = hV H1 (n3).toNat 83) (f16 : n7 ≤ 1007) (f17 : 0 ≤ n7) (f18 : n7 = hV H1 (n6).toNat (n1).toNat) (f19 : n8 ≤ 5) (f20 : 0 ≤ n8) (f21 : n8 = hV H1 (n5).toNat (n7).toNat) (f22 : n8 = 0) (f23 : n9 ≤ 1) (f24 : 0 ≤ n9) (f25 : (hLe T0 H1 H2 ∧ hFr s_284.2.2.2.2 H1 H2 ∧ ((0 : Int) = 0 → H2.length = H1.length) ∧ hWt T0 H2) ∧ postb_284 n9 n3 n2 n0 H1 H2) (f26 : n9 = 0) (f27 : n10 = 0) : postb_297 n10 n3 n2 n1 n0 H0 H2 := by
  unfold preb_297 at f7
  unfold postb_294 at f10
  unfold postb_284 at f25
  unfold postb_297
  have e0 : n7 = hV H1 344 (n1).toNat := (by rw [f14] at f18; exact f18 : n7 = hV H1 344 (n1).toNat)
  have e1 : hV H1 298 = hV H0 298 := fRow f10.1.2.1 298 (by decide +kernel)
  have e2 : n8 = hV H0 298 (n7).toNat := (by rw [f12] at f21; exact f21 : n8 = hV H1 298 (n7).toNat).trans ((congrFun e1 _))
  have e3 : hV H1 285 18 = hV H0 285 18 := f10.1.2.1.1 285 18 (by decide +kernel)
  have e4 : hV H1 285 18 = hV H0 285 18 := e3
  have e5 : hV H2 285 18 = hV H1 285 18 := f25.1.2.1.1 285 18 (by decide +kernel)
  have e6 : hV H2 285 18 = hV H0 285 18 := (e5).trans e3
  have e7 : hV H2 285 60 = hV H1 285 60 := f25.1.2.1.1 285 60 (by decide +kernel)
  have e8 : hV H1 285 60 = hV H0 285 60 := f10.1.2.1.1 285 60 (by decide +kernel)
  have e9 : hV H2 285 60 = hV H0 285 60 := (e7).trans e8
  have e10 : hV H2 285 82 = hV H1 285 82 := f25.1.2.1.1 285 82 (by decide +kernel)
  have e11 : hV H2 285 82 = hV H1 285 82 := e10
  have e12 : hV H2 298 = hV H1 298 := fRow f25.1.2.1 298 (by decide +kernel)
  have e13 : hV H2 298 = hV H0 298 := e12.trans e1
  have e14 : hV H2 344 = hV H1 344 := fRow f25.1.2.1 344 (by decide +kernel)
  have e15 : XQ H2 = XQ H1 := XQ_fr f25.1.2.1 (by decide +kernel)
  have e16 : (0 : Int) ≤ hV H1 285 18 ∧ hV H1 285 18 ≤ 8 := f10.1.2.2.2 285 18 _ _ (by decide +kernel)
  have e17 : (0 : Int) ≤ hV H0 285 18 ∧ hV H0 285 18 ≤ 8 := f7.1 285 18 _ _ (by decide +kernel)
  have e18 : (0 : Int) ≤ hV H1 285 82 ∧ hV H1 285 82 ≤ 40 := f10.1.2.2.2 285 82 _ _ (by decide +kernel)
  have e19 : (0 : Int) ≤ hV H2 285 18 ∧ hV H2 285 18 ≤ 8 := f25.1.2.2.2 285 18 _ _ (by decide +kernel)
  have e20 : (1 : Int) ≤ hV H2 285 60 ∧ hV H2 285 60 ≤ 6 := f25.1.2.2.2 285 60 _ _ (by decide +kernel)
  have e21 : (1 : Int) ≤ hV H0 285 60 ∧ hV H0 285 60 ≤ 6 := f7.1 285 60 _ _ (by decide +kernel)
  have e22 : (0 : Int) ≤ hV H2 285 82 ∧ hV H2 285 82 ≤ 40 := f25.1.2.2.2 285 82 _ _ (by decide +kernel)
  try simp only [e4, e6, e9, e11, e13, e14, e15] at f7
  try simp only [e4, e6, e9, e11, e13, e14, e15] at f10
  try simp only [e4, e6, e9, e11, e13, e14, e15] at f25
  try simp only [e4, e6, e9, e11, e13, e14, e15] at e16
  try simp only [e4, e6, e9, e11, e13, e14, e15] at e17
  try simp only [e4, e6, e9, e11, e13, e14, e15] at e18
  try simp only [e4, e6, e9, e11, e13, e14, e15] at e19
  try simp only [e4, e6, e9, e11, e13, e14, e15] at e20
  try simp only [e4, e6, e9, e11, e13, e14, e15] at e21
  try simp only [e4, e6, e9, e11, e13, e14, e15] at e22
  try simp only [e4, e6, e9, e11, e13, e14, e15]
  have p0 := f7.2
  have r0_0 := f10.2
  have r1_0 := f25.2
  try simp only [e4, e6, e9, e11, e13, e14, e15] at p0
  try simp only [e4, e6, e9, e11, e13, e14, e15] at r0_0
  try simp only [e4, e6, e9, e11, e13, e14, e15] at r1_0
  clear f13 f15 f18 f21 e1 e3 e4 e5 e6 e7 e8 e9 e10 e11 e12 e13 e14 e15
  subst e0
  subst e2

  intro hr
  first
  | omega
  | (obtain ⟨w0, w1, w2, w3, w4⟩ := r0_0 (by omega)
     refine ⟨?_, ?_, ?_, ?_, ?_, ?_, ?_, ?_⟩ <;> first | assumption | omega)
theorem c_297_s_4 : vOkm T0 (eP e_297 L_297 A_297 mu_297 none) 4 ([(0, [10], [], 0), (30, [9], [], 0), (1284, [9, 0, 1, 3], [1, 2], 0), (90, [9], [], 0), (91, [9], [], 1), (30, [8], [], 0), (22, [8, 5, 7], [1], 0), (90, [8], [], 0), (91, [8], [], 5), (22, [7, 6, 2], [1], 0), (90, [7], [], 0), (91, [7], [], 1007), (20, [6, 0], [1], 83), (0, [6], [], 344), (20, [5, 0], [1], 24), (0, [5], [], 298), (31, [4], [], 0), (1294, [4, 0, 1, 2], [0, 1], 0), (90, [4], [], 0), (91, [4], [], 1), (6000, [0, 1, 2, 3], [0], 0), (0, [0], [], 285), (90, [1], [], -2147483648), (91, [1], [], 2147483647), (90, [2], [], -2147483648), (91, [2], [], 2147483647), (90, [3], [], -2147483648), (91, [3], [], 2147483647)], (3000, [10], [2], 37)) := vOk_in fun ρ η h => by
  obtain ⟨f0, f1, f2, f3, f4, f5, f6, f7, f8, f9, f10, f11, f12, f13, f14, f15, f16, f17, f18, f19, f20, f21, f22, f23, f24, f25, f26, f27, _⟩ := h
  exact q_297_4 (n0 := ρ 3) (n1 := ρ 2) (n2 := ρ 1) (n3 := ρ 0) (n4 := ρ 4) (n5 := ρ 5) (n6 := ρ 6) (n7 := ρ 7) (n8 := ρ 8) (n9 := ρ 9) (n10 := ρ 10) (H0 := η 0) (H1 := η 1) (H2 := η 2) f27 f26 f25 f24 f23 f22 f21 f20 f19 f18 f17 f16 f15 f14 f13 f12 f11 f10 f9 f8 f7 f6 f5 f4 f3 f2 f1 f0
theorem q_297_5 {n0 n1 n2 n3 n4 n5 n6 n7 n8 n9 n10 : Int} {H0 H1 H2 : gH} (f0 : n0 ≤ 2147483647) (f1 : (-2147483648) ≤ n0) (f2 : n1 ≤ 2147483647) (f3 : (-2147483648) ≤ n1) (f4 : n2 ≤ 2147483647) (f5 : (-2147483648) ≤ n2) (f6 : n3 = 285) (f7 : hWt T0 H0 ∧ preb_297 n3 n2 n1 n0 H0) (f8 : n4 ≤ 1) (f9 : 0 ≤ n4) (f10 : (hLe T0 H0 H1 ∧ hFr s_294.2.2.2.2 H0 H1 ∧ ((0 : Int) = 0 → H1.length = H0.length) ∧ hWt T0 H1) ∧ postb_294 n4 n3 n2 n1 H0 H1) (f11 : n4 ≠ 0) (f12 : n5 = 298) (f13 : n5 = hV H1 (n3).toNat 24) (f14 : n6 = 344) (f15 : n6 = hV H1 (n3).toNat 83) (f16 : n7 ≤ 1007) (f17 : 0 ≤ n7) (f18 : n7 = hV H1 (n6).toNat (n1).toNat) (f19 : n8 ≤ 5) (f20 : 0 ≤ n8) (f21 : n8 = hV H1 (n5).toNat (n7).toNat) (f22 : n8 = 0) (f23 : n9 ≤ 1) (f24 : 0 ≤ n9) (f25 : (hLe T0 H1 H2 ∧ hFr s_284.2.2.2.2 H1 H2 ∧ ((0 : Int) = 0 → H2.length = H1.length) ∧ hWt T0 H2) ∧ postb_284 n9 n3 n2 n0 H1 H2) (f26 : n9 ≠ 0) (f27 : n10 = 1) : postb_297 n10 n3 n2 n1 n0 H0 H2 := by
  unfold preb_297 at f7
  unfold postb_294 at f10
  unfold postb_284 at f25
  unfold postb_297
  have e0 : n7 = hV H1 344 (n1).toNat := (by rw [f14] at f18; exact f18 : n7 = hV H1 344 (n1).toNat)
  have e1 : hV H1 298 = hV H0 298 := fRow f10.1.2.1 298 (by decide +kernel)
  have e2 : n8 = hV H0 298 (n7).toNat := (by rw [f12] at f21; exact f21 : n8 = hV H1 298 (n7).toNat).trans ((congrFun e1 _))
  have e3 : hV H1 285 18 = hV H0 285 18 := f10.1.2.1.1 285 18 (by decide +kernel)
  have e4 : hV H1 285 18 = hV H0 285 18 := e3
  have e5 : hV H2 285 18 = hV H1 285 18 := f25.1.2.1.1 285 18 (by decide +kernel)
  have e6 : hV H2 285 18 = hV H0 285 18 := (e5).trans e3
  have e7 : hV H2 285 60 = hV H1 285 60 := f25.1.2.1.1 285 60 (by decide +kernel)
  have e8 : hV H1 285 60 = hV H0 285 60 := f10.1.2.1.1 285 60 (by decide +kernel)
  have e9 : hV H2 285 60 = hV H0 285 60 := (e7).trans e8
  have e10 : hV H2 285 82 = hV H1 285 82 := f25.1.2.1.1 285 82 (by decide +kernel)
  have e11 : hV H2 285 82 = hV H1 285 82 := e10
  have e12 : hV H2 298 = hV H1 298 := fRow f25.1.2.1 298 (by decide +kernel)
  have e13 : hV H2 298 = hV H0 298 := e12.trans e1
  have e14 : hV H2 344 = hV H1 344 := fRow f25.1.2.1 344 (by decide +kernel)
  have e15 : XQ H2 = XQ H1 := XQ_fr f25.1.2.1 (by decide +kernel)
  have e16 : (0 : Int) ≤ hV H1 285 18 ∧ hV H1 285 18 ≤ 8 := f10.1.2.2.2 285 18 _ _ (by decide +kernel)
  have e17 : (0 : Int) ≤ hV H0 285 18 ∧ hV H0 285 18 ≤ 8 := f7.1 285 18 _ _ (by decide +kernel)
  have e18 : (0 : Int) ≤ hV H1 285 82 ∧ hV H1 285 82 ≤ 40 := f10.1.2.2.2 285 82 _ _ (by decide +kernel)
  have e19 : (0 : Int) ≤ hV H2 285 18 ∧ hV H2 285 18 ≤ 8 := f25.1.2.2.2 285 18 _ _ (by decide +kernel)
  have e20 : (1 : Int) ≤ hV H2 285 60 ∧ hV H2 285 60 ≤ 6 := f25.1.2.2.2 285 60 _ _ (by decide +kernel)
  have e21 : (1 : Int) ≤ hV H0 285 60 ∧ hV H0 285 60 ≤ 6 := f7.1 285 60 _ _ (by decide +kernel)
  have e22 : (0 : Int) ≤ hV H2 285 82 ∧ hV H2 285 82 ≤ 40 := f25.1.2.2.2 285 82 _ _ (by decide +kernel)
  try simp only [e4, e6, e9, e11, e13, e14, e15] at f7
  try simp only [e4, e6, e9, e11, e13, e14, e15] at f10
  try simp only [e4, e6, e9, e11, e13, e14, e15] at f25
  try simp only [e4, e6, e9, e11, e13, e14, e15] at e16
  try simp only [e4, e6, e9, e11, e13, e14, e15] at e17
  try simp only [e4, e6, e9, e11, e13, e14, e15] at e18
  try simp only [e4, e6, e9, e11, e13, e14, e15] at e19
  try simp only [e4, e6, e9, e11, e13, e14, e15] at e20
  try simp only [e4, e6, e9, e11, e13, e14, e15] at e21
  try simp only [e4, e6, e9, e11, e13, e14, e15] at e22
  try simp only [e4, e6, e9, e11, e13, e14, e15]
  have p0 := f7.2
  have r0_0 := f10.2
  have r1_0 := f25.2
  try simp only [e4, e6, e9, e11, e13, e14, e15] at p0
  try simp only [e4, e6, e9, e11, e13, e14, e15] at r0_0
  try simp only [e4, e6, e9, e11, e13, e14, e15] at r1_0
  clear f13 f15 f18 f21 e1 e3 e4 e5 e6 e7 e8 e9 e10 e11 e12 e13 e14 e15
  subst e0
  subst e2

  intro hr
  first
  | omega
  | (obtain ⟨w0, w1, w2, w3, w4⟩ := r0_0 (by omega)
     refine ⟨?_, ?_, ?_, ?_, ?_, ?_, ?_, ?_⟩ <;> first | assumption | omega)
theorem c_297_s_5 : vOkm T0 (eP e_297 L_297 A_297 mu_297 none) 4 ([(0, [10], [], 1), (31, [9], [], 0), (1284, [9, 0, 1, 3], [1, 2], 0), (90, [9], [], 0), (91, [9], [], 1), (30, [8], [], 0), (22, [8, 5, 7], [1], 0), (90, [8], [], 0), (91, [8], [], 5), (22, [7, 6, 2], [1], 0), (90, [7], [], 0), (91, [7], [], 1007), (20, [6, 0], [1], 83), (0, [6], [], 344), (20, [5, 0], [1], 24), (0, [5], [], 298), (31, [4], [], 0), (1294, [4, 0, 1, 2], [0, 1], 0), (90, [4], [], 0), (91, [4], [], 1), (6000, [0, 1, 2, 3], [0], 0), (0, [0], [], 285), (90, [1], [], -2147483648), (91, [1], [], 2147483647), (90, [2], [], -2147483648), (91, [2], [], 2147483647), (90, [3], [], -2147483648), (91, [3], [], 2147483647)], (3000, [10], [2], 37)) := vOk_in fun ρ η h => by
  obtain ⟨f0, f1, f2, f3, f4, f5, f6, f7, f8, f9, f10, f11, f12, f13, f14, f15, f16, f17, f18, f19, f20, f21, f22, f23, f24, f25, f26, f27, _⟩ := h
  exact q_297_5 (n0 := ρ 3) (n1 := ρ 2) (n2 := ρ 1) (n3 := ρ 0) (n4 := ρ 4) (n5 := ρ 5) (n6 := ρ 6) (n7 := ρ 7) (n8 := ρ 8) (n9 := ρ 9) (n10 := ρ 10) (H0 := η 0) (H1 := η 1) (H2 := η 2) f27 f26 f25 f24 f23 f22 f21 f20 f19 f18 f17 f16 f15 f14 f13 f12 f11 f10 f9 f8 f7 f6 f5 f4 f3 f2 f1 f0
def p_297_s : List vG := [([(6000, [0, 1, 2, 3], [0], 0), (0, [0], [], 285), (90, [1], [], -2147483648), (91, [1], [], 2147483647), (90, [2], [], -2147483648), (91, [2], [], 2147483647), (90, [3], [], -2147483648), (91, [3], [], 2147483647)], (2294, [0, 1, 2], [0], 0)),
  ([(0, [5], [], 0), (30, [4], [], 0), (1294, [4, 0, 1, 2], [0, 1], 0), (90, [4], [], 0), (91, [4], [], 1), (6000, [0, 1, 2, 3], [0], 0), (0, [0], [], 285), (90, [1], [], -2147483648), (91, [1], [], 2147483647), (90, [2], [], -2147483648), (91, [2], [], 2147483647), (90, [3], [], -2147483648), (91, [3], [], 2147483647)], (3000, [5], [1], 37)),
  ([(31, [4], [], 0), (1294, [4, 0, 1, 2], [0, 1], 0), (90, [4], [], 0), (91, [4], [], 1), (6000, [0, 1, 2, 3], [0], 0), (0, [0], [], 285), (90, [1], [], -2147483648), (91, [1], [], 2147483647), (90, [2], [], -2147483648), (91, [2], [], 2147483647), (90, [3], [], -2147483648), (91, [3], [], 2147483647)], (70, [2], [], 40)),
  ([(0, [9], [], 0), (31, [8], [], 0), (22, [8, 5, 7], [1], 0), (90, [8], [], 0), (91, [8], [], 5), (22, [7, 6, 2], [1], 0), (90, [7], [], 0), (91, [7], [], 1007), (20, [6, 0], [1], 83), (0, [6], [], 344), (20, [5, 0], [1], 24), (0, [5], [], 298), (31, [4], [], 0), (1294, [4, 0, 1, 2], [0, 1], 0), (90, [4], [], 0), (91, [4], [], 1), (6000, [0, 1, 2, 3], [0], 0), (0, [0], [], 285), (90, [1], [], -2147483648), (91, [1], [], 2147483647), (90, [2], [], -2147483648), (91, [2], [], 2147483647), (90, [3], [], -2147483648), (91, [3], [], 2147483647)], (3000, [9], [1], 37)),
  ([(0, [10], [], 0), (30, [9], [], 0), (1284, [9, 0, 1, 3], [1, 2], 0), (90, [9], [], 0), (91, [9], [], 1), (30, [8], [], 0), (22, [8, 5, 7], [1], 0), (90, [8], [], 0), (91, [8], [], 5), (22, [7, 6, 2], [1], 0), (90, [7], [], 0), (91, [7], [], 1007), (20, [6, 0], [1], 83), (0, [6], [], 344), (20, [5, 0], [1], 24), (0, [5], [], 298), (31, [4], [], 0), (1294, [4, 0, 1, 2], [0, 1], 0), (90, [4], [], 0), (91, [4], [], 1), (6000, [0, 1, 2, 3], [0], 0), (0, [0], [], 285), (90, [1], [], -2147483648), (91, [1], [], 2147483647), (90, [2], [], -2147483648), (91, [2], [], 2147483647), (90, [3], [], -2147483648), (91, [3], [], 2147483647)], (3000, [10], [2], 37)),
  ([(0, [10], [], 1), (31, [9], [], 0), (1284, [9, 0, 1, 3], [1, 2], 0), (90, [9], [], 0), (91, [9], [], 1), (30, [8], [], 0), (22, [8, 5, 7], [1], 0), (90, [8], [], 0), (91, [8], [], 5), (22, [7, 6, 2], [1], 0), (90, [7], [], 0), (91, [7], [], 1007), (20, [6, 0], [1], 83), (0, [6], [], 344), (20, [5, 0], [1], 24), (0, [5], [], 298), (31, [4], [], 0), (1294, [4, 0, 1, 2], [0, 1], 0), (90, [4], [], 0), (91, [4], [], 1), (6000, [0, 1, 2, 3], [0], 0), (0, [0], [], 285), (90, [1], [], -2147483648), (91, [1], [], 2147483647), (90, [2], [], -2147483648), (91, [2], [], 2147483647), (90, [3], [], -2147483648), (91, [3], [], 2147483647)], (3000, [10], [2], 37))]
theorem r_297_s : vCovO false (eR0 e_297 L_297 cs_297 2000) p_297_s = true := by decide +kernel
theorem m_297 (d : Nat) : eC e_297 (d + 4) := eC_ok (e := e_297) (L := L_297) (cs := cs_297) (n := 2000) (d := d + 3) (A := A_297) (μ := mu_297) (tp := false) (p0 := p_297_s) rfl ⟨m_284 (d + 1), ⟨m_294 d, trivial⟩⟩ rfl (.inl rfl) (by decide +kernel) (fun z => nomatch z) r_297_s (allC c_297_s_0 (allC c_297_s_1 (allC c_297_s_2 (allC c_297_s_3 (allC c_297_s_4 (allC c_297_s_5 allN)))))) allN
