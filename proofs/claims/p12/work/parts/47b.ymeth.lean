/-! CONTRACTS of methods (printed by wip/gen/emit.py). -/
/- MixStageModel.fate (III)I -/
noncomputable def s_298 : vM := ([(3, 12, 285, 0), (0, -2147483648, 2147483647, 0), (0, -2147483648, 2147483647, 0), (0, -2147483648, 2147483647, 0)], (0, -2147483648, 2147483647, 0), 1, 0, [(12, 82), (12, 88), (572, 0), (580, 0), (588, 0), (596, 0), (604, 0), (612, 0), (679, 0)])
def preb_298 (a0 a1 a2 a3 : Int) (h : gH) : Prop := PG h ∧ SO h
def pre_298 : List Int → gH → Prop := fun xs h => match xs with
  | [a0, a1, a2, a3] => preb_298 a0 a1 a2 a3 h
  | _ => False
noncomputable def e_298 : vE := (298, s_298, pre_298, post0)
noncomputable def L_298 : List vE := [e_248, e_296, e_297]
def cs_298 : List vC := [(43, [(0, (3, 12, 285, 0)), (1, (0, -2147483648, 2147483647, 0)), (2, (0, -2147483648, 2147483647, 0)), (3, (0, -2147483648, 2147483647, 0)), (4, (0, -2147483648, 2147483647, 0)), (5, (0, 0, 5, 0)), (6, (0, -2147483648, 2147483647, 0)), (7, (0, -2147483648, 2147483647, 0)), (8, (0, -2147483648, 2147483647, 0)), (9, (0, -2147483648, 2147483647, 0)), (10, (0, 0, 60, 0))]), (69, [(0, (3, 12, 285, 0)), (1, (0, -2147483648, 2147483647, 0)), (2, (0, -2147483648, 2147483647, 0)), (3, (0, -2147483648, 2147483647, 0)), (4, (0, -2147483648, 2147483647, 0)), (5, (0, 0, 5, 0)), (6, (0, -2147483648, 2147483647, 0)), (7, (0, -2147483648, 2147483647, 0)), (8, (0, -2147483648, 2147483647, 0)), (9, (0, -2147483648, 2147483647, 0)), (10, (0, 0, 59, 0)), (11, (0, -2147483648, 2147483647, 0)), (12, (0, 0, 60, 0))])]
def Ab_298_43 (a0 a1 a2 a3 x0 x1 x2 x3 x4 x5 x6 x7 x8 x9 x10 : Int) (h0 h : gH) : Prop := x1 = a1 ∧ x2 = a2 ∧ x3 = a3 ∧ 0 ≤ a3 ∧ a3 ≤ 5
def mub_298_43 (a0 a1 a2 a3 x0 x1 x2 x3 x4 x5 x6 x7 x8 x9 x10 : Int) (h0 h : gH) : Nat := (8589934592 + (2147483648 - x10).toNat) * 1099511627776 + 1099511627775
def Ab_298_69 (a0 a1 a2 a3 x0 x1 x2 x3 x4 x5 x6 x7 x8 x9 x10 x11 x12 : Int) (h0 h : gH) : Prop := x1 = a1 ∧ x2 = a2 ∧ x3 = a3 ∧ 0 ≤ a3 ∧ a3 ≤ 5
def mub_298_69 (a0 a1 a2 a3 x0 x1 x2 x3 x4 x5 x6 x7 x8 x9 x10 x11 x12 : Int) (h0 h : gH) : Nat := (8589934592 + (2147483648 - x10).toNat) * 1099511627776 + (8589934592 + (2147483648 - x12).toNat) * 1
def A_298 : Int → List Int → gH → gH → Prop := fun c xs h0 h => match c.toNat with
  | 43 => (match xs with
    | [a0, a1, a2, a3, x0, x1, x2, x3, x4, x5, x6, x7, x8, x9, x10] => Ab_298_43 a0 a1 a2 a3 x0 x1 x2 x3 x4 x5 x6 x7 x8 x9 x10 h0 h
    | _ => False)
  | 69 => (match xs with
    | [a0, a1, a2, a3, x0, x1, x2, x3, x4, x5, x6, x7, x8, x9, x10, x11, x12] => Ab_298_69 a0 a1 a2 a3 x0 x1 x2 x3 x4 x5 x6 x7 x8 x9 x10 x11 x12 h0 h
    | _ => False)
  | _ => True
def mu_298 : Int → List Int → gH → gH → Nat := fun c xs h0 h => match c.toNat with
  | 43 => (match xs with
    | [a0, a1, a2, a3, x0, x1, x2, x3, x4, x5, x6, x7, x8, x9, x10] => mub_298_43 a0 a1 a2 a3 x0 x1 x2 x3 x4 x5 x6 x7 x8 x9 x10 h0 h
    | _ => 0)
  | 69 => (match xs with
    | [a0, a1, a2, a3, x0, x1, x2, x3, x4, x5, x6, x7, x8, x9, x10, x11, x12] => mub_298_69 a0 a1 a2 a3 x0 x1 x2 x3 x4 x5 x6 x7 x8 x9 x10 x11 x12 h0 h
    | _ => 0)
  | _ => 0
theorem q_298_0 {n0 n1 n2 n3 : Int} {H0 : gH} (f0 : n0 ≤ 2147483647) (f1 : (-2147483648) ≤ n0) (f2 : n1 ≤ 2147483647) (f3 : (-2147483648) ≤ n1) (f4 : n2 ≤ 2147483647) (f5 : (-2147483648) ≤ n2) (f6 : n3 = 285) (f7 : hWt T0 H0 ∧ preb_298 n3 n2 n1 n0 H0) : preb_297 n3 n2 n1 n0 H0 := by
  unfold preb_298 at f7
  unfold preb_297
  have p0 := f7.2.1
  have p1 := f7.2.2
  try obtain ⟨w0, w1, w2, w3, w4, w5, w6, w7⟩ := r0_0 (by omega)
  first | assumption | omega | trivial
def g_298_s_0 : vG := ([(6000, [0, 1, 2, 3], [0], 0), (0, [0], [], 285), (90, [1], [], -2147483648), (91, [1], [], 2147483647), (90, [2], [], -2147483648), (91, [2], [], 2147483647), (90, [3], [], -2147483648), (91, [3], [], 2147483647)], (2297, [0, 1, 2, 3], [0], 0))
theorem c_298_s_0 : vOkm T0 (eP e_298 L_298 A_298 mu_298 none) 4 g_298_s_0 := vOk_in fun ρ η h => by
  obtain ⟨f0, f1, f2, f3, f4, f5, f6, f7, _⟩ := h
  exact q_298_0 (n0 := ρ 3) (n1 := ρ 2) (n2 := ρ 1) (n3 := ρ 0) (H0 := η 0) f7 f6 f5 f4 f3 f2 f1 f0
theorem q_298_1 {n0 n1 n2 n3 n4 : Int} {H0 H1 : gH} (f0 : n0 = 285) (f1 : (hLe T0 H0 H1 ∧ hFr s_297.2.2.2.2 H0 H1 ∧ ((0 : Int) = 0 → H1.length = H0.length) ∧ hWt T0 H1) ∧ postb_297 n1 n0 n2 n3 n4 H0 H1) (f2 : n1 ≠ 0) : 0 ≤ n2 := by
  unfold postb_297 at f1
  have e0 : hV H1 285 18 = hV H0 285 18 := f1.1.2.1.1 285 18 (by decide +kernel)
  have e1 : hV H1 285 18 = hV H0 285 18 := e0
  have e2 : hV H1 285 60 = hV H0 285 60 := f1.1.2.1.1 285 60 (by decide +kernel)
  have e3 : hV H1 285 60 = hV H0 285 60 := e2
  have e4 : hV H1 298 = hV H0 298 := fRow f1.1.2.1 298 (by decide +kernel)
  have e5 : (0 : Int) ≤ hV H1 285 18 ∧ hV H1 285 18 ≤ 8 := f1.1.2.2.2 285 18 _ _ (by decide +kernel)
  have e6 : (1 : Int) ≤ hV H1 285 60 ∧ hV H1 285 60 ≤ 6 := f1.1.2.2.2 285 60 _ _ (by decide +kernel)
  have e7 : (0 : Int) ≤ hV H1 285 82 ∧ hV H1 285 82 ≤ 40 := f1.1.2.2.2 285 82 _ _ (by decide +kernel)
  try simp only [e1, e3, e4] at f1
  try simp only [e1, e3, e4] at e5
  try simp only [e1, e3, e4] at e6
  try simp only [e1, e3, e4] at e7
  try simp only [e1, e3, e4]
  have r0_0 := f1.2
  try simp only [e1, e3, e4] at r0_0
  clear e0 e1 e2 e3 e4
  omega
def g_298_s_1 : vG := ([(31, [4], [], 0), (1297, [4, 0, 1, 2, 3], [0, 1], 0), (0, [0], [], 285)], (90, [1], [], 0))
theorem c_298_s_1 : vOkm T0 (eP e_298 L_298 A_298 mu_298 none) 4 g_298_s_1 := vOk_in fun ρ η h => by
  obtain ⟨f0, f1, f2, _⟩ := h
  exact q_298_1 (n0 := ρ 0) (n1 := ρ 4) (n2 := ρ 1) (n3 := ρ 2) (n4 := ρ 3) (H0 := η 0) (H1 := η 1) f2 f1 f0
theorem q_298_2 {n0 n1 n2 n3 n4 : Int} {H0 H1 : gH} (f0 : n0 = 285) (f1 : hWt T0 H0 ∧ preb_298 n0 n1 n2 n3 H0) (f2 : (hLe T0 H0 H1 ∧ hFr s_297.2.2.2.2 H0 H1 ∧ ((0 : Int) = 0 → H1.length = H0.length) ∧ hWt T0 H1) ∧ postb_297 n4 n0 n1 n2 n3 H0 H1) (f3 : n4 ≠ 0) : n1 ≤ 7 := by
  unfold preb_298 at f1
  unfold postb_297 at f2
  have e0 : hV H1 285 18 = hV H0 285 18 := f2.1.2.1.1 285 18 (by decide +kernel)
  have e1 : hV H1 285 18 = hV H0 285 18 := e0
  have e2 : hV H1 285 60 = hV H0 285 60 := f2.1.2.1.1 285 60 (by decide +kernel)
  have e3 : hV H1 285 60 = hV H0 285 60 := e2
  have e4 : hV H1 298 = hV H0 298 := fRow f2.1.2.1 298 (by decide +kernel)
  have e5 : (0 : Int) ≤ hV H1 285 18 ∧ hV H1 285 18 ≤ 8 := f2.1.2.2.2 285 18 _ _ (by decide +kernel)
  have e6 : (0 : Int) ≤ hV H0 285 18 ∧ hV H0 285 18 ≤ 8 := f1.1 285 18 _ _ (by decide +kernel)
  have e7 : (1 : Int) ≤ hV H1 285 60 ∧ hV H1 285 60 ≤ 6 := f2.1.2.2.2 285 60 _ _ (by decide +kernel)
  have e8 : (1 : Int) ≤ hV H0 285 60 ∧ hV H0 285 60 ≤ 6 := f1.1 285 60 _ _ (by decide +kernel)
  have e9 : (0 : Int) ≤ hV H1 285 82 ∧ hV H1 285 82 ≤ 40 := f2.1.2.2.2 285 82 _ _ (by decide +kernel)
  try simp only [e1, e3, e4] at f1
  try simp only [e1, e3, e4] at f2
  try simp only [e1, e3, e4] at e5
  try simp only [e1, e3, e4] at e6
  try simp only [e1, e3, e4] at e7
  try simp only [e1, e3, e4] at e8
  try simp only [e1, e3, e4] at e9
  try simp only [e1, e3, e4]
  have p0 := f1.2.1
  have p1 := f1.2.2
  have r0_0 := f2.2
  try simp only [e1, e3, e4] at p0
  try simp only [e1, e3, e4] at p1
  try simp only [e1, e3, e4] at r0_0
  clear e0 e1 e2 e3 e4
  omega
def g_298_s_2 : vG := ([(31, [4], [], 0), (1297, [4, 0, 1, 2, 3], [0, 1], 0), (6000, [0, 1, 2, 3], [0], 0), (0, [0], [], 285)], (91, [1], [], 7))
theorem c_298_s_2 : vOkm T0 (eP e_298 L_298 A_298 mu_298 none) 4 g_298_s_2 := vOk_in fun ρ η h => by
  obtain ⟨f0, f1, f2, f3, _⟩ := h
  exact q_298_2 (n0 := ρ 0) (n1 := ρ 1) (n2 := ρ 2) (n3 := ρ 3) (n4 := ρ 4) (H0 := η 0) (H1 := η 1) f3 f2 f1 f0
theorem q_298_3 {n0 n1 n2 n3 n4 : Int} {H0 H1 : gH} (f0 : n0 = 285) (f1 : (hLe T0 H0 H1 ∧ hFr s_297.2.2.2.2 H0 H1 ∧ ((0 : Int) = 0 → H1.length = H0.length) ∧ hWt T0 H1) ∧ postb_297 n1 n0 n2 n3 n4 H0 H1) (f2 : n1 ≠ 0) : 0 ≤ n3 := by
  unfold postb_297 at f1
  have e0 : hV H1 285 18 = hV H0 285 18 := f1.1.2.1.1 285 18 (by decide +kernel)
  have e1 : hV H1 285 18 = hV H0 285 18 := e0
  have e2 : hV H1 285 60 = hV H0 285 60 := f1.1.2.1.1 285 60 (by decide +kernel)
  have e3 : hV H1 285 60 = hV H0 285 60 := e2
  have e4 : hV H1 298 = hV H0 298 := fRow f1.1.2.1 298 (by decide +kernel)
  have e5 : (0 : Int) ≤ hV H1 285 18 ∧ hV H1 285 18 ≤ 8 := f1.1.2.2.2 285 18 _ _ (by decide +kernel)
  have e6 : (1 : Int) ≤ hV H1 285 60 ∧ hV H1 285 60 ≤ 6 := f1.1.2.2.2 285 60 _ _ (by decide +kernel)
  have e7 : (0 : Int) ≤ hV H1 285 82 ∧ hV H1 285 82 ≤ 40 := f1.1.2.2.2 285 82 _ _ (by decide +kernel)
  try simp only [e1, e3, e4] at f1
  try simp only [e1, e3, e4] at e5
  try simp only [e1, e3, e4] at e6
  try simp only [e1, e3, e4] at e7
  try simp only [e1, e3, e4]
  have r0_0 := f1.2
  try simp only [e1, e3, e4] at r0_0
  clear e0 e1 e2 e3 e4
  omega
def g_298_s_3 : vG := ([(31, [4], [], 0), (1297, [4, 0, 1, 2, 3], [0, 1], 0), (0, [0], [], 285)], (90, [2], [], 0))
theorem c_298_s_3 : vOkm T0 (eP e_298 L_298 A_298 mu_298 none) 4 g_298_s_3 := vOk_in fun ρ η h => by
  obtain ⟨f0, f1, f2, _⟩ := h
  exact q_298_3 (n0 := ρ 0) (n1 := ρ 4) (n2 := ρ 1) (n3 := ρ 2) (n4 := ρ 3) (H0 := η 0) (H1 := η 1) f2 f1 f0
theorem q_298_4 {n0 n1 n2 n3 n4 : Int} {H0 H1 : gH} (f0 : n0 = 285) (f1 : (hLe T0 H0 H1 ∧ hFr s_297.2.2.2.2 H0 H1 ∧ ((0 : Int) = 0 → H1.length = H0.length) ∧ hWt T0 H1) ∧ postb_297 n1 n0 n2 n3 n4 H0 H1) (f2 : n1 ≠ 0) : n3 ≤ 39 := by
  unfold postb_297 at f1
  have e0 : hV H1 285 18 = hV H0 285 18 := f1.1.2.1.1 285 18 (by decide +kernel)
  have e1 : hV H1 285 18 = hV H0 285 18 := e0
  have e2 : hV H1 285 60 = hV H0 285 60 := f1.1.2.1.1 285 60 (by decide +kernel)
  have e3 : hV H1 285 60 = hV H0 285 60 := e2
  have e4 : hV H1 298 = hV H0 298 := fRow f1.1.2.1 298 (by decide +kernel)
  have e5 : (0 : Int) ≤ hV H1 285 18 ∧ hV H1 285 18 ≤ 8 := f1.1.2.2.2 285 18 _ _ (by decide +kernel)
  have e6 : (1 : Int) ≤ hV H1 285 60 ∧ hV H1 285 60 ≤ 6 := f1.1.2.2.2 285 60 _ _ (by decide +kernel)
  have e7 : (0 : Int) ≤ hV H1 285 82 ∧ hV H1 285 82 ≤ 40 := f1.1.2.2.2 285 82 _ _ (by decide +kernel)
  try simp only [e1, e3, e4] at f1
  try simp only [e1, e3, e4] at e5
  try simp only [e1, e3, e4] at e6
  try simp only [e1, e3, e4] at e7
  try simp only [e1, e3, e4]
  have r0_0 := f1.2
  try simp only [e1, e3, e4] at r0_0
  clear e0 e1 e2 e3 e4
  omega
def g_298_s_4 : vG := ([(31, [4], [], 0), (1297, [4, 0, 1, 2, 3], [0, 1], 0), (0, [0], [], 285)], (91, [2], [], 39))
theorem c_298_s_4 : vOkm T0 (eP e_298 L_298 A_298 mu_298 none) 4 g_298_s_4 := vOk_in fun ρ η h => by
  obtain ⟨f0, f1, f2, _⟩ := h
  exact q_298_4 (n0 := ρ 0) (n1 := ρ 4) (n2 := ρ 1) (n3 := ρ 2) (n4 := ρ 3) (H0 := η 0) (H1 := η 1) f2 f1 f0
theorem q_298_5 {n0 n1 n2 n3 n4 : Int} {H0 H1 : gH} (f0 : n0 ≤ 2147483647) (f1 : (-2147483648) ≤ n0) (f2 : n1 ≤ 2147483647) (f3 : (-2147483648) ≤ n1) (f4 : n2 ≤ 2147483647) (f5 : (-2147483648) ≤ n2) (f6 : n3 = 285) (f7 : hWt T0 H0 ∧ preb_298 n3 n2 n1 n0 H0) (f8 : n4 ≤ 1) (f9 : 0 ≤ n4) (f10 : (hLe T0 H0 H1 ∧ hFr s_297.2.2.2.2 H0 H1 ∧ ((0 : Int) = 0 → H1.length = H0.length) ∧ hWt T0 H1) ∧ postb_297 n4 n3 n2 n1 n0 H0 H1) (f11 : n4 ≠ 0) : preb_296 n3 n2 n1 H1 := by
  unfold preb_298 at f7
  unfold postb_297 at f10
  unfold preb_296
  have e0 : hV H1 285 18 = hV H0 285 18 := f10.1.2.1.1 285 18 (by decide +kernel)
  have e1 : hV H1 285 18 = hV H0 285 18 := e0
  have e2 : hV H1 285 60 = hV H0 285 60 := f10.1.2.1.1 285 60 (by decide +kernel)
  have e3 : hV H1 285 60 = hV H0 285 60 := e2
  have e4 : hV H1 298 = hV H0 298 := fRow f10.1.2.1 298 (by decide +kernel)
  have e5 : SO H1 = SO H0 := SO_fr f10.1.2.1 (by decide +kernel)
  have e6 : (0 : Int) ≤ hV H1 285 18 ∧ hV H1 285 18 ≤ 8 := f10.1.2.2.2 285 18 _ _ (by decide +kernel)
  have e7 : (0 : Int) ≤ hV H0 285 18 ∧ hV H0 285 18 ≤ 8 := f7.1 285 18 _ _ (by decide +kernel)
  have e8 : (1 : Int) ≤ hV H1 285 60 ∧ hV H1 285 60 ≤ 6 := f10.1.2.2.2 285 60 _ _ (by decide +kernel)
  have e9 : (1 : Int) ≤ hV H0 285 60 ∧ hV H0 285 60 ≤ 6 := f7.1 285 60 _ _ (by decide +kernel)
  have e10 : (0 : Int) ≤ hV H1 285 82 ∧ hV H1 285 82 ≤ 40 := f10.1.2.2.2 285 82 _ _ (by decide +kernel)
  try simp only [e1, e3, e4, e5] at f7
  try simp only [e1, e3, e4, e5] at f10
  try simp only [e1, e3, e4, e5] at e6
  try simp only [e1, e3, e4, e5] at e7
  try simp only [e1, e3, e4, e5] at e8
  try simp only [e1, e3, e4, e5] at e9
  try simp only [e1, e3, e4, e5] at e10
  try simp only [e1, e3, e4, e5]
  have p0 := f7.2.1
  have p1 := f7.2.2
  have r0_0 := f10.2
  try simp only [e1, e3, e4, e5] at p0
  try simp only [e1, e3, e4, e5] at p1
  try simp only [e1, e3, e4, e5] at r0_0
  clear e0 e1 e2 e3 e4 e5
  try obtain ⟨w0, w1, w2, w3, w4, w5, w6, w7⟩ := r0_0 (by omega)
  refine ⟨?_, ?_, ?_, ?_⟩ <;> first | assumption | omega | trivial
def g_298_s_5 : vG := ([(31, [4], [], 0), (1297, [4, 0, 1, 2, 3], [0, 1], 0), (90, [4], [], 0), (91, [4], [], 1), (6000, [0, 1, 2, 3], [0], 0), (0, [0], [], 285), (90, [1], [], -2147483648), (91, [1], [], 2147483647), (90, [2], [], -2147483648), (91, [2], [], 2147483647), (90, [3], [], -2147483648), (91, [3], [], 2147483647)], (2296, [0, 1, 2], [1], 0))
theorem c_298_s_5 : vOkm T0 (eP e_298 L_298 A_298 mu_298 none) 4 g_298_s_5 := vOk_in fun ρ η h => by
  obtain ⟨f0, f1, f2, f3, f4, f5, f6, f7, f8, f9, f10, f11, _⟩ := h
  exact q_298_5 (n0 := ρ 3) (n1 := ρ 2) (n2 := ρ 1) (n3 := ρ 0) (n4 := ρ 4) (H0 := η 0) (H1 := η 1) f11 f10 f9 f8 f7 f6 f5 f4 f3 f2 f1 f0
theorem q_298_6 {n0 n1 n2 n3 n4 : Int} {H0 H1 : gH} (f0 : n0 = 285) (f1 : hWt T0 H0 ∧ preb_298 n0 n1 n2 n3 H0) (f2 : 0 ≤ n4) (f3 : (hLe T0 H0 H1 ∧ hFr s_297.2.2.2.2 H0 H1 ∧ ((0 : Int) = 0 → H1.length = H0.length) ∧ hWt T0 H1) ∧ postb_297 n4 n0 n1 n2 n3 H0 H1) (f4 : n4 ≠ 0) : 0 ≤ n1 ∧ n1 < 9 := by
  unfold preb_298 at f1
  unfold postb_297 at f3
  have e0 : hV H1 285 18 = hV H0 285 18 := f3.1.2.1.1 285 18 (by decide +kernel)
  have e1 : hV H1 285 18 = hV H0 285 18 := e0
  have e2 : hV H1 285 60 = hV H0 285 60 := f3.1.2.1.1 285 60 (by decide +kernel)
  have e3 : hV H1 285 60 = hV H0 285 60 := e2
  have e4 : hV H1 298 = hV H0 298 := fRow f3.1.2.1 298 (by decide +kernel)
  have e5 : (0 : Int) ≤ hV H1 285 18 ∧ hV H1 285 18 ≤ 8 := f3.1.2.2.2 285 18 _ _ (by decide +kernel)
  have e6 : (0 : Int) ≤ hV H0 285 18 ∧ hV H0 285 18 ≤ 8 := f1.1 285 18 _ _ (by decide +kernel)
  have e7 : (1 : Int) ≤ hV H1 285 60 ∧ hV H1 285 60 ≤ 6 := f3.1.2.2.2 285 60 _ _ (by decide +kernel)
  have e8 : (1 : Int) ≤ hV H0 285 60 ∧ hV H0 285 60 ≤ 6 := f1.1 285 60 _ _ (by decide +kernel)
  have e9 : (0 : Int) ≤ hV H1 285 82 ∧ hV H1 285 82 ≤ 40 := f3.1.2.2.2 285 82 _ _ (by decide +kernel)
  try simp only [e1, e3, e4] at f1
  try simp only [e1, e3, e4] at f3
  try simp only [e1, e3, e4] at e5
  try simp only [e1, e3, e4] at e6
  try simp only [e1, e3, e4] at e7
  try simp only [e1, e3, e4] at e8
  try simp only [e1, e3, e4] at e9
  try simp only [e1, e3, e4]
  have p0 := f1.2.1
  have p1 := f1.2.2
  have r0_0 := f3.2
  try simp only [e1, e3, e4] at p0
  try simp only [e1, e3, e4] at p1
  try simp only [e1, e3, e4] at r0_0
  clear e0 e1 e2 e3 e4
  omega
def g_298_s_6 : vG := ([(31, [4], [], 0), (1297, [4, 0, 1, 2, 3], [0, 1], 0), (90, [4], [], 0), (6000, [0, 1, 2, 3], [0], 0), (0, [0], [], 285)], (70, [1], [], 9))
theorem c_298_s_6 : vOkm T0 (eP e_298 L_298 A_298 mu_298 none) 4 g_298_s_6 := vOk_in fun ρ η h => by
  obtain ⟨f0, f1, f2, f3, f4, _⟩ := h
  exact q_298_6 (n0 := ρ 0) (n1 := ρ 1) (n2 := ρ 2) (n3 := ρ 3) (n4 := ρ 4) (H0 := η 0) (H1 := η 1) f4 f3 f2 f1 f0
theorem q_298_7 {n0 n1 n2 n3 n4 n5 n6 n7 n8 n9 n10 n11 : Int} {H0 H1 H2 : gH} (f0 : n0 = 285) (f1 : hWt T0 H0 ∧ preb_298 n0 n1 n2 n3 H0) (f2 : (hLe T0 H0 H1 ∧ hFr s_297.2.2.2.2 H0 H1 ∧ ((0 : Int) = 0 → H1.length = H0.length) ∧ hWt T0 H1) ∧ postb_297 n4 n0 n1 n2 n3 H0 H1) (f3 : n4 ≠ 0) (f4 : n5 = 0) (f5 : n6 = 0) (f6 : n7 = 0) (f7 : n8 = 1) (f8 : n9 = 0) : Ab_298_43 n0 n1 n2 n3 n0 n1 n2 n3 n10 n11 n5 n6 n7 n8 n9 H0 H2 ∧ ∀ q, none = some q → mub_298_43 n0 n1 n2 n3 n0 n1 n2 n3 n10 n11 n5 n6 n7 n8 n9 H0 H2 < q := by
  unfold preb_298 at f1
  unfold postb_297 at f2
  unfold Ab_298_43
  have e0 : hV H1 285 18 = hV H0 285 18 := f2.1.2.1.1 285 18 (by decide +kernel)
  have e1 : hV H1 285 18 = hV H0 285 18 := e0
  have e2 : hV H1 285 60 = hV H0 285 60 := f2.1.2.1.1 285 60 (by decide +kernel)
  have e3 : hV H1 285 60 = hV H0 285 60 := e2
  have e4 : hV H1 298 = hV H0 298 := fRow f2.1.2.1 298 (by decide +kernel)
  have e5 : (0 : Int) ≤ hV H1 285 18 ∧ hV H1 285 18 ≤ 8 := f2.1.2.2.2 285 18 _ _ (by decide +kernel)
  have e6 : (0 : Int) ≤ hV H0 285 18 ∧ hV H0 285 18 ≤ 8 := f1.1 285 18 _ _ (by decide +kernel)
  have e7 : (1 : Int) ≤ hV H1 285 60 ∧ hV H1 285 60 ≤ 6 := f2.1.2.2.2 285 60 _ _ (by decide +kernel)
  have e8 : (1 : Int) ≤ hV H0 285 60 ∧ hV H0 285 60 ≤ 6 := f1.1 285 60 _ _ (by decide +kernel)
  have e9 : (0 : Int) ≤ hV H1 285 82 ∧ hV H1 285 82 ≤ 40 := f2.1.2.2.2 285 82 _ _ (by decide +kernel)
  try simp only [e1, e3, e4] at f1
  try simp only [e1, e3, e4] at f2
  try simp only [e1, e3, e4] at e5
  try simp only [e1, e3, e4] at e6
  try simp only [e1, e3, e4] at e7
  try simp only [e1, e3, e4] at e8
  try simp only [e1, e3, e4] at e9
  try simp only [e1, e3, e4]
  have p0 := f1.2.1
  have p1 := f1.2.2
  have r0_0 := f2.2
  try simp only [e1, e3, e4] at p0
  try simp only [e1, e3, e4] at p1
  try simp only [e1, e3, e4] at r0_0
  clear e0 e1 e2 e3 e4
  refine ⟨?_, fun q hq => ?_⟩
  · refine ⟨?_, ?_, ?_, ?_, ?_⟩ <;> first | assumption | omega | trivial
  · exact nomatch hq
def g_298_s_7 : vG := ([(0, [12], [], 0), (0, [11], [], 1), (0, [10], [], 0), (0, [9], [], 0), (0, [8], [], 0), (31, [4], [], 0), (1297, [4, 0, 1, 2, 3], [0, 1], 0), (6000, [0, 1, 2, 3], [0], 0), (0, [0], [], 285)], (4000, [0, 1, 2, 3, 5, 7, 8, 9, 10, 11, 12], [2], 43))
theorem c_298_s_7 : vOkm T0 (eP e_298 L_298 A_298 mu_298 none) 4 g_298_s_7 := vOk_in fun ρ η h => by
  obtain ⟨f0, f1, f2, f3, f4, f5, f6, f7, f8, _⟩ := h
  exact q_298_7 (n0 := ρ 0) (n1 := ρ 1) (n2 := ρ 2) (n3 := ρ 3) (n4 := ρ 4) (n5 := ρ 8) (n6 := ρ 9) (n7 := ρ 10) (n8 := ρ 11) (n9 := ρ 12) (n10 := ρ 5) (n11 := ρ 7) (H0 := η 0) (H1 := η 1) (H2 := η 2) f8 f7 f6 f5 f4 f3 f2 f1 f0
def p_298_s : List vG := [g_298_s_0,
  g_298_s_1,
  g_298_s_2,
  g_298_s_3,
  g_298_s_4,
  g_298_s_5,
  g_298_s_6,
  g_298_s_7]
theorem r_298_s : vCovO true (eR0 e_298 L_298 cs_298 2000) p_298_s = true := by decide +kernel
theorem q_298_8 {q0 : Nat} {n0 n1 : Int} {H0 : gH} (f0 : 0 ≤ n0) (f1 : n1 = 60) (f2 : n0 < n1) : 0 ≤ n0 ∧ n0 < 60 := by
  omega
def g_298_43_0 : vG := ([(42, [14, 15], [], 0), (0, [15], [], 60), (90, [14], [], 0)], (70, [14], [], 60))
theorem c_298_43_0 {q0 : Nat} : vOkm T0 (eP e_298 L_298 A_298 mu_298 (some q0)) 4 g_298_43_0 := vOk_in fun ρ η h => by
  obtain ⟨f0, f1, f2, _⟩ := h
  exact q_298_8 (q0 := q0) (n0 := ρ 14) (n1 := ρ 15) (H0 := η 0) f2 f1 f0
theorem q_298_9 {q0 : Nat} {n0 n1 : Int} {H0 : gH} (f0 : n0 = 60) (f1 : n1 < n0) : n1 ≤ 59 := by
  omega
def g_298_43_1 : vG := ([(42, [14, 15], [], 0), (0, [15], [], 60)], (91, [14], [], 59))
theorem c_298_43_1 {q0 : Nat} : vOkm T0 (eP e_298 L_298 A_298 mu_298 (some q0)) 4 g_298_43_1 := vOk_in fun ρ η h => by
  obtain ⟨f0, f1, _⟩ := h
  exact q_298_9 (q0 := q0) (n0 := ρ 15) (n1 := ρ 14) (H0 := η 0) f1 f0
theorem q_298_10 {q0 : Nat} {n0 n1 n2 n3 n4 n5 n6 n7 n8 n9 n10 n11 n12 n13 n14 n15 n16 n17 : Int} {H0 H1 : gH} (f0 : n0 ≤ 60) (f1 : 0 ≤ n0) (f2 : n1 ≤ 2147483647) (f3 : (-2147483648) ≤ n1) (f4 : n2 ≤ 2147483647) (f5 : (-2147483648) ≤ n2) (f6 : n3 ≤ 2147483647) (f7 : (-2147483648) ≤ n3) (f8 : n4 ≤ 2147483647) (f9 : (-2147483648) ≤ n4) (f10 : n5 ≤ 5) (f11 : 0 ≤ n5) (f12 : n6 ≤ 2147483647) (f13 : (-2147483648) ≤ n6) (f14 : n7 ≤ 2147483647) (f15 : (-2147483648) ≤ n7) (f16 : n8 ≤ 2147483647) (f17 : (-2147483648) ≤ n8) (f18 : n9 ≤ 2147483647) (f19 : (-2147483648) ≤ n9) (f20 : n10 = 285) (f21 : n11 ≤ 2147483647) (f22 : (-2147483648) ≤ n11) (f23 : n12 ≤ 2147483647) (f24 : (-2147483648) ≤ n12) (f25 : n13 ≤ 2147483647) (f26 : (-2147483648) ≤ n13) (f27 : n14 = 285) (f28 : (hLe T0 H0 H1 ∧ hFr s_298.2.2.2.2 H0 H1 ∧ hWt T0 H1) ∧ (Ab_298_43 n14 n13 n12 n11 n10 n9 n8 n7 n6 n5 n4 n3 n2 n1 n0 H0 H1 ∧ preb_298 n14 n13 n12 n11 H0) ∧ some q0 = some (mub_298_43 n14 n13 n12 n11 n10 n9 n8 n7 n6 n5 n4 n3 n2 n1 n0 H0 H1)) (f29 : n15 = 60) (f30 : n0 < n15) (f31 : n16 = 0) (f32 : n17 = 0) : Ab_298_69 n14 n13 n12 n11 n10 n9 n8 n7 n6 n5 n4 n3 n2 n1 n0 n16 n17 H0 H1 ∧ ∀ q, some q0 = some q → mub_298_69 n14 n13 n12 n11 n10 n9 n8 n7 n6 n5 n4 n3 n2 n1 n0 n16 n17 H0 H1 < q := by
  have g4 := f28.2.1.1
  unfold Ab_298_43 at g4
  have g3 := f28.2.1.2
  unfold preb_298 at g3
  have g5 := Option.some.inj f28.2.2
  unfold mub_298_43 at g5
  unfold Ab_298_69
  unfold mub_298_69
  have k0 := g4.1
  have k1 := g4.2.1
  have k2 := g4.2.2.1
  have y0 := g4.2.2.2.1
  have y1 := g4.2.2.2.2
  have p0 := g3.1
  have p1 := g3.2
  clear g3
  clear g4
  try subst k2
  try subst k1
  try subst k0
  refine ⟨?_, fun q hq => ?_⟩
  · refine ⟨?_, ?_, ?_, ?_, ?_⟩ <;> first | assumption | omega | trivial
  · have g6 := Option.some.inj hq
    subst g6
    omega
def g_298_43_2 : vG := ([(0, [19], [], 0), (0, [18], [], 0), (42, [14, 15], [], 0), (0, [15], [], 60), (5000, [0, 1, 2, 3, 4, 5, 6, 7, 8, 9, 10, 11, 12, 13, 14], [0, 1], 43), (0, [0], [], 285), (90, [1], [], -2147483648), (91, [1], [], 2147483647), (90, [2], [], -2147483648), (91, [2], [], 2147483647), (90, [3], [], -2147483648), (91, [3], [], 2147483647), (0, [4], [], 285), (90, [5], [], -2147483648), (91, [5], [], 2147483647), (90, [6], [], -2147483648), (91, [6], [], 2147483647), (90, [7], [], -2147483648), (91, [7], [], 2147483647), (90, [8], [], -2147483648), (91, [8], [], 2147483647), (90, [9], [], 0), (91, [9], [], 5), (90, [10], [], -2147483648), (91, [10], [], 2147483647), (90, [11], [], -2147483648), (91, [11], [], 2147483647), (90, [12], [], -2147483648), (91, [12], [], 2147483647), (90, [13], [], -2147483648), (91, [13], [], 2147483647), (90, [14], [], 0), (91, [14], [], 60)], (4000, [4, 5, 6, 7, 8, 9, 10, 11, 12, 13, 14, 18, 19], [1], 69))
theorem c_298_43_2 {q0 : Nat} : vOkm T0 (eP e_298 L_298 A_298 mu_298 (some q0)) 4 g_298_43_2 := vOk_in fun ρ η h => by
  obtain ⟨f0, f1, f2, f3, f4, f5, f6, f7, f8, f9, f10, f11, f12, f13, f14, f15, f16, f17, f18, f19, f20, f21, f22, f23, f24, f25, f26, f27, f28, f29, f30, f31, f32, _⟩ := h
  exact q_298_10 (q0 := q0) (n0 := ρ 14) (n1 := ρ 13) (n2 := ρ 12) (n3 := ρ 11) (n4 := ρ 10) (n5 := ρ 9) (n6 := ρ 8) (n7 := ρ 7) (n8 := ρ 6) (n9 := ρ 5) (n10 := ρ 4) (n11 := ρ 3) (n12 := ρ 2) (n13 := ρ 1) (n14 := ρ 0) (n15 := ρ 15) (n16 := ρ 18) (n17 := ρ 19) (H0 := η 0) (H1 := η 1) f32 f31 f30 f29 f28 f27 f26 f25 f24 f23 f22 f21 f20 f19 f18 f17 f16 f15 f14 f13 f12 f11 f10 f9 f8 f7 f6 f5 f4 f3 f2 f1 f0
theorem q_298_11 {q0 : Nat} {n0 n1 n2 : Int} {H0 : gH} (f0 : 0 ≤ n0) (f1 : n1 = 60) (f2 : n0 < n1) (f3 : n2 = w32 (n0 + 1)) : 0 ≤ n2 := by
  unfold w32 at *
  try (have ix0 : n2 = n0 + 1 := (by omega); subst ix0)
  omega
def g_298_43_3 : vG := ([(10, [18, 14], [], 1), (42, [14, 15], [], 0), (0, [15], [], 60), (90, [14], [], 0)], (90, [18], [], 0))
theorem c_298_43_3 {q0 : Nat} : vOkm T0 (eP e_298 L_298 A_298 mu_298 (some q0)) 4 g_298_43_3 := vOk_in fun ρ η h => by
  obtain ⟨f0, f1, f2, f3, _⟩ := h
  exact q_298_11 (q0 := q0) (n0 := ρ 14) (n1 := ρ 15) (n2 := ρ 18) (H0 := η 0) f3 f2 f1 f0
theorem q_298_12 {q0 : Nat} {n0 n1 n2 : Int} {H0 : gH} (f0 : 0 ≤ n0) (f1 : n1 = 60) (f2 : n0 < n1) (f3 : n2 = w32 (n0 + 1)) : n2 ≤ 60 := by
  unfold w32 at *
  try (have ix0 : n2 = n0 + 1 := (by omega); subst ix0)
  omega
def g_298_43_4 : vG := ([(10, [18, 14], [], 1), (42, [14, 15], [], 0), (0, [15], [], 60), (90, [14], [], 0)], (91, [18], [], 60))
theorem c_298_43_4 {q0 : Nat} : vOkm T0 (eP e_298 L_298 A_298 mu_298 (some q0)) 4 g_298_43_4 := vOk_in fun ρ η h => by
  obtain ⟨f0, f1, f2, f3, _⟩ := h
  exact q_298_12 (q0 := q0) (n0 := ρ 14) (n1 := ρ 15) (n2 := ρ 18) (H0 := η 0) f3 f2 f1 f0
theorem q_298_13 {q0 : Nat} {n0 n1 n2 n3 n4 n5 n6 n7 n8 n9 n10 n11 n12 n13 n14 n15 n16 : Int} {H0 H1 : gH} (f0 : n0 ≤ 60) (f1 : 0 ≤ n0) (f2 : n1 ≤ 2147483647) (f3 : (-2147483648) ≤ n1) (f4 : n2 ≤ 2147483647) (f5 : (-2147483648) ≤ n2) (f6 : n3 ≤ 2147483647) (f7 : (-2147483648) ≤ n3) (f8 : n4 ≤ 2147483647) (f9 : (-2147483648) ≤ n4) (f10 : n5 ≤ 5) (f11 : 0 ≤ n5) (f12 : n6 ≤ 2147483647) (f13 : (-2147483648) ≤ n6) (f14 : n7 ≤ 2147483647) (f15 : (-2147483648) ≤ n7) (f16 : n8 ≤ 2147483647) (f17 : (-2147483648) ≤ n8) (f18 : n9 ≤ 2147483647) (f19 : (-2147483648) ≤ n9) (f20 : n10 = 285) (f21 : n11 ≤ 2147483647) (f22 : (-2147483648) ≤ n11) (f23 : n12 ≤ 2147483647) (f24 : (-2147483648) ≤ n12) (f25 : n13 ≤ 2147483647) (f26 : (-2147483648) ≤ n13) (f27 : n14 = 285) (f28 : (hLe T0 H0 H1 ∧ hFr s_298.2.2.2.2 H0 H1 ∧ hWt T0 H1) ∧ (Ab_298_43 n14 n13 n12 n11 n10 n9 n8 n7 n6 n5 n4 n3 n2 n1 n0 H0 H1 ∧ preb_298 n14 n13 n12 n11 H0) ∧ some q0 = some (mub_298_43 n14 n13 n12 n11 n10 n9 n8 n7 n6 n5 n4 n3 n2 n1 n0 H0 H1)) (f29 : n15 = 60) (f30 : n0 < n15) (f31 : n16 = w32 (n0 + 1)) : Ab_298_43 n14 n13 n12 n11 n10 n9 n8 n7 n6 n5 n4 n3 n2 n1 n16 H0 H1 ∧ ∀ q, some q0 = some q → mub_298_43 n14 n13 n12 n11 n10 n9 n8 n7 n6 n5 n4 n3 n2 n1 n16 H0 H1 < q := by
  have g4 := f28.2.1.1
  unfold Ab_298_43 at g4
  have g3 := f28.2.1.2
  unfold preb_298 at g3
  have g5 := Option.some.inj f28.2.2
  unfold mub_298_43 at g5
  unfold Ab_298_43
  unfold mub_298_43
  have k0 := g4.1
  have k1 := g4.2.1
  have k2 := g4.2.2.1
  have y0 := g4.2.2.2.1
  have y1 := g4.2.2.2.2
  have p0 := g3.1
  have p1 := g3.2
  clear g3
  clear g4
  unfold w32 at *
  try (have ix0 : n16 = n0 + 1 := (by omega); subst ix0)
  try subst k2
  try subst k1
  try subst k0
  refine ⟨?_, fun q hq => ?_⟩
  · refine ⟨?_, ?_, ?_, ?_, ?_⟩ <;> first | assumption | omega | trivial
  · have g6 := Option.some.inj hq
    subst g6
    omega
def g_298_43_5 : vG := ([(10, [18, 14], [], 1), (42, [14, 15], [], 0), (0, [15], [], 60), (5000, [0, 1, 2, 3, 4, 5, 6, 7, 8, 9, 10, 11, 12, 13, 14], [0, 1], 43), (0, [0], [], 285), (90, [1], [], -2147483648), (91, [1], [], 2147483647), (90, [2], [], -2147483648), (91, [2], [], 2147483647), (90, [3], [], -2147483648), (91, [3], [], 2147483647), (0, [4], [], 285), (90, [5], [], -2147483648), (91, [5], [], 2147483647), (90, [6], [], -2147483648), (91, [6], [], 2147483647), (90, [7], [], -2147483648), (91, [7], [], 2147483647), (90, [8], [], -2147483648), (91, [8], [], 2147483647), (90, [9], [], 0), (91, [9], [], 5), (90, [10], [], -2147483648), (91, [10], [], 2147483647), (90, [11], [], -2147483648), (91, [11], [], 2147483647), (90, [12], [], -2147483648), (91, [12], [], 2147483647), (90, [13], [], -2147483648), (91, [13], [], 2147483647), (90, [14], [], 0), (91, [14], [], 60)], (4000, [4, 5, 6, 7, 8, 9, 10, 11, 12, 13, 18], [1], 43))
theorem c_298_43_5 {q0 : Nat} : vOkm T0 (eP e_298 L_298 A_298 mu_298 (some q0)) 4 g_298_43_5 := vOk_in fun ρ η h => by
  obtain ⟨f0, f1, f2, f3, f4, f5, f6, f7, f8, f9, f10, f11, f12, f13, f14, f15, f16, f17, f18, f19, f20, f21, f22, f23, f24, f25, f26, f27, f28, f29, f30, f31, _⟩ := h
  exact q_298_13 (q0 := q0) (n0 := ρ 14) (n1 := ρ 13) (n2 := ρ 12) (n3 := ρ 11) (n4 := ρ 10) (n5 := ρ 9) (n6 := ρ 8) (n7 := ρ 7) (n8 := ρ 6) (n9 := ρ 5) (n10 := ρ 4) (n11 := ρ 3) (n12 := ρ 2) (n13 := ρ 1) (n14 := ρ 0) (n15 := ρ 15) (n16 := ρ 18) (H0 := η 0) (H1 := η 1) f31 f30 f29 f28 f27 f26 f25 f24 f23 f22 f21 f20 f19 f18 f17 f16 f15 f14 f13 f12 f11 f10 f9 f8 f7 f6 f5 f4 f3 f2 f1 f0
def p_298_43 : List vG := [g_298_43_0,
  g_298_43_1,
  g_298_43_2,
  g_298_43_3,
  g_298_43_4,
  g_298_43_5]
theorem r_298_43 : vCovO true (eRc e_298 L_298 cs_298 2000 (43, [(0, (3, 12, 285, 0)), (1, (0, -2147483648, 2147483647, 0)), (2, (0, -2147483648, 2147483647, 0)), (3, (0, -2147483648, 2147483647, 0)), (4, (0, -2147483648, 2147483647, 0)), (5, (0, 0, 5, 0)), (6, (0, -2147483648, 2147483647, 0)), (7, (0, -2147483648, 2147483647, 0)), (8, (0, -2147483648, 2147483647, 0)), (9, (0, -2147483648, 2147483647, 0)), (10, (0, 0, 60, 0))])) p_298_43 = true := by decide +kernel
theorem q_298_14 {q0 : Nat} {n0 n1 n2 n3 n4 n5 n6 n7 n8 n9 n10 n11 n12 n13 n14 n15 n16 : Int} {H0 H1 : gH} (f0 : n0 = 285) (f1 : n1 = 285) (f2 : (hLe T0 H0 H1 ∧ hFr s_298.2.2.2.2 H0 H1 ∧ hWt T0 H1) ∧ (Ab_298_69 n1 n2 n3 n4 n0 n5 n6 n7 n8 n9 n10 n11 n12 n13 n14 n15 n16 H0 H1 ∧ preb_298 n1 n2 n3 n4 H0) ∧ some q0 = some (mub_298_69 n1 n2 n3 n4 n0 n5 n6 n7 n8 n9 n10 n11 n12 n13 n14 n15 n16 H0 H1)) : 0 ≤ n7 ∧ n7 < 6 := by
  have g4 := f2.2.1.1
  unfold Ab_298_69 at g4
  have g3 := f2.2.1.2
  unfold preb_298 at g3
  have k0 := g4.1
  have k1 := g4.2.1
  have k2 := g4.2.2.1
  have y0 := g4.2.2.2.1
  have y1 := g4.2.2.2.2
  have p0 := g3.1
  have p1 := g3.2
  clear g3
  clear g4
  try subst k2
  try subst k1
  try subst k0
  omega
def g_298_69_0 : vG := ([(5000, [0, 1, 2, 3, 4, 5, 6, 7, 8, 9, 10, 11, 12, 13, 14, 15, 16], [0, 1], 69), (0, [0], [], 285), (0, [4], [], 285)], (70, [7], [], 6))
theorem c_298_69_0 {q0 : Nat} : vOkm T0 (eP e_298 L_298 A_298 mu_298 (some q0)) 4 g_298_69_0 := vOk_in fun ρ η h => by
  obtain ⟨f0, f1, f2, _⟩ := h
  exact q_298_14 (q0 := q0) (n0 := ρ 4) (n1 := ρ 0) (n2 := ρ 1) (n3 := ρ 2) (n4 := ρ 3) (n5 := ρ 5) (n6 := ρ 6) (n7 := ρ 7) (n8 := ρ 8) (n9 := ρ 9) (n10 := ρ 10) (n11 := ρ 11) (n12 := ρ 12) (n13 := ρ 13) (n14 := ρ 14) (n15 := ρ 15) (n16 := ρ 16) (H0 := η 0) (H1 := η 1) f2 f1 f0
theorem q_298_15 {q0 : Nat} {n0 n1 : Int} {H0 : gH} (f0 : n0 ≤ 59) (f1 : 0 ≤ n0) (f2 : n1 = w32 (n0 + 1)) : 0 ≤ n1 := by
  unfold w32 at *
  try (have ix0 : n1 = n0 + 1 := (by omega); subst ix0)
  omega
def g_298_69_1 : vG := ([(10, [20, 14], [], 1), (90, [14], [], 0), (91, [14], [], 59)], (90, [20], [], 0))
theorem c_298_69_1 {q0 : Nat} : vOkm T0 (eP e_298 L_298 A_298 mu_298 (some q0)) 4 g_298_69_1 := vOk_in fun ρ η h => by
  obtain ⟨f0, f1, f2, _⟩ := h
  exact q_298_15 (q0 := q0) (n0 := ρ 14) (n1 := ρ 20) (H0 := η 0) f2 f1 f0
theorem q_298_16 {q0 : Nat} {n0 n1 : Int} {H0 : gH} (f0 : n0 ≤ 59) (f1 : 0 ≤ n0) (f2 : n1 = w32 (n0 + 1)) : n1 ≤ 60 := by
  unfold w32 at *
  try (have ix0 : n1 = n0 + 1 := (by omega); subst ix0)
  omega
def g_298_69_2 : vG := ([(10, [20, 14], [], 1), (90, [14], [], 0), (91, [14], [], 59)], (91, [20], [], 60))
theorem c_298_69_2 {q0 : Nat} : vOkm T0 (eP e_298 L_298 A_298 mu_298 (some q0)) 4 g_298_69_2 := vOk_in fun ρ η h => by
  obtain ⟨f0, f1, f2, _⟩ := h
  exact q_298_16 (q0 := q0) (n0 := ρ 14) (n1 := ρ 20) (H0 := η 0) f2 f1 f0
theorem q_298_17 {q0 : Nat} {n0 n1 n2 n3 n4 n5 n6 n7 n8 n9 n10 n11 n12 n13 n14 n15 n16 n17 n18 n19 n20 : Int} {H0 H1 : gH} (f0 : n0 ≤ 60) (f1 : 0 ≤ n0) (f2 : n1 ≤ 2147483647) (f3 : (-2147483648) ≤ n1) (f4 : n2 ≤ 59) (f5 : 0 ≤ n2) (f6 : n3 ≤ 2147483647) (f7 : (-2147483648) ≤ n3) (f8 : n4 ≤ 2147483647) (f9 : (-2147483648) ≤ n4) (f10 : n5 ≤ 2147483647) (f11 : (-2147483648) ≤ n5) (f12 : n6 ≤ 2147483647) (f13 : (-2147483648) ≤ n6) (f14 : n7 ≤ 5) (f15 : 0 ≤ n7) (f16 : n8 ≤ 2147483647) (f17 : (-2147483648) ≤ n8) (f18 : n9 ≤ 2147483647) (f19 : (-2147483648) ≤ n9) (f20 : n10 ≤ 2147483647) (f21 : (-2147483648) ≤ n10) (f22 : n11 ≤ 2147483647) (f23 : (-2147483648) ≤ n11) (f24 : n12 = 285) (f25 : n13 ≤ 2147483647) (f26 : (-2147483648) ≤ n13) (f27 : n14 ≤ 2147483647) (f28 : (-2147483648) ≤ n14) (f29 : n15 ≤ 2147483647) (f30 : (-2147483648) ≤ n15) (f31 : n16 = 285) (f32 : (hLe T0 H0 H1 ∧ hFr s_298.2.2.2.2 H0 H1 ∧ hWt T0 H1) ∧ (Ab_298_69 n16 n15 n14 n13 n12 n11 n10 n9 n8 n7 n6 n5 n4 n3 n2 n1 n0 H0 H1 ∧ preb_298 n16 n15 n14 n13 H0) ∧ some q0 = some (mub_298_69 n16 n15 n14 n13 n12 n11 n10 n9 n8 n7 n6 n5 n4 n3 n2 n1 n0 H0 H1)) (f33 : n17 = 325) (f34 : n17 = hV H1 (n12).toNat 61) (f35 : n18 ≤ 60) (f36 : 0 ≤ n18) (f37 : n18 = hV H1 (n17).toNat (n9).toNat) (f38 : n18 ≤ n0) (f39 : n5 ≠ 0) (f40 : n19 = 1) (f41 : n20 = w32 (n2 + 1)) : Ab_298_43 n16 n15 n14 n13 n12 n11 n10 n9 n8 n7 n6 n19 n4 n3 n20 H0 H1 ∧ ∀ q, some q0 = some q → mub_298_43 n16 n15 n14 n13 n12 n11 n10 n9 n8 n7 n6 n19 n4 n3 n20 H0 H1 < q := by
  have g4 := f32.2.1.1
  unfold Ab_298_69 at g4
  have g3 := f32.2.1.2
  unfold preb_298 at g3
  have g5 := Option.some.inj f32.2.2
  unfold mub_298_69 at g5
  unfold Ab_298_43
  unfold mub_298_43
  have e0 : hV H1 325 = hV H0 325 := fRow f32.1.2.1 325 (by decide +kernel)
  have e1 : n18 = hV H0 325 (n9).toNat := (by rw [f33] at f37; exact f37 : n18 = hV H1 325 (n9).toNat).trans ((congrFun e0 _))
  have k0 := g4.1
  have k1 := g4.2.1
  have k2 := g4.2.2.1
  have y0 := g4.2.2.2.1
  have y1 := g4.2.2.2.2
  have p0 := g3.1
  have p1 := g3.2
  clear g3
  clear g4
  clear f34 f37 e0
  subst e1
  unfold w32 at *
  try (have ix0 : n20 = n2 + 1 := (by omega); subst ix0)
  try subst k2
  try subst k1
  try subst k0
  refine ⟨?_, fun q hq => ?_⟩
  · refine ⟨?_, ?_, ?_, ?_, ?_⟩ <;> first | assumption | omega | trivial
  · have g6 := Option.some.inj hq
    subst g6
    omega
def g_298_69_3 : vG := ([(10, [20, 14], [], 1), (0, [19], [], 1), (31, [11], [], 0), (43, [16, 18], [], 0), (22, [18, 17, 7], [1], 0), (90, [18], [], 0), (91, [18], [], 60), (20, [17, 4], [1], 61), (0, [17], [], 325), (5000, [0, 1, 2, 3, 4, 5, 6, 7, 8, 9, 10, 11, 12, 13, 14, 15, 16], [0, 1], 69), (0, [0], [], 285), (90, [1], [], -2147483648), (91, [1], [], 2147483647), (90, [2], [], -2147483648), (91, [2], [], 2147483647), (90, [3], [], -2147483648), (91, [3], [], 2147483647), (0, [4], [], 285), (90, [5], [], -2147483648), (91, [5], [], 2147483647), (90, [6], [], -2147483648), (91, [6], [], 2147483647), (90, [7], [], -2147483648), (91, [7], [], 2147483647), (90, [8], [], -2147483648), (91, [8], [], 2147483647), (90, [9], [], 0), (91, [9], [], 5), (90, [10], [], -2147483648), (91, [10], [], 2147483647), (90, [11], [], -2147483648), (91, [11], [], 2147483647), (90, [12], [], -2147483648), (91, [12], [], 2147483647), (90, [13], [], -2147483648), (91, [13], [], 2147483647), (90, [14], [], 0), (91, [14], [], 59), (90, [15], [], -2147483648), (91, [15], [], 2147483647), (90, [16], [], 0), (91, [16], [], 60)], (4000, [4, 5, 6, 7, 8, 9, 10, 19, 12, 13, 20], [1], 43))
theorem c_298_69_3 {q0 : Nat} : vOkm T0 (eP e_298 L_298 A_298 mu_298 (some q0)) 4 g_298_69_3 := vOk_in fun ρ η h => by
  obtain ⟨f0, f1, f2, f3, f4, f5, f6, f7, f8, f9, f10, f11, f12, f13, f14, f15, f16, f17, f18, f19, f20, f21, f22, f23, f24, f25, f26, f27, f28, f29, f30, f31, f32, f33, f34, f35, f36, f37, f38, f39, f40, f41, _⟩ := h
  exact q_298_17 (q0 := q0) (n0 := ρ 16) (n1 := ρ 15) (n2 := ρ 14) (n3 := ρ 13) (n4 := ρ 12) (n5 := ρ 11) (n6 := ρ 10) (n7 := ρ 9) (n8 := ρ 8) (n9 := ρ 7) (n10 := ρ 6) (n11 := ρ 5) (n12 := ρ 4) (n13 := ρ 3) (n14 := ρ 2) (n15 := ρ 1) (n16 := ρ 0) (n17 := ρ 17) (n18 := ρ 18) (n19 := ρ 19) (n20 := ρ 20) (H0 := η 0) (H1 := η 1) f41 f40 f39 f38 f37 f36 f35 f34 f33 f32 f31 f30 f29 f28 f27 f26 f25 f24 f23 f22 f21 f20 f19 f18 f17 f16 f15 f14 f13 f12 f11 f10 f9 f8 f7 f6 f5 f4 f3 f2 f1 f0
def g_298_69_4 : vG := ([(10, [21, 14], [], 1), (90, [14], [], 0), (91, [14], [], 59)], (90, [21], [], 0))
theorem c_298_69_4 {q0 : Nat} : vOkm T0 (eP e_298 L_298 A_298 mu_298 (some q0)) 4 g_298_69_4 := vOk_in fun ρ η h => by
  obtain ⟨f0, f1, f2, _⟩ := h
  exact q_298_15 (q0 := q0) (n0 := ρ 14) (n1 := ρ 21) (H0 := η 0) f2 f1 f0
def g_298_69_5 : vG := ([(10, [21, 14], [], 1), (90, [14], [], 0), (91, [14], [], 59)], (91, [21], [], 60))
theorem c_298_69_5 {q0 : Nat} : vOkm T0 (eP e_298 L_298 A_298 mu_298 (some q0)) 4 g_298_69_5 := vOk_in fun ρ η h => by
  obtain ⟨f0, f1, f2, _⟩ := h
  exact q_298_16 (q0 := q0) (n0 := ρ 14) (n1 := ρ 21) (H0 := η 0) f2 f1 f0
theorem q_298_18 {q0 : Nat} {n0 n1 n2 n3 n4 n5 n6 n7 n8 n9 n10 n11 n12 n13 n14 n15 n16 n17 n18 n19 n20 n21 : Int} {H0 H1 : gH} (f0 : n0 ≤ 60) (f1 : 0 ≤ n0) (f2 : n1 ≤ 2147483647) (f3 : (-2147483648) ≤ n1) (f4 : n2 ≤ 59) (f5 : 0 ≤ n2) (f6 : n3 ≤ 2147483647) (f7 : (-2147483648) ≤ n3) (f8 : n4 ≤ 2147483647) (f9 : (-2147483648) ≤ n4) (f10 : n5 ≤ 2147483647) (f11 : (-2147483648) ≤ n5) (f12 : n6 ≤ 2147483647) (f13 : (-2147483648) ≤ n6) (f14 : n7 ≤ 5) (f15 : 0 ≤ n7) (f16 : n8 ≤ 2147483647) (f17 : (-2147483648) ≤ n8) (f18 : n9 ≤ 2147483647) (f19 : (-2147483648) ≤ n9) (f20 : n10 ≤ 2147483647) (f21 : (-2147483648) ≤ n10) (f22 : n11 ≤ 2147483647) (f23 : (-2147483648) ≤ n11) (f24 : n12 = 285) (f25 : n13 ≤ 2147483647) (f26 : (-2147483648) ≤ n13) (f27 : n14 ≤ 2147483647) (f28 : (-2147483648) ≤ n14) (f29 : n15 ≤ 2147483647) (f30 : (-2147483648) ≤ n15) (f31 : n16 = 285) (f32 : (hLe T0 H0 H1 ∧ hFr s_298.2.2.2.2 H0 H1 ∧ hWt T0 H1) ∧ (Ab_298_69 n16 n15 n14 n13 n12 n11 n10 n9 n8 n7 n6 n5 n4 n3 n2 n1 n0 H0 H1 ∧ preb_298 n16 n15 n14 n13 H0) ∧ some q0 = some (mub_298_69 n16 n15 n14 n13 n12 n11 n10 n9 n8 n7 n6 n5 n4 n3 n2 n1 n0 H0 H1)) (f33 : n17 = 325) (f34 : n17 = hV H1 (n12).toNat 61) (f35 : n18 ≤ 60) (f36 : 0 ≤ n18) (f37 : n18 = hV H1 (n17).toNat (n9).toNat) (f38 : n18 ≤ n0) (f39 : n5 = 0) (f40 : n19 = 1) (f41 : n1 ≤ n19) (f42 : n20 = 0) (f43 : n21 = w32 (n2 + 1)) : Ab_298_43 n16 n15 n14 n13 n12 n11 n10 n9 n8 n7 n6 n20 n4 n3 n21 H0 H1 ∧ ∀ q, some q0 = some q → mub_298_43 n16 n15 n14 n13 n12 n11 n10 n9 n8 n7 n6 n20 n4 n3 n21 H0 H1 < q := by
  have g4 := f32.2.1.1
  unfold Ab_298_69 at g4
  have g3 := f32.2.1.2
  unfold preb_298 at g3
  have g5 := Option.some.inj f32.2.2
  unfold mub_298_69 at g5
  unfold Ab_298_43
  unfold mub_298_43
  have e0 : hV H1 325 = hV H0 325 := fRow f32.1.2.1 325 (by decide +kernel)
  have e1 : n18 = hV H0 325 (n9).toNat := (by rw [f33] at f37; exact f37 : n18 = hV H1 325 (n9).toNat).trans ((congrFun e0 _))
  have k0 := g4.1
  have k1 := g4.2.1
  have k2 := g4.2.2.1
  have y0 := g4.2.2.2.1
  have y1 := g4.2.2.2.2
  have p0 := g3.1
  have p1 := g3.2
  clear g3
  clear g4
  clear f34 f37 e0
  subst e1
  unfold w32 at *
  try (have ix0 : n21 = n2 + 1 := (by omega); subst ix0)
  try subst k2
  try subst k1
  try subst k0
  refine ⟨?_, fun q hq => ?_⟩
  · refine ⟨?_, ?_, ?_, ?_, ?_⟩ <;> first | assumption | omega | trivial
  · have g6 := Option.some.inj hq
    subst g6
    omega
def g_298_69_6 : vG := ([(10, [21, 14], [], 1), (0, [20], [], 0), (45, [15, 19], [], 0), (0, [19], [], 1), (30, [11], [], 0), (43, [16, 18], [], 0), (22, [18, 17, 7], [1], 0), (90, [18], [], 0), (91, [18], [], 60), (20, [17, 4], [1], 61), (0, [17], [], 325), (5000, [0, 1, 2, 3, 4, 5, 6, 7, 8, 9, 10, 11, 12, 13, 14, 15, 16], [0, 1], 69), (0, [0], [], 285), (90, [1], [], -2147483648), (91, [1], [], 2147483647), (90, [2], [], -2147483648), (91, [2], [], 2147483647), (90, [3], [], -2147483648), (91, [3], [], 2147483647), (0, [4], [], 285), (90, [5], [], -2147483648), (91, [5], [], 2147483647), (90, [6], [], -2147483648), (91, [6], [], 2147483647), (90, [7], [], -2147483648), (91, [7], [], 2147483647), (90, [8], [], -2147483648), (91, [8], [], 2147483647), (90, [9], [], 0), (91, [9], [], 5), (90, [10], [], -2147483648), (91, [10], [], 2147483647), (90, [11], [], -2147483648), (91, [11], [], 2147483647), (90, [12], [], -2147483648), (91, [12], [], 2147483647), (90, [13], [], -2147483648), (91, [13], [], 2147483647), (90, [14], [], 0), (91, [14], [], 59), (90, [15], [], -2147483648), (91, [15], [], 2147483647), (90, [16], [], 0), (91, [16], [], 60)], (4000, [4, 5, 6, 7, 8, 9, 10, 20, 12, 13, 21], [1], 43))
theorem c_298_69_6 {q0 : Nat} : vOkm T0 (eP e_298 L_298 A_298 mu_298 (some q0)) 4 g_298_69_6 := vOk_in fun ρ η h => by
  obtain ⟨f0, f1, f2, f3, f4, f5, f6, f7, f8, f9, f10, f11, f12, f13, f14, f15, f16, f17, f18, f19, f20, f21, f22, f23, f24, f25, f26, f27, f28, f29, f30, f31, f32, f33, f34, f35, f36, f37, f38, f39, f40, f41, f42, f43, _⟩ := h
  exact q_298_18 (q0 := q0) (n0 := ρ 16) (n1 := ρ 15) (n2 := ρ 14) (n3 := ρ 13) (n4 := ρ 12) (n5 := ρ 11) (n6 := ρ 10) (n7 := ρ 9) (n8 := ρ 8) (n9 := ρ 7) (n10 := ρ 6) (n11 := ρ 5) (n12 := ρ 4) (n13 := ρ 3) (n14 := ρ 2) (n15 := ρ 1) (n16 := ρ 0) (n17 := ρ 17) (n18 := ρ 18) (n19 := ρ 19) (n20 := ρ 20) (n21 := ρ 21) (H0 := η 0) (H1 := η 1) f43 f42 f41 f40 f39 f38 f37 f36 f35 f34 f33 f32 f31 f30 f29 f28 f27 f26 f25 f24 f23 f22 f21 f20 f19 f18 f17 f16 f15 f14 f13 f12 f11 f10 f9 f8 f7 f6 f5 f4 f3 f2 f1 f0
def g_298_69_7 : vG := ([(10, [21, 14], [], 1), (90, [14], [], 0), (91, [14], [], 59)], (90, [21], [], 0))
theorem c_298_69_7 {q0 : Nat} : vOkm T0 (eP e_298 L_298 A_298 mu_298 (some q0)) 4 g_298_69_7 := vOk_in fun ρ η h => by
  obtain ⟨f0, f1, f2, _⟩ := h
  exact q_298_15 (q0 := q0) (n0 := ρ 14) (n1 := ρ 21) (H0 := η 0) f2 f1 f0
def g_298_69_8 : vG := ([(10, [21, 14], [], 1), (90, [14], [], 0), (91, [14], [], 59)], (91, [21], [], 60))
theorem c_298_69_8 {q0 : Nat} : vOkm T0 (eP e_298 L_298 A_298 mu_298 (some q0)) 4 g_298_69_8 := vOk_in fun ρ η h => by
  obtain ⟨f0, f1, f2, _⟩ := h
  exact q_298_16 (q0 := q0) (n0 := ρ 14) (n1 := ρ 21) (H0 := η 0) f2 f1 f0
theorem q_298_19 {q0 : Nat} {n0 n1 n2 n3 n4 n5 n6 n7 n8 n9 n10 n11 n12 n13 n14 n15 n16 n17 n18 n19 n20 n21 : Int} {H0 H1 : gH} (f0 : n0 ≤ 60) (f1 : 0 ≤ n0) (f2 : n1 ≤ 2147483647) (f3 : (-2147483648) ≤ n1) (f4 : n2 ≤ 59) (f5 : 0 ≤ n2) (f6 : n3 ≤ 2147483647) (f7 : (-2147483648) ≤ n3) (f8 : n4 ≤ 2147483647) (f9 : (-2147483648) ≤ n4) (f10 : n5 ≤ 2147483647) (f11 : (-2147483648) ≤ n5) (f12 : n6 ≤ 2147483647) (f13 : (-2147483648) ≤ n6) (f14 : n7 ≤ 5) (f15 : 0 ≤ n7) (f16 : n8 ≤ 2147483647) (f17 : (-2147483648) ≤ n8) (f18 : n9 ≤ 2147483647) (f19 : (-2147483648) ≤ n9) (f20 : n10 ≤ 2147483647) (f21 : (-2147483648) ≤ n10) (f22 : n11 ≤ 2147483647) (f23 : (-2147483648) ≤ n11) (f24 : n12 = 285) (f25 : n13 ≤ 2147483647) (f26 : (-2147483648) ≤ n13) (f27 : n14 ≤ 2147483647) (f28 : (-2147483648) ≤ n14) (f29 : n15 ≤ 2147483647) (f30 : (-2147483648) ≤ n15) (f31 : n16 = 285) (f32 : (hLe T0 H0 H1 ∧ hFr s_298.2.2.2.2 H0 H1 ∧ hWt T0 H1) ∧ (Ab_298_69 n16 n15 n14 n13 n12 n11 n10 n9 n8 n7 n6 n5 n4 n3 n2 n1 n0 H0 H1 ∧ preb_298 n16 n15 n14 n13 H0) ∧ some q0 = some (mub_298_69 n16 n15 n14 n13 n12 n11 n10 n9 n8 n7 n6 n5 n4 n3 n2 n1 n0 H0 H1)) (f33 : n17 = 325) (f34 : n17 = hV H1 (n12).toNat 61) (f35 : n18 ≤ 60) (f36 : 0 ≤ n18) (f37 : n18 = hV H1 (n17).toNat (n9).toNat) (f38 : n18 ≤ n0) (f39 : n5 = 0) (f40 : n19 = 1) (f41 : n19 < n1) (f42 : n20 = 1) (f43 : n21 = w32 (n2 + 1)) : Ab_298_43 n16 n15 n14 n13 n12 n11 n10 n9 n8 n7 n6 n20 n4 n3 n21 H0 H1 ∧ ∀ q, some q0 = some q → mub_298_43 n16 n15 n14 n13 n12 n11 n10 n9 n8 n7 n6 n20 n4 n3 n21 H0 H1 < q := by
  have g4 := f32.2.1.1
  unfold Ab_298_69 at g4
  have g3 := f32.2.1.2
  unfold preb_298 at g3
  have g5 := Option.some.inj f32.2.2
  unfold mub_298_69 at g5
  unfold Ab_298_43
  unfold mub_298_43
  have e0 : hV H1 325 = hV H0 325 := fRow f32.1.2.1 325 (by decide +kernel)
  have e1 : n18 = hV H0 325 (n9).toNat := (by rw [f33] at f37; exact f37 : n18 = hV H1 325 (n9).toNat).trans ((congrFun e0 _))
  have k0 := g4.1
  have k1 := g4.2.1
  have k2 := g4.2.2.1
  have y0 := g4.2.2.2.1
  have y1 := g4.2.2.2.2
  have p0 := g3.1
  have p1 := g3.2
  clear g3
  clear g4
  clear f34 f37 e0
  subst e1
  unfold w32 at *
  try (have ix0 : n21 = n2 + 1 := (by omega); subst ix0)
  try subst k2
  try subst k1
  try subst k0
  refine ⟨?_, fun q hq => ?_⟩
  · refine ⟨?_, ?_, ?_, ?_, ?_⟩ <;> first | assumption | omega | trivial
  · have g6 := Option.some.inj hq
    subst g6
    omega
def g_298_69_9 : vG := ([(10, [21, 14], [], 1), (0, [20], [], 1), (44, [15, 19], [], 0), (0, [19], [], 1), (30, [11], [], 0), (43, [16, 18], [], 0), (22, [18, 17, 7], [1], 0), (90, [18], [], 0), (91, [18], [], 60), (20, [17, 4], [1], 61), (0, [17], [], 325), (5000, [0, 1, 2, 3, 4, 5, 6, 7, 8, 9, 10, 11, 12, 13, 14, 15, 16], [0, 1], 69), (0, [0], [], 285), (90, [1], [], -2147483648), (91, [1], [], 2147483647), (90, [2], [], -2147483648), (91, [2], [], 2147483647), (90, [3], [], -2147483648), (91, [3], [], 2147483647), (0, [4], [], 285), (90, [5], [], -2147483648), (91, [5], [], 2147483647), (90, [6], [], -2147483648), (91, [6], [], 2147483647), (90, [7], [], -2147483648), (91, [7], [], 2147483647), (90, [8], [], -2147483648), (91, [8], [], 2147483647), (90, [9], [], 0), (91, [9], [], 5), (90, [10], [], -2147483648), (91, [10], [], 2147483647), (90, [11], [], -2147483648), (91, [11], [], 2147483647), (90, [12], [], -2147483648), (91, [12], [], 2147483647), (90, [13], [], -2147483648), (91, [13], [], 2147483647), (90, [14], [], 0), (91, [14], [], 59), (90, [15], [], -2147483648), (91, [15], [], 2147483647), (90, [16], [], 0), (91, [16], [], 60)], (4000, [4, 5, 6, 7, 8, 9, 10, 20, 12, 13, 21], [1], 43))
theorem c_298_69_9 {q0 : Nat} : vOkm T0 (eP e_298 L_298 A_298 mu_298 (some q0)) 4 g_298_69_9 := vOk_in fun ρ η h => by
  obtain ⟨f0, f1, f2, f3, f4, f5, f6, f7, f8, f9, f10, f11, f12, f13, f14, f15, f16, f17, f18, f19, f20, f21, f22, f23, f24, f25, f26, f27, f28, f29, f30, f31, f32, f33, f34, f35, f36, f37, f38, f39, f40, f41, f42, f43, _⟩ := h
  exact q_298_19 (q0 := q0) (n0 := ρ 16) (n1 := ρ 15) (n2 := ρ 14) (n3 := ρ 13) (n4 := ρ 12) (n5 := ρ 11) (n6 := ρ 10) (n7 := ρ 9) (n8 := ρ 8) (n9 := ρ 7) (n10 := ρ 6) (n11 := ρ 5) (n12 := ρ 4) (n13 := ρ 3) (n14 := ρ 2) (n15 := ρ 1) (n16 := ρ 0) (n17 := ρ 17) (n18 := ρ 18) (n19 := ρ 19) (n20 := ρ 20) (n21 := ρ 21) (H0 := η 0) (H1 := η 1) f43 f42 f41 f40 f39 f38 f37 f36 f35 f34 f33 f32 f31 f30 f29 f28 f27 f26 f25 f24 f23 f22 f21 f20 f19 f18 f17 f16 f15 f14 f13 f12 f11 f10 f9 f8 f7 f6 f5 f4 f3 f2 f1 f0
theorem q_298_20 {q0 : Nat} {n0 n1 n2 n3 n4 n5 n6 n7 n8 n9 n10 n11 n12 n13 n14 n15 n16 : Int} {H0 H1 : gH} (f0 : n0 = 285) (f1 : n1 = 285) (f2 : (hLe T0 H0 H1 ∧ hFr s_298.2.2.2.2 H0 H1 ∧ hWt T0 H1) ∧ (Ab_298_69 n1 n2 n3 n4 n0 n5 n6 n7 n8 n9 n10 n11 n12 n13 n14 n15 n16 H0 H1 ∧ preb_298 n1 n2 n3 n4 H0) ∧ some q0 = some (mub_298_69 n1 n2 n3 n4 n0 n5 n6 n7 n8 n9 n10 n11 n12 n13 n14 n15 n16 H0 H1)) : 0 ≤ n7 := by
  have g4 := f2.2.1.1
  unfold Ab_298_69 at g4
  have g3 := f2.2.1.2
  unfold preb_298 at g3
  have k0 := g4.1
  have k1 := g4.2.1
  have k2 := g4.2.2.1
  have y0 := g4.2.2.2.1
  have y1 := g4.2.2.2.2
  have p0 := g3.1
  have p1 := g3.2
  clear g3
  clear g4
  try subst k2
  try subst k1
  try subst k0
  omega
def g_298_69_10 : vG := ([(5000, [0, 1, 2, 3, 4, 5, 6, 7, 8, 9, 10, 11, 12, 13, 14, 15, 16], [0, 1], 69), (0, [0], [], 285), (0, [4], [], 285)], (90, [7], [], 0))
theorem c_298_69_10 {q0 : Nat} : vOkm T0 (eP e_298 L_298 A_298 mu_298 (some q0)) 4 g_298_69_10 := vOk_in fun ρ η h => by
  obtain ⟨f0, f1, f2, _⟩ := h
  exact q_298_20 (q0 := q0) (n0 := ρ 4) (n1 := ρ 0) (n2 := ρ 1) (n3 := ρ 2) (n4 := ρ 3) (n5 := ρ 5) (n6 := ρ 6) (n7 := ρ 7) (n8 := ρ 8) (n9 := ρ 9) (n10 := ρ 10) (n11 := ρ 11) (n12 := ρ 12) (n13 := ρ 13) (n14 := ρ 14) (n15 := ρ 15) (n16 := ρ 16) (H0 := η 0) (H1 := η 1) f2 f1 f0
theorem q_298_21 {q0 : Nat} {n0 n1 n2 n3 n4 n5 n6 n7 n8 n9 n10 n11 n12 n13 n14 n15 n16 : Int} {H0 H1 : gH} (f0 : n0 = 285) (f1 : n1 = 285) (f2 : (hLe T0 H0 H1 ∧ hFr s_298.2.2.2.2 H0 H1 ∧ hWt T0 H1) ∧ (Ab_298_69 n1 n2 n3 n4 n0 n5 n6 n7 n8 n9 n10 n11 n12 n13 n14 n15 n16 H0 H1 ∧ preb_298 n1 n2 n3 n4 H0) ∧ some q0 = some (mub_298_69 n1 n2 n3 n4 n0 n5 n6 n7 n8 n9 n10 n11 n12 n13 n14 n15 n16 H0 H1)) : n7 ≤ 5 := by
  have g4 := f2.2.1.1
  unfold Ab_298_69 at g4
  have g3 := f2.2.1.2
  unfold preb_298 at g3
  have k0 := g4.1
  have k1 := g4.2.1
  have k2 := g4.2.2.1
  have y0 := g4.2.2.2.1
  have y1 := g4.2.2.2.2
  have p0 := g3.1
  have p1 := g3.2
  clear g3
  clear g4
  try subst k2
  try subst k1
  try subst k0
  omega
def g_298_69_11 : vG := ([(5000, [0, 1, 2, 3, 4, 5, 6, 7, 8, 9, 10, 11, 12, 13, 14, 15, 16], [0, 1], 69), (0, [0], [], 285), (0, [4], [], 285)], (91, [7], [], 5))
theorem c_298_69_11 {q0 : Nat} : vOkm T0 (eP e_298 L_298 A_298 mu_298 (some q0)) 4 g_298_69_11 := vOk_in fun ρ η h => by
  obtain ⟨f0, f1, f2, _⟩ := h
  exact q_298_21 (q0 := q0) (n0 := ρ 4) (n1 := ρ 0) (n2 := ρ 1) (n3 := ρ 2) (n4 := ρ 3) (n5 := ρ 5) (n6 := ρ 6) (n7 := ρ 7) (n8 := ρ 8) (n9 := ρ 9) (n10 := ρ 10) (n11 := ρ 11) (n12 := ρ 12) (n13 := ρ 13) (n14 := ρ 14) (n15 := ρ 15) (n16 := ρ 16) (H0 := η 0) (H1 := η 1) f2 f1 f0
theorem q_298_22 {q0 : Nat} {n0 n1 : Int} {H0 : gH} (f0 : n0 ≤ 60) (f1 : n1 < n0) : n1 ≤ 59 := by
  omega
def g_298_69_12 : vG := ([(42, [16, 18], [], 0), (91, [18], [], 60)], (91, [16], [], 59))
theorem c_298_69_12 {q0 : Nat} : vOkm T0 (eP e_298 L_298 A_298 mu_298 (some q0)) 4 g_298_69_12 := vOk_in fun ρ η h => by
  obtain ⟨f0, f1, _⟩ := h
  exact q_298_22 (q0 := q0) (n0 := ρ 18) (n1 := ρ 16) (H0 := η 0) f1 f0
theorem q_298_23 {q0 : Nat} {n0 n1 n2 : Int} {H0 : gH} (f0 : 0 ≤ n0) (f1 : n1 ≤ 60) (f2 : n0 < n1) (f3 : n2 = w32 (n0 + 1)) : 0 ≤ n2 := by
  unfold w32 at *
  try (have ix0 : n2 = n0 + 1 := (by omega); subst ix0)
  omega
def g_298_69_13 : vG := ([(10, [21, 16], [], 1), (42, [16, 18], [], 0), (91, [18], [], 60), (90, [16], [], 0)], (90, [21], [], 0))
theorem c_298_69_13 {q0 : Nat} : vOkm T0 (eP e_298 L_298 A_298 mu_298 (some q0)) 4 g_298_69_13 := vOk_in fun ρ η h => by
  obtain ⟨f0, f1, f2, f3, _⟩ := h
  exact q_298_23 (q0 := q0) (n0 := ρ 16) (n1 := ρ 18) (n2 := ρ 21) (H0 := η 0) f3 f2 f1 f0
theorem q_298_24 {q0 : Nat} {n0 n1 n2 : Int} {H0 : gH} (f0 : 0 ≤ n0) (f1 : n1 ≤ 60) (f2 : n0 < n1) (f3 : n2 = w32 (n0 + 1)) : n2 ≤ 60 := by
  unfold w32 at *
  try (have ix0 : n2 = n0 + 1 := (by omega); subst ix0)
  omega
def g_298_69_14 : vG := ([(10, [21, 16], [], 1), (42, [16, 18], [], 0), (91, [18], [], 60), (90, [16], [], 0)], (91, [21], [], 60))
theorem c_298_69_14 {q0 : Nat} : vOkm T0 (eP e_298 L_298 A_298 mu_298 (some q0)) 4 g_298_69_14 := vOk_in fun ρ η h => by
  obtain ⟨f0, f1, f2, f3, _⟩ := h
  exact q_298_24 (q0 := q0) (n0 := ρ 16) (n1 := ρ 18) (n2 := ρ 21) (H0 := η 0) f3 f2 f1 f0
theorem q_298_25 {q0 : Nat} {n0 n1 n2 n3 n4 n5 n6 n7 n8 n9 n10 n11 n12 n13 n14 n15 n16 n17 n18 n19 n20 n21 : Int} {H0 H1 H2 : gH} (f0 : n0 ≤ 60) (f1 : 0 ≤ n0) (f2 : n1 ≤ 2147483647) (f3 : (-2147483648) ≤ n1) (f4 : n2 ≤ 59) (f5 : 0 ≤ n2) (f6 : n3 ≤ 2147483647) (f7 : (-2147483648) ≤ n3) (f8 : n4 ≤ 2147483647) (f9 : (-2147483648) ≤ n4) (f10 : n5 ≤ 2147483647) (f11 : (-2147483648) ≤ n5) (f12 : n6 ≤ 2147483647) (f13 : (-2147483648) ≤ n6) (f14 : n7 ≤ 5) (f15 : 0 ≤ n7) (f16 : n8 ≤ 2147483647) (f17 : (-2147483648) ≤ n8) (f18 : n9 ≤ 2147483647) (f19 : (-2147483648) ≤ n9) (f20 : n10 ≤ 2147483647) (f21 : (-2147483648) ≤ n10) (f22 : n11 ≤ 2147483647) (f23 : (-2147483648) ≤ n11) (f24 : n12 = 285) (f25 : n13 ≤ 2147483647) (f26 : (-2147483648) ≤ n13) (f27 : n14 ≤ 2147483647) (f28 : (-2147483648) ≤ n14) (f29 : n15 ≤ 2147483647) (f30 : (-2147483648) ≤ n15) (f31 : n16 = 285) (f32 : (hLe T0 H0 H1 ∧ hFr s_298.2.2.2.2 H0 H1 ∧ hWt T0 H1) ∧ (Ab_298_69 n16 n15 n14 n13 n12 n11 n10 n9 n8 n7 n6 n5 n4 n3 n2 n1 n0 H0 H1 ∧ preb_298 n16 n15 n14 n13 H0) ∧ some q0 = some (mub_298_69 n16 n15 n14 n13 n12 n11 n10 n9 n8 n7 n6 n5 n4 n3 n2 n1 n0 H0 H1)) (f33 : n17 = 325) (f34 : n17 = hV H1 (n12).toNat 61) (f35 : n18 ≤ 60) (f36 : 0 ≤ n18) (f37 : n18 = hV H1 (n17).toNat (n9).toNat) (f38 : n0 < n18) (f39 : n19 ≤ 59) (f40 : (-1) ≤ n19) (f41 : (hLe T0 H1 H2 ∧ hFr s_248.2.2.2.2 H1 H2 ∧ ((0 : Int) = 0 → H2.length = H1.length) ∧ hWt T0 H2) ∧ True) (f42 : n19 = n2) (f43 : n1 ≠ 0) (f44 : n20 = w32 (n1 + 1)) (f45 : n21 = w32 (n0 + 1)) : Ab_298_69 n16 n15 n14 n13 n12 n11 n10 n9 n8 n7 n6 n5 n4 n3 n2 n20 n21 H0 H2 ∧ ∀ q, some q0 = some q → mub_298_69 n16 n15 n14 n13 n12 n11 n10 n9 n8 n7 n6 n5 n4 n3 n2 n20 n21 H0 H2 < q := by
  have g4 := f32.2.1.1
  unfold Ab_298_69 at g4
  have g3 := f32.2.1.2
  unfold preb_298 at g3
  have g5 := Option.some.inj f32.2.2
  unfold mub_298_69 at g5
  unfold Ab_298_69
  unfold mub_298_69
  have e0 : hV H1 325 = hV H0 325 := fRow f32.1.2.1 325 (by decide +kernel)
  have e1 : n18 = hV H0 325 (n9).toNat := (by rw [f33] at f37; exact f37 : n18 = hV H1 325 (n9).toNat).trans ((congrFun e0 _))
  have k0 := g4.1
  have k1 := g4.2.1
  have k2 := g4.2.2.1
  have y0 := g4.2.2.2.1
  have y1 := g4.2.2.2.2
  have p0 := g3.1
  have p1 := g3.2
  clear g3
  clear g4
  clear f34 f37 e0
  subst e1
  unfold w32 at *
  try (have ix0 : n20 = n1 + 1 := (by omega); subst ix0)
  try (have ix1 : n21 = n0 + 1 := (by omega); subst ix1)
  try subst k2
  try subst k1
  try subst k0
  refine ⟨?_, fun q hq => ?_⟩
  · refine ⟨?_, ?_, ?_, ?_, ?_⟩ <;> first | assumption | omega | trivial
  · have g6 := Option.some.inj hq
    subst g6
    omega
def g_298_69_15 : vG := ([(10, [21, 16], [], 1), (10, [20, 15], [], 1), (31, [15], [], 0), (40, [19, 14], [], 0), (1248, [19, 4, 7, 16, 9], [1, 2], 0), (90, [19], [], -1), (91, [19], [], 59), (42, [16, 18], [], 0), (22, [18, 17, 7], [1], 0), (90, [18], [], 0), (91, [18], [], 60), (20, [17, 4], [1], 61), (0, [17], [], 325), (5000, [0, 1, 2, 3, 4, 5, 6, 7, 8, 9, 10, 11, 12, 13, 14, 15, 16], [0, 1], 69), (0, [0], [], 285), (90, [1], [], -2147483648), (91, [1], [], 2147483647), (90, [2], [], -2147483648), (91, [2], [], 2147483647), (90, [3], [], -2147483648), (91, [3], [], 2147483647), (0, [4], [], 285), (90, [5], [], -2147483648), (91, [5], [], 2147483647), (90, [6], [], -2147483648), (91, [6], [], 2147483647), (90, [7], [], -2147483648), (91, [7], [], 2147483647), (90, [8], [], -2147483648), (91, [8], [], 2147483647), (90, [9], [], 0), (91, [9], [], 5), (90, [10], [], -2147483648), (91, [10], [], 2147483647), (90, [11], [], -2147483648), (91, [11], [], 2147483647), (90, [12], [], -2147483648), (91, [12], [], 2147483647), (90, [13], [], -2147483648), (91, [13], [], 2147483647), (90, [14], [], 0), (91, [14], [], 59), (90, [15], [], -2147483648), (91, [15], [], 2147483647), (90, [16], [], 0), (91, [16], [], 60)], (4000, [4, 5, 6, 7, 8, 9, 10, 11, 12, 13, 14, 20, 21], [2], 69))
theorem c_298_69_15 {q0 : Nat} : vOkm T0 (eP e_298 L_298 A_298 mu_298 (some q0)) 4 g_298_69_15 := vOk_in fun ρ η h => by
  obtain ⟨f0, f1, f2, f3, f4, f5, f6, f7, f8, f9, f10, f11, f12, f13, f14, f15, f16, f17, f18, f19, f20, f21, f22, f23, f24, f25, f26, f27, f28, f29, f30, f31, f32, f33, f34, f35, f36, f37, f38, f39, f40, f41, f42, f43, f44, f45, _⟩ := h
  exact q_298_25 (q0 := q0) (n0 := ρ 16) (n1 := ρ 15) (n2 := ρ 14) (n3 := ρ 13) (n4 := ρ 12) (n5 := ρ 11) (n6 := ρ 10) (n7 := ρ 9) (n8 := ρ 8) (n9 := ρ 7) (n10 := ρ 6) (n11 := ρ 5) (n12 := ρ 4) (n13 := ρ 3) (n14 := ρ 2) (n15 := ρ 1) (n16 := ρ 0) (n17 := ρ 17) (n18 := ρ 18) (n19 := ρ 19) (n20 := ρ 20) (n21 := ρ 21) (H0 := η 0) (H1 := η 1) (H2 := η 2) f45 f44 f43 f42 f41 f40 f39 f38 f37 f36 f35 f34 f33 f32 f31 f30 f29 f28 f27 f26 f25 f24 f23 f22 f21 f20 f19 f18 f17 f16 f15 f14 f13 f12 f11 f10 f9 f8 f7 f6 f5 f4 f3 f2 f1 f0
def g_298_69_16 : vG := ([(10, [23, 16], [], 1), (42, [16, 18], [], 0), (91, [18], [], 60), (90, [16], [], 0)], (90, [23], [], 0))
theorem c_298_69_16 {q0 : Nat} : vOkm T0 (eP e_298 L_298 A_298 mu_298 (some q0)) 4 g_298_69_16 := vOk_in fun ρ η h => by
  obtain ⟨f0, f1, f2, f3, _⟩ := h
  exact q_298_23 (q0 := q0) (n0 := ρ 16) (n1 := ρ 18) (n2 := ρ 23) (H0 := η 0) f3 f2 f1 f0
def g_298_69_17 : vG := ([(10, [23, 16], [], 1), (42, [16, 18], [], 0), (91, [18], [], 60), (90, [16], [], 0)], (91, [23], [], 60))
theorem c_298_69_17 {q0 : Nat} : vOkm T0 (eP e_298 L_298 A_298 mu_298 (some q0)) 4 g_298_69_17 := vOk_in fun ρ η h => by
  obtain ⟨f0, f1, f2, f3, _⟩ := h
  exact q_298_24 (q0 := q0) (n0 := ρ 16) (n1 := ρ 18) (n2 := ρ 23) (H0 := η 0) f3 f2 f1 f0
theorem q_298_26 {q0 : Nat} {n0 n1 n2 n3 n4 n5 n6 n7 n8 n9 n10 n11 n12 n13 n14 n15 n16 n17 n18 n19 n20 n21 n22 n23 : Int} {H0 H1 H2 : gH} (f0 : n0 ≤ 60) (f1 : 0 ≤ n0) (f2 : n1 ≤ 2147483647) (f3 : (-2147483648) ≤ n1) (f4 : n2 ≤ 59) (f5 : 0 ≤ n2) (f6 : n3 ≤ 2147483647) (f7 : (-2147483648) ≤ n3) (f8 : n4 ≤ 2147483647) (f9 : (-2147483648) ≤ n4) (f10 : n5 ≤ 2147483647) (f11 : (-2147483648) ≤ n5) (f12 : n6 ≤ 2147483647) (f13 : (-2147483648) ≤ n6) (f14 : n7 ≤ 5) (f15 : 0 ≤ n7) (f16 : n8 ≤ 2147483647) (f17 : (-2147483648) ≤ n8) (f18 : n9 ≤ 2147483647) (f19 : (-2147483648) ≤ n9) (f20 : n10 ≤ 2147483647) (f21 : (-2147483648) ≤ n10) (f22 : n11 ≤ 2147483647) (f23 : (-2147483648) ≤ n11) (f24 : n12 = 285) (f25 : n13 ≤ 2147483647) (f26 : (-2147483648) ≤ n13) (f27 : n14 ≤ 2147483647) (f28 : (-2147483648) ≤ n14) (f29 : n15 ≤ 2147483647) (f30 : (-2147483648) ≤ n15) (f31 : n16 = 285) (f32 : (hLe T0 H0 H1 ∧ hFr s_298.2.2.2.2 H0 H1 ∧ hWt T0 H1) ∧ (Ab_298_69 n16 n15 n14 n13 n12 n11 n10 n9 n8 n7 n6 n5 n4 n3 n2 n1 n0 H0 H1 ∧ preb_298 n16 n15 n14 n13 H0) ∧ some q0 = some (mub_298_69 n16 n15 n14 n13 n12 n11 n10 n9 n8 n7 n6 n5 n4 n3 n2 n1 n0 H0 H1)) (f33 : n17 = 325) (f34 : n17 = hV H1 (n12).toNat 61) (f35 : n18 ≤ 60) (f36 : 0 ≤ n18) (f37 : n18 = hV H1 (n17).toNat (n9).toNat) (f38 : n0 < n18) (f39 : n19 ≤ 59) (f40 : (-1) ≤ n19) (f41 : (hLe T0 H1 H2 ∧ hFr s_248.2.2.2.2 H1 H2 ∧ ((0 : Int) = 0 → H2.length = H1.length) ∧ hWt T0 H2) ∧ True) (f42 : n19 = n2) (f43 : n1 = 0) (f44 : n6 ≠ 0) (f45 : n3 = 0) (f46 : n20 = 0) (f47 : n21 = w32 (n6 + 1)) (f48 : n22 = w32 (n1 + 1)) (f49 : n23 = w32 (n0 + 1)) : Ab_298_69 n16 n15 n14 n13 n12 n11 n10 n9 n8 n7 n21 n5 n4 n20 n2 n22 n23 H0 H2 ∧ ∀ q, some q0 = some q → mub_298_69 n16 n15 n14 n13 n12 n11 n10 n9 n8 n7 n21 n5 n4 n20 n2 n22 n23 H0 H2 < q := by
  have g4 := f32.2.1.1
  unfold Ab_298_69 at g4
  have g3 := f32.2.1.2
  unfold preb_298 at g3
  have g5 := Option.some.inj f32.2.2
  unfold mub_298_69 at g5
  unfold Ab_298_69
  unfold mub_298_69
  have e0 : hV H1 325 = hV H0 325 := fRow f32.1.2.1 325 (by decide +kernel)
  have e1 : n18 = hV H0 325 (n9).toNat := (by rw [f33] at f37; exact f37 : n18 = hV H1 325 (n9).toNat).trans ((congrFun e0 _))
  have k0 := g4.1
  have k1 := g4.2.1
  have k2 := g4.2.2.1
  have y0 := g4.2.2.2.1
  have y1 := g4.2.2.2.2
  have p0 := g3.1
  have p1 := g3.2
  clear g3
  clear g4
  clear f34 f37 e0
  subst e1
  unfold w32 at *
  try (have ix0 : n21 = n6 + 1 := (by omega); subst ix0)
  try (have ix1 : n22 = n1 + 1 := (by omega); subst ix1)
  try (have ix2 : n23 = n0 + 1 := (by omega); subst ix2)
  try subst k2
  try subst k1
  try subst k0
  refine ⟨?_, fun q hq => ?_⟩
  · refine ⟨?_, ?_, ?_, ?_, ?_⟩ <;> first | assumption | omega | trivial
  · have g6 := Option.some.inj hq
    subst g6
    omega
def g_298_69_18 : vG := ([(10, [23, 16], [], 1), (10, [22, 15], [], 1), (10, [21, 10], [], 1), (0, [20], [], 0), (30, [13], [], 0), (31, [10], [], 0), (30, [15], [], 0), (40, [19, 14], [], 0), (1248, [19, 4, 7, 16, 9], [1, 2], 0), (90, [19], [], -1), (91, [19], [], 59), (42, [16, 18], [], 0), (22, [18, 17, 7], [1], 0), (90, [18], [], 0), (91, [18], [], 60), (20, [17, 4], [1], 61), (0, [17], [], 325), (5000, [0, 1, 2, 3, 4, 5, 6, 7, 8, 9, 10, 11, 12, 13, 14, 15, 16], [0, 1], 69), (0, [0], [], 285), (90, [1], [], -2147483648), (91, [1], [], 2147483647), (90, [2], [], -2147483648), (91, [2], [], 2147483647), (90, [3], [], -2147483648), (91, [3], [], 2147483647), (0, [4], [], 285), (90, [5], [], -2147483648), (91, [5], [], 2147483647), (90, [6], [], -2147483648), (91, [6], [], 2147483647), (90, [7], [], -2147483648), (91, [7], [], 2147483647), (90, [8], [], -2147483648), (91, [8], [], 2147483647), (90, [9], [], 0), (91, [9], [], 5), (90, [10], [], -2147483648), (91, [10], [], 2147483647), (90, [11], [], -2147483648), (91, [11], [], 2147483647), (90, [12], [], -2147483648), (91, [12], [], 2147483647), (90, [13], [], -2147483648), (91, [13], [], 2147483647), (90, [14], [], 0), (91, [14], [], 59), (90, [15], [], -2147483648), (91, [15], [], 2147483647), (90, [16], [], 0), (91, [16], [], 60)], (4000, [4, 5, 6, 7, 8, 9, 21, 11, 12, 20, 14, 22, 23], [2], 69))
theorem c_298_69_18 {q0 : Nat} : vOkm T0 (eP e_298 L_298 A_298 mu_298 (some q0)) 4 g_298_69_18 := vOk_in fun ρ η h => by
  obtain ⟨f0, f1, f2, f3, f4, f5, f6, f7, f8, f9, f10, f11, f12, f13, f14, f15, f16, f17, f18, f19, f20, f21, f22, f23, f24, f25, f26, f27, f28, f29, f30, f31, f32, f33, f34, f35, f36, f37, f38, f39, f40, f41, f42, f43, f44, f45, f46, f47, f48, f49, _⟩ := h
  exact q_298_26 (q0 := q0) (n0 := ρ 16) (n1 := ρ 15) (n2 := ρ 14) (n3 := ρ 13) (n4 := ρ 12) (n5 := ρ 11) (n6 := ρ 10) (n7 := ρ 9) (n8 := ρ 8) (n9 := ρ 7) (n10 := ρ 6) (n11 := ρ 5) (n12 := ρ 4) (n13 := ρ 3) (n14 := ρ 2) (n15 := ρ 1) (n16 := ρ 0) (n17 := ρ 17) (n18 := ρ 18) (n19 := ρ 19) (n20 := ρ 20) (n21 := ρ 21) (n22 := ρ 22) (n23 := ρ 23) (H0 := η 0) (H1 := η 1) (H2 := η 2) f49 f48 f47 f46 f45 f44 f43 f42 f41 f40 f39 f38 f37 f36 f35 f34 f33 f32 f31 f30 f29 f28 f27 f26 f25 f24 f23 f22 f21 f20 f19 f18 f17 f16 f15 f14 f13 f12 f11 f10 f9 f8 f7 f6 f5 f4 f3 f2 f1 f0
theorem q_298_27 {q0 : Nat} {n0 n1 n2 n3 n4 : Int} {H0 : gH} (f0 : 0 ≤ n0) (f1 : n1 ≤ 60) (f2 : n0 < n1) (f3 : n2 ≤ 59) (f4 : (-1) ≤ n2) (f5 : n2 = n3) (f6 : n4 = w32 (n0 + 1)) : 0 ≤ n4 := by
  unfold w32 at *
  try (have ix0 : n4 = n0 + 1 := (by omega); subst ix0)
  omega
def g_298_69_19 : vG := ([(10, [24, 16], [], 1), (40, [19, 14], [], 0), (90, [19], [], -1), (91, [19], [], 59), (42, [16, 18], [], 0), (91, [18], [], 60), (90, [16], [], 0)], (90, [24], [], 0))
theorem c_298_69_19 {q0 : Nat} : vOkm T0 (eP e_298 L_298 A_298 mu_298 (some q0)) 4 g_298_69_19 := vOk_in fun ρ η h => by
  obtain ⟨f0, f1, f2, f3, f4, f5, f6, _⟩ := h
  exact q_298_27 (q0 := q0) (n0 := ρ 16) (n1 := ρ 18) (n2 := ρ 19) (n3 := ρ 14) (n4 := ρ 24) (H0 := η 0) f6 f5 f4 f3 f2 f1 f0
theorem q_298_28 {q0 : Nat} {n0 n1 n2 n3 n4 : Int} {H0 : gH} (f0 : 0 ≤ n0) (f1 : n1 ≤ 60) (f2 : n0 < n1) (f3 : n2 ≤ 59) (f4 : (-1) ≤ n2) (f5 : n2 = n3) (f6 : n4 = w32 (n0 + 1)) : n4 ≤ 60 := by
  unfold w32 at *
  try (have ix0 : n4 = n0 + 1 := (by omega); subst ix0)
  omega
def g_298_69_20 : vG := ([(10, [24, 16], [], 1), (40, [19, 14], [], 0), (90, [19], [], -1), (91, [19], [], 59), (42, [16, 18], [], 0), (91, [18], [], 60), (90, [16], [], 0)], (91, [24], [], 60))
theorem c_298_69_20 {q0 : Nat} : vOkm T0 (eP e_298 L_298 A_298 mu_298 (some q0)) 4 g_298_69_20 := vOk_in fun ρ η h => by
  obtain ⟨f0, f1, f2, f3, f4, f5, f6, _⟩ := h
  exact q_298_28 (q0 := q0) (n0 := ρ 16) (n1 := ρ 18) (n2 := ρ 19) (n3 := ρ 14) (n4 := ρ 24) (H0 := η 0) f6 f5 f4 f3 f2 f1 f0
theorem q_298_29 {q0 : Nat} {n0 n1 n2 n3 n4 n5 n6 n7 n8 n9 n10 n11 n12 n13 n14 n15 n16 n17 n18 n19 n20 n21 n22 n23 n24 : Int} {H0 H1 H2 : gH} (f0 : n0 ≤ 60) (f1 : 0 ≤ n0) (f2 : n1 ≤ 2147483647) (f3 : (-2147483648) ≤ n1) (f4 : n2 ≤ 59) (f5 : 0 ≤ n2) (f6 : n3 ≤ 2147483647) (f7 : (-2147483648) ≤ n3) (f8 : n4 ≤ 2147483647) (f9 : (-2147483648) ≤ n4) (f10 : n5 ≤ 2147483647) (f11 : (-2147483648) ≤ n5) (f12 : n6 ≤ 2147483647) (f13 : (-2147483648) ≤ n6) (f14 : n7 ≤ 5) (f15 : 0 ≤ n7) (f16 : n8 ≤ 2147483647) (f17 : (-2147483648) ≤ n8) (f18 : n9 ≤ 2147483647) (f19 : (-2147483648) ≤ n9) (f20 : n10 ≤ 2147483647) (f21 : (-2147483648) ≤ n10) (f22 : n11 ≤ 2147483647) (f23 : (-2147483648) ≤ n11) (f24 : n12 = 285) (f25 : n13 ≤ 2147483647) (f26 : (-2147483648) ≤ n13) (f27 : n14 ≤ 2147483647) (f28 : (-2147483648) ≤ n14) (f29 : n15 ≤ 2147483647) (f30 : (-2147483648) ≤ n15) (f31 : n16 = 285) (f32 : (hLe T0 H0 H1 ∧ hFr s_298.2.2.2.2 H0 H1 ∧ hWt T0 H1) ∧ (Ab_298_69 n16 n15 n14 n13 n12 n11 n10 n9 n8 n7 n6 n5 n4 n3 n2 n1 n0 H0 H1 ∧ preb_298 n16 n15 n14 n13 H0) ∧ some q0 = some (mub_298_69 n16 n15 n14 n13 n12 n11 n10 n9 n8 n7 n6 n5 n4 n3 n2 n1 n0 H0 H1)) (f33 : n17 = 325) (f34 : n17 = hV H1 (n12).toNat 61) (f35 : n18 ≤ 60) (f36 : 0 ≤ n18) (f37 : n18 = hV H1 (n17).toNat (n9).toNat) (f38 : n0 < n18) (f39 : n19 ≤ 59) (f40 : (-1) ≤ n19) (f41 : (hLe T0 H1 H2 ∧ hFr s_248.2.2.2.2 H1 H2 ∧ ((0 : Int) = 0 → H2.length = H1.length) ∧ hWt T0 H2) ∧ True) (f42 : n19 = n2) (f43 : n1 = 0) (f44 : n6 ≠ 0) (f45 : n3 ≠ 0) (f46 : n20 = w32 (n0 - n2)) (f47 : n20 ≠ n4) (f48 : n21 = 0) (f49 : n22 = w32 (n6 + 1)) (f50 : n23 = w32 (n1 + 1)) (f51 : n24 = w32 (n0 + 1)) : Ab_298_69 n16 n15 n14 n13 n12 n11 n10 n9 n8 n7 n22 n5 n4 n21 n2 n23 n24 H0 H2 ∧ ∀ q, some q0 = some q → mub_298_69 n16 n15 n14 n13 n12 n11 n10 n9 n8 n7 n22 n5 n4 n21 n2 n23 n24 H0 H2 < q := by
  have g4 := f32.2.1.1
  unfold Ab_298_69 at g4
  have g3 := f32.2.1.2
  unfold preb_298 at g3
  have g5 := Option.some.inj f32.2.2
  unfold mub_298_69 at g5
  unfold Ab_298_69
  unfold mub_298_69
  have e0 : hV H1 325 = hV H0 325 := fRow f32.1.2.1 325 (by decide +kernel)
  have e1 : n18 = hV H0 325 (n9).toNat := (by rw [f33] at f37; exact f37 : n18 = hV H1 325 (n9).toNat).trans ((congrFun e0 _))
  have k0 := g4.1
  have k1 := g4.2.1
  have k2 := g4.2.2.1
  have y0 := g4.2.2.2.1
  have y1 := g4.2.2.2.2
  have p0 := g3.1
  have p1 := g3.2
  clear g3
  clear g4
  clear f34 f37 e0
  subst e1
  unfold w32 at *
  try (have ix0 : n22 = n6 + 1 := (by omega); subst ix0)
  try (have ix1 : n23 = n1 + 1 := (by omega); subst ix1)
  try (have ix2 : n24 = n0 + 1 := (by omega); subst ix2)
  try subst k2
  try subst k1
  try subst k0
  refine ⟨?_, fun q hq => ?_⟩
  · refine ⟨?_, ?_, ?_, ?_, ?_⟩ <;> first | assumption | omega | trivial
  · have g6 := Option.some.inj hq
    subst g6
    omega
def g_298_69_21 : vG := ([(10, [24, 16], [], 1), (10, [23, 15], [], 1), (10, [22, 10], [], 1), (0, [21], [], 0), (41, [20, 12], [], 0), (2, [20, 16, 14], [], 0), (31, [13], [], 0), (31, [10], [], 0), (30, [15], [], 0), (40, [19, 14], [], 0), (1248, [19, 4, 7, 16, 9], [1, 2], 0), (90, [19], [], -1), (91, [19], [], 59), (42, [16, 18], [], 0), (22, [18, 17, 7], [1], 0), (90, [18], [], 0), (91, [18], [], 60), (20, [17, 4], [1], 61), (0, [17], [], 325), (5000, [0, 1, 2, 3, 4, 5, 6, 7, 8, 9, 10, 11, 12, 13, 14, 15, 16], [0, 1], 69), (0, [0], [], 285), (90, [1], [], -2147483648), (91, [1], [], 2147483647), (90, [2], [], -2147483648), (91, [2], [], 2147483647), (90, [3], [], -2147483648), (91, [3], [], 2147483647), (0, [4], [], 285), (90, [5], [], -2147483648), (91, [5], [], 2147483647), (90, [6], [], -2147483648), (91, [6], [], 2147483647), (90, [7], [], -2147483648), (91, [7], [], 2147483647), (90, [8], [], -2147483648), (91, [8], [], 2147483647), (90, [9], [], 0), (91, [9], [], 5), (90, [10], [], -2147483648), (91, [10], [], 2147483647), (90, [11], [], -2147483648), (91, [11], [], 2147483647), (90, [12], [], -2147483648), (91, [12], [], 2147483647), (90, [13], [], -2147483648), (91, [13], [], 2147483647), (90, [14], [], 0), (91, [14], [], 59), (90, [15], [], -2147483648), (91, [15], [], 2147483647), (90, [16], [], 0), (91, [16], [], 60)], (4000, [4, 5, 6, 7, 8, 9, 22, 11, 12, 21, 14, 23, 24], [2], 69))
theorem c_298_69_21 {q0 : Nat} : vOkm T0 (eP e_298 L_298 A_298 mu_298 (some q0)) 4 g_298_69_21 := vOk_in fun ρ η h => by
  obtain ⟨f0, f1, f2, f3, f4, f5, f6, f7, f8, f9, f10, f11, f12, f13, f14, f15, f16, f17, f18, f19, f20, f21, f22, f23, f24, f25, f26, f27, f28, f29, f30, f31, f32, f33, f34, f35, f36, f37, f38, f39, f40, f41, f42, f43, f44, f45, f46, f47, f48, f49, f50, f51, _⟩ := h
  exact q_298_29 (q0 := q0) (n0 := ρ 16) (n1 := ρ 15) (n2 := ρ 14) (n3 := ρ 13) (n4 := ρ 12) (n5 := ρ 11) (n6 := ρ 10) (n7 := ρ 9) (n8 := ρ 8) (n9 := ρ 7) (n10 := ρ 6) (n11 := ρ 5) (n12 := ρ 4) (n13 := ρ 3) (n14 := ρ 2) (n15 := ρ 1) (n16 := ρ 0) (n17 := ρ 17) (n18 := ρ 18) (n19 := ρ 19) (n20 := ρ 20) (n21 := ρ 21) (n22 := ρ 22) (n23 := ρ 23) (n24 := ρ 24) (H0 := η 0) (H1 := η 1) (H2 := η 2) f51 f50 f49 f48 f47 f46 f45 f44 f43 f42 f41 f40 f39 f38 f37 f36 f35 f34 f33 f32 f31 f30 f29 f28 f27 f26 f25 f24 f23 f22 f21 f20 f19 f18 f17 f16 f15 f14 f13 f12 f11 f10 f9 f8 f7 f6 f5 f4 f3 f2 f1 f0
def g_298_69_22 : vG := ([(10, [24, 16], [], 1), (40, [19, 14], [], 0), (90, [19], [], -1), (91, [19], [], 59), (42, [16, 18], [], 0), (91, [18], [], 60), (90, [16], [], 0)], (90, [24], [], 0))
theorem c_298_69_22 {q0 : Nat} : vOkm T0 (eP e_298 L_298 A_298 mu_298 (some q0)) 4 g_298_69_22 := vOk_in fun ρ η h => by
  obtain ⟨f0, f1, f2, f3, f4, f5, f6, _⟩ := h
  exact q_298_27 (q0 := q0) (n0 := ρ 16) (n1 := ρ 18) (n2 := ρ 19) (n3 := ρ 14) (n4 := ρ 24) (H0 := η 0) f6 f5 f4 f3 f2 f1 f0
theorem q_298_30 {q0 : Nat} {n0 n1 n2 n3 n4 n5 n6 : Int} {H0 : gH} (f0 : (-2147483648) ≤ n0) (f1 : n1 ≤ 60) (f2 : n2 < n1) (f3 : (-1) ≤ n3) (f4 : n3 = n4) (f5 : n5 = w32 (n2 - n4)) (f6 : n5 = n0) (f7 : n6 = w32 (n2 + 1)) : n6 ≤ 60 := by
  unfold w32 at *
  try (have ix0 : n6 = n2 + 1 := (by omega); subst ix0)
  omega
def g_298_69_23 : vG := ([(10, [24, 16], [], 1), (40, [20, 12], [], 0), (2, [20, 16, 14], [], 0), (40, [19, 14], [], 0), (90, [19], [], -1), (42, [16, 18], [], 0), (91, [18], [], 60), (90, [12], [], -2147483648)], (91, [24], [], 60))
theorem c_298_69_23 {q0 : Nat} : vOkm T0 (eP e_298 L_298 A_298 mu_298 (some q0)) 4 g_298_69_23 := vOk_in fun ρ η h => by
  obtain ⟨f0, f1, f2, f3, f4, f5, f6, f7, _⟩ := h
  exact q_298_30 (q0 := q0) (n0 := ρ 12) (n1 := ρ 18) (n2 := ρ 16) (n3 := ρ 19) (n4 := ρ 14) (n5 := ρ 20) (n6 := ρ 24) (H0 := η 0) f7 f6 f5 f4 f3 f2 f1 f0
theorem q_298_31 {q0 : Nat} {n0 n1 n2 n3 n4 n5 n6 n7 n8 n9 n10 n11 n12 n13 n14 n15 n16 n17 n18 n19 n20 n21 n22 n23 n24 : Int} {H0 H1 H2 : gH} (f0 : n0 ≤ 60) (f1 : 0 ≤ n0) (f2 : n1 ≤ 2147483647) (f3 : (-2147483648) ≤ n1) (f4 : n2 ≤ 59) (f5 : 0 ≤ n2) (f6 : n3 ≤ 2147483647) (f7 : (-2147483648) ≤ n3) (f8 : n4 ≤ 2147483647) (f9 : (-2147483648) ≤ n4) (f10 : n5 ≤ 2147483647) (f11 : (-2147483648) ≤ n5) (f12 : n6 ≤ 2147483647) (f13 : (-2147483648) ≤ n6) (f14 : n7 ≤ 5) (f15 : 0 ≤ n7) (f16 : n8 ≤ 2147483647) (f17 : (-2147483648) ≤ n8) (f18 : n9 ≤ 2147483647) (f19 : (-2147483648) ≤ n9) (f20 : n10 ≤ 2147483647) (f21 : (-2147483648) ≤ n10) (f22 : n11 ≤ 2147483647) (f23 : (-2147483648) ≤ n11) (f24 : n12 = 285) (f25 : n13 ≤ 2147483647) (f26 : (-2147483648) ≤ n13) (f27 : n14 ≤ 2147483647) (f28 : (-2147483648) ≤ n14) (f29 : n15 ≤ 2147483647) (f30 : (-2147483648) ≤ n15) (f31 : n16 = 285) (f32 : (hLe T0 H0 H1 ∧ hFr s_298.2.2.2.2 H0 H1 ∧ hWt T0 H1) ∧ (Ab_298_69 n16 n15 n14 n13 n12 n11 n10 n9 n8 n7 n6 n5 n4 n3 n2 n1 n0 H0 H1 ∧ preb_298 n16 n15 n14 n13 H0) ∧ some q0 = some (mub_298_69 n16 n15 n14 n13 n12 n11 n10 n9 n8 n7 n6 n5 n4 n3 n2 n1 n0 H0 H1)) (f33 : n17 = 325) (f34 : n17 = hV H1 (n12).toNat 61) (f35 : n18 ≤ 60) (f36 : 0 ≤ n18) (f37 : n18 = hV H1 (n17).toNat (n9).toNat) (f38 : n0 < n18) (f39 : n19 ≤ 59) (f40 : (-1) ≤ n19) (f41 : (hLe T0 H1 H2 ∧ hFr s_248.2.2.2.2 H1 H2 ∧ ((0 : Int) = 0 → H2.length = H1.length) ∧ hWt T0 H2) ∧ True) (f42 : n19 = n2) (f43 : n1 = 0) (f44 : n6 ≠ 0) (f45 : n3 ≠ 0) (f46 : n20 = w32 (n0 - n2)) (f47 : n20 = n4) (f48 : n21 = 1) (f49 : n22 = w32 (n6 + 1)) (f50 : n23 = w32 (n1 + 1)) (f51 : n24 = w32 (n0 + 1)) : Ab_298_69 n16 n15 n14 n13 n12 n11 n10 n9 n8 n7 n22 n5 n4 n21 n2 n23 n24 H0 H2 ∧ ∀ q, some q0 = some q → mub_298_69 n16 n15 n14 n13 n12 n11 n10 n9 n8 n7 n22 n5 n4 n21 n2 n23 n24 H0 H2 < q := by
  have g4 := f32.2.1.1
  unfold Ab_298_69 at g4
  have g3 := f32.2.1.2
  unfold preb_298 at g3
  have g5 := Option.some.inj f32.2.2
  unfold mub_298_69 at g5
  unfold Ab_298_69
  unfold mub_298_69
  have e0 : hV H1 325 = hV H0 325 := fRow f32.1.2.1 325 (by decide +kernel)
  have e1 : n18 = hV H0 325 (n9).toNat := (by rw [f33] at f37; exact f37 : n18 = hV H1 325 (n9).toNat).trans ((congrFun e0 _))
  have k0 := g4.1
  have k1 := g4.2.1
  have k2 := g4.2.2.1
  have y0 := g4.2.2.2.1
  have y1 := g4.2.2.2.2
  have p0 := g3.1
  have p1 := g3.2
  clear g3
  clear g4
  clear f34 f37 e0
  subst e1
  unfold w32 at *
  try (have ix0 : n22 = n6 + 1 := (by omega); subst ix0)
  try (have ix1 : n23 = n1 + 1 := (by omega); subst ix1)
  try (have ix2 : n24 = n0 + 1 := (by omega); subst ix2)
  try subst k2
  try subst k1
  try subst k0
  refine ⟨?_, fun q hq => ?_⟩
  · refine ⟨?_, ?_, ?_, ?_, ?_⟩ <;> first | assumption | omega | trivial
  · have g6 := Option.some.inj hq
    subst g6
    omega
def g_298_69_24 : vG := ([(10, [24, 16], [], 1), (10, [23, 15], [], 1), (10, [22, 10], [], 1), (0, [21], [], 1), (40, [20, 12], [], 0), (2, [20, 16, 14], [], 0), (31, [13], [], 0), (31, [10], [], 0), (30, [15], [], 0), (40, [19, 14], [], 0), (1248, [19, 4, 7, 16, 9], [1, 2], 0), (90, [19], [], -1), (91, [19], [], 59), (42, [16, 18], [], 0), (22, [18, 17, 7], [1], 0), (90, [18], [], 0), (91, [18], [], 60), (20, [17, 4], [1], 61), (0, [17], [], 325), (5000, [0, 1, 2, 3, 4, 5, 6, 7, 8, 9, 10, 11, 12, 13, 14, 15, 16], [0, 1], 69), (0, [0], [], 285), (90, [1], [], -2147483648), (91, [1], [], 2147483647), (90, [2], [], -2147483648), (91, [2], [], 2147483647), (90, [3], [], -2147483648), (91, [3], [], 2147483647), (0, [4], [], 285), (90, [5], [], -2147483648), (91, [5], [], 2147483647), (90, [6], [], -2147483648), (91, [6], [], 2147483647), (90, [7], [], -2147483648), (91, [7], [], 2147483647), (90, [8], [], -2147483648), (91, [8], [], 2147483647), (90, [9], [], 0), (91, [9], [], 5), (90, [10], [], -2147483648), (91, [10], [], 2147483647), (90, [11], [], -2147483648), (91, [11], [], 2147483647), (90, [12], [], -2147483648), (91, [12], [], 2147483647), (90, [13], [], -2147483648), (91, [13], [], 2147483647), (90, [14], [], 0), (91, [14], [], 59), (90, [15], [], -2147483648), (91, [15], [], 2147483647), (90, [16], [], 0), (91, [16], [], 60)], (4000, [4, 5, 6, 7, 8, 9, 22, 11, 12, 21, 14, 23, 24], [2], 69))
theorem c_298_69_24 {q0 : Nat} : vOkm T0 (eP e_298 L_298 A_298 mu_298 (some q0)) 4 g_298_69_24 := vOk_in fun ρ η h => by
  obtain ⟨f0, f1, f2, f3, f4, f5, f6, f7, f8, f9, f10, f11, f12, f13, f14, f15, f16, f17, f18, f19, f20, f21, f22, f23, f24, f25, f26, f27, f28, f29, f30, f31, f32, f33, f34, f35, f36, f37, f38, f39, f40, f41, f42, f43, f44, f45, f46, f47, f48, f49, f50, f51, _⟩ := h
  exact q_298_31 (q0 := q0) (n0 := ρ 16) (n1 := ρ 15) (n2 := ρ 14) (n3 := ρ 13) (n4 := ρ 12) (n5 := ρ 11) (n6 := ρ 10) (n7 := ρ 9) (n8 := ρ 8) (n9 := ρ 7) (n10 := ρ 6) (n11 := ρ 5) (n12 := ρ 4) (n13 := ρ 3) (n14 := ρ 2) (n15 := ρ 1) (n16 := ρ 0) (n17 := ρ 17) (n18 := ρ 18) (n19 := ρ 19) (n20 := ρ 20) (n21 := ρ 21) (n22 := ρ 22) (n23 := ρ 23) (n24 := ρ 24) (H0 := η 0) (H1 := η 1) (H2 := η 2) f51 f50 f49 f48 f47 f46 f45 f44 f43 f42 f41 f40 f39 f38 f37 f36 f35 f34 f33 f32 f31 f30 f29 f28 f27 f26 f25 f24 f23 f22 f21 f20 f19 f18 f17 f16 f15 f14 f13 f12 f11 f10 f9 f8 f7 f6 f5 f4 f3 f2 f1 f0
def g_298_69_25 : vG := ([(10, [24, 16], [], 1), (42, [16, 18], [], 0), (91, [18], [], 60), (90, [16], [], 0)], (90, [24], [], 0))
theorem c_298_69_25 {q0 : Nat} : vOkm T0 (eP e_298 L_298 A_298 mu_298 (some q0)) 4 g_298_69_25 := vOk_in fun ρ η h => by
  obtain ⟨f0, f1, f2, f3, _⟩ := h
  exact q_298_23 (q0 := q0) (n0 := ρ 16) (n1 := ρ 18) (n2 := ρ 24) (H0 := η 0) f3 f2 f1 f0
def g_298_69_26 : vG := ([(10, [24, 16], [], 1), (42, [16, 18], [], 0), (91, [18], [], 60), (90, [16], [], 0)], (91, [24], [], 60))
theorem c_298_69_26 {q0 : Nat} : vOkm T0 (eP e_298 L_298 A_298 mu_298 (some q0)) 4 g_298_69_26 := vOk_in fun ρ η h => by
  obtain ⟨f0, f1, f2, f3, _⟩ := h
  exact q_298_24 (q0 := q0) (n0 := ρ 16) (n1 := ρ 18) (n2 := ρ 24) (H0 := η 0) f3 f2 f1 f0
theorem q_298_32 {q0 : Nat} {n0 n1 n2 n3 n4 n5 n6 n7 n8 n9 n10 n11 n12 n13 n14 n15 n16 n17 n18 n19 n20 n21 n22 n23 n24 : Int} {H0 H1 H2 : gH} (f0 : n0 ≤ 60) (f1 : 0 ≤ n0) (f2 : n1 ≤ 2147483647) (f3 : (-2147483648) ≤ n1) (f4 : n2 ≤ 59) (f5 : 0 ≤ n2) (f6 : n3 ≤ 2147483647) (f7 : (-2147483648) ≤ n3) (f8 : n4 ≤ 2147483647) (f9 : (-2147483648) ≤ n4) (f10 : n5 ≤ 2147483647) (f11 : (-2147483648) ≤ n5) (f12 : n6 ≤ 2147483647) (f13 : (-2147483648) ≤ n6) (f14 : n7 ≤ 5) (f15 : 0 ≤ n7) (f16 : n8 ≤ 2147483647) (f17 : (-2147483648) ≤ n8) (f18 : n9 ≤ 2147483647) (f19 : (-2147483648) ≤ n9) (f20 : n10 ≤ 2147483647) (f21 : (-2147483648) ≤ n10) (f22 : n11 ≤ 2147483647) (f23 : (-2147483648) ≤ n11) (f24 : n12 = 285) (f25 : n13 ≤ 2147483647) (f26 : (-2147483648) ≤ n13) (f27 : n14 ≤ 2147483647) (f28 : (-2147483648) ≤ n14) (f29 : n15 ≤ 2147483647) (f30 : (-2147483648) ≤ n15) (f31 : n16 = 285) (f32 : (hLe T0 H0 H1 ∧ hFr s_298.2.2.2.2 H0 H1 ∧ hWt T0 H1) ∧ (Ab_298_69 n16 n15 n14 n13 n12 n11 n10 n9 n8 n7 n6 n5 n4 n3 n2 n1 n0 H0 H1 ∧ preb_298 n16 n15 n14 n13 H0) ∧ some q0 = some (mub_298_69 n16 n15 n14 n13 n12 n11 n10 n9 n8 n7 n6 n5 n4 n3 n2 n1 n0 H0 H1)) (f33 : n17 = 325) (f34 : n17 = hV H1 (n12).toNat 61) (f35 : n18 ≤ 60) (f36 : 0 ≤ n18) (f37 : n18 = hV H1 (n17).toNat (n9).toNat) (f38 : n0 < n18) (f39 : n19 ≤ 59) (f40 : (-1) ≤ n19) (f41 : (hLe T0 H1 H2 ∧ hFr s_248.2.2.2.2 H1 H2 ∧ ((0 : Int) = 0 → H2.length = H1.length) ∧ hWt T0 H2) ∧ True) (f42 : n19 = n2) (f43 : n1 = 0) (f44 : n6 = 0) (f45 : n20 = w32 (n0 - n2)) (f46 : n3 = 0) (f47 : n21 = 0) (f48 : n22 = w32 (n6 + 1)) (f49 : n23 = w32 (n1 + 1)) (f50 : n24 = w32 (n0 + 1)) : Ab_298_69 n16 n15 n14 n13 n12 n11 n10 n9 n8 n7 n22 n5 n20 n21 n2 n23 n24 H0 H2 ∧ ∀ q, some q0 = some q → mub_298_69 n16 n15 n14 n13 n12 n11 n10 n9 n8 n7 n22 n5 n20 n21 n2 n23 n24 H0 H2 < q := by
  have g4 := f32.2.1.1
  unfold Ab_298_69 at g4
  have g3 := f32.2.1.2
  unfold preb_298 at g3
  have g5 := Option.some.inj f32.2.2
  unfold mub_298_69 at g5
  unfold Ab_298_69
  unfold mub_298_69
  have e0 : hV H1 325 = hV H0 325 := fRow f32.1.2.1 325 (by decide +kernel)
  have e1 : n18 = hV H0 325 (n9).toNat := (by rw [f33] at f37; exact f37 : n18 = hV H1 325 (n9).toNat).trans ((congrFun e0 _))
  have k0 := g4.1
  have k1 := g4.2.1
  have k2 := g4.2.2.1
  have y0 := g4.2.2.2.1
  have y1 := g4.2.2.2.2
  have p0 := g3.1
  have p1 := g3.2
  clear g3
  clear g4
  clear f34 f37 e0
  subst e1
  unfold w32 at *
  try (have ix0 : n20 = n0 - n2 := (by omega); subst ix0)
  try (have ix1 : n22 = n6 + 1 := (by omega); subst ix1)
  try (have ix2 : n23 = n1 + 1 := (by omega); subst ix2)
  try (have ix3 : n24 = n0 + 1 := (by omega); subst ix3)
  try subst k2
  try subst k1
  try subst k0
  refine ⟨?_, fun q hq => ?_⟩
  · refine ⟨?_, ?_, ?_, ?_, ?_⟩ <;> first | assumption | omega | trivial
  · have g6 := Option.some.inj hq
    subst g6
    omega
def g_298_69_27 : vG := ([(10, [24, 16], [], 1), (10, [23, 15], [], 1), (10, [22, 10], [], 1), (0, [21], [], 0), (30, [13], [], 0), (2, [20, 16, 14], [], 0), (30, [10], [], 0), (30, [15], [], 0), (40, [19, 14], [], 0), (1248, [19, 4, 7, 16, 9], [1, 2], 0), (90, [19], [], -1), (91, [19], [], 59), (42, [16, 18], [], 0), (22, [18, 17, 7], [1], 0), (90, [18], [], 0), (91, [18], [], 60), (20, [17, 4], [1], 61), (0, [17], [], 325), (5000, [0, 1, 2, 3, 4, 5, 6, 7, 8, 9, 10, 11, 12, 13, 14, 15, 16], [0, 1], 69), (0, [0], [], 285), (90, [1], [], -2147483648), (91, [1], [], 2147483647), (90, [2], [], -2147483648), (91, [2], [], 2147483647), (90, [3], [], -2147483648), (91, [3], [], 2147483647), (0, [4], [], 285), (90, [5], [], -2147483648), (91, [5], [], 2147483647), (90, [6], [], -2147483648), (91, [6], [], 2147483647), (90, [7], [], -2147483648), (91, [7], [], 2147483647), (90, [8], [], -2147483648), (91, [8], [], 2147483647), (90, [9], [], 0), (91, [9], [], 5), (90, [10], [], -2147483648), (91, [10], [], 2147483647), (90, [11], [], -2147483648), (91, [11], [], 2147483647), (90, [12], [], -2147483648), (91, [12], [], 2147483647), (90, [13], [], -2147483648), (91, [13], [], 2147483647), (90, [14], [], 0), (91, [14], [], 59), (90, [15], [], -2147483648), (91, [15], [], 2147483647), (90, [16], [], 0), (91, [16], [], 60)], (4000, [4, 5, 6, 7, 8, 9, 22, 11, 20, 21, 14, 23, 24], [2], 69))
theorem c_298_69_27 {q0 : Nat} : vOkm T0 (eP e_298 L_298 A_298 mu_298 (some q0)) 4 g_298_69_27 := vOk_in fun ρ η h => by
  obtain ⟨f0, f1, f2, f3, f4, f5, f6, f7, f8, f9, f10, f11, f12, f13, f14, f15, f16, f17, f18, f19, f20, f21, f22, f23, f24, f25, f26, f27, f28, f29, f30, f31, f32, f33, f34, f35, f36, f37, f38, f39, f40, f41, f42, f43, f44, f45, f46, f47, f48, f49, f50, _⟩ := h
  exact q_298_32 (q0 := q0) (n0 := ρ 16) (n1 := ρ 15) (n2 := ρ 14) (n3 := ρ 13) (n4 := ρ 12) (n5 := ρ 11) (n6 := ρ 10) (n7 := ρ 9) (n8 := ρ 8) (n9 := ρ 7) (n10 := ρ 6) (n11 := ρ 5) (n12 := ρ 4) (n13 := ρ 3) (n14 := ρ 2) (n15 := ρ 1) (n16 := ρ 0) (n17 := ρ 17) (n18 := ρ 18) (n19 := ρ 19) (n20 := ρ 20) (n21 := ρ 21) (n22 := ρ 22) (n23 := ρ 23) (n24 := ρ 24) (H0 := η 0) (H1 := η 1) (H2 := η 2) f50 f49 f48 f47 f46 f45 f44 f43 f42 f41 f40 f39 f38 f37 f36 f35 f34 f33 f32 f31 f30 f29 f28 f27 f26 f25 f24 f23 f22 f21 f20 f19 f18 f17 f16 f15 f14 f13 f12 f11 f10 f9 f8 f7 f6 f5 f4 f3 f2 f1 f0
theorem q_298_33 {q0 : Nat} {n0 n1 n2 n3 n4 : Int} {H0 : gH} (f0 : n0 = w32 (n1 - n2)) (f1 : n3 = w32 (n1 - n2)) (f2 : n3 ≠ n0) : 0 ≤ n4 := by
  unfold w32 at *
  omega
def g_298_69_28 : vG := ([(41, [21, 20], [], 0), (2, [21, 16, 14], [], 0), (2, [20, 16, 14], [], 0)], (90, [25], [], 0))
theorem c_298_69_28 {q0 : Nat} : vOkm T0 (eP e_298 L_298 A_298 mu_298 (some q0)) 4 g_298_69_28 := vOk_in fun ρ η h => by
  obtain ⟨f0, f1, f2, _⟩ := h
  exact q_298_33 (q0 := q0) (n0 := ρ 20) (n1 := ρ 16) (n2 := ρ 14) (n3 := ρ 21) (n4 := ρ 25) (H0 := η 0) f2 f1 f0
theorem q_298_34 {q0 : Nat} {n0 n1 n2 n3 n4 : Int} {H0 : gH} (f0 : n0 = w32 (n1 - n2)) (f1 : n3 = w32 (n1 - n2)) (f2 : n3 ≠ n0) : n4 ≤ 60 := by
  unfold w32 at *
  omega
def g_298_69_29 : vG := ([(41, [21, 20], [], 0), (2, [21, 16, 14], [], 0), (2, [20, 16, 14], [], 0)], (91, [25], [], 60))
theorem c_298_69_29 {q0 : Nat} : vOkm T0 (eP e_298 L_298 A_298 mu_298 (some q0)) 4 g_298_69_29 := vOk_in fun ρ η h => by
  obtain ⟨f0, f1, f2, _⟩ := h
  exact q_298_34 (q0 := q0) (n0 := ρ 20) (n1 := ρ 16) (n2 := ρ 14) (n3 := ρ 21) (n4 := ρ 25) (H0 := η 0) f2 f1 f0
theorem q_298_35 {q0 : Nat} {n0 n1 n2 n3 n4 n5 n6 n7 n8 n9 n10 n11 n12 n13 n14 n15 n16 n17 n18 n19 n20 n21 n22 n23 n24 n25 : Int} {H0 H1 H2 : gH} (f0 : n0 ≤ 60) (f1 : 0 ≤ n0) (f2 : n1 ≤ 2147483647) (f3 : (-2147483648) ≤ n1) (f4 : n2 ≤ 59) (f5 : 0 ≤ n2) (f6 : n3 ≤ 2147483647) (f7 : (-2147483648) ≤ n3) (f8 : n4 ≤ 2147483647) (f9 : (-2147483648) ≤ n4) (f10 : n5 ≤ 2147483647) (f11 : (-2147483648) ≤ n5) (f12 : n6 ≤ 2147483647) (f13 : (-2147483648) ≤ n6) (f14 : n7 ≤ 5) (f15 : 0 ≤ n7) (f16 : n8 ≤ 2147483647) (f17 : (-2147483648) ≤ n8) (f18 : n9 ≤ 2147483647) (f19 : (-2147483648) ≤ n9) (f20 : n10 ≤ 2147483647) (f21 : (-2147483648) ≤ n10) (f22 : n11 ≤ 2147483647) (f23 : (-2147483648) ≤ n11) (f24 : n12 = 285) (f25 : n13 ≤ 2147483647) (f26 : (-2147483648) ≤ n13) (f27 : n14 ≤ 2147483647) (f28 : (-2147483648) ≤ n14) (f29 : n15 ≤ 2147483647) (f30 : (-2147483648) ≤ n15) (f31 : n16 = 285) (f32 : (hLe T0 H0 H1 ∧ hFr s_298.2.2.2.2 H0 H1 ∧ hWt T0 H1) ∧ (Ab_298_69 n16 n15 n14 n13 n12 n11 n10 n9 n8 n7 n6 n5 n4 n3 n2 n1 n0 H0 H1 ∧ preb_298 n16 n15 n14 n13 H0) ∧ some q0 = some (mub_298_69 n16 n15 n14 n13 n12 n11 n10 n9 n8 n7 n6 n5 n4 n3 n2 n1 n0 H0 H1)) (f33 : n17 = 325) (f34 : n17 = hV H1 (n12).toNat 61) (f35 : n18 ≤ 60) (f36 : 0 ≤ n18) (f37 : n18 = hV H1 (n17).toNat (n9).toNat) (f38 : n0 < n18) (f39 : n19 ≤ 59) (f40 : (-1) ≤ n19) (f41 : (hLe T0 H1 H2 ∧ hFr s_248.2.2.2.2 H1 H2 ∧ ((0 : Int) = 0 → H2.length = H1.length) ∧ hWt T0 H2) ∧ True) (f42 : n19 = n2) (f43 : n1 = 0) (f44 : n6 = 0) (f45 : n20 = w32 (n0 - n2)) (f46 : n3 ≠ 0) (f47 : n21 = w32 (n0 - n2)) (f48 : n21 ≠ n20) (f49 : n22 = 0) (f50 : n23 = w32 (n6 + 1)) (f51 : n24 = w32 (n1 + 1)) (f52 : n25 = w32 (n0 + 1)) : Ab_298_69 n16 n15 n14 n13 n12 n11 n10 n9 n8 n7 n23 n5 n20 n22 n2 n24 n25 H0 H2 ∧ ∀ q, some q0 = some q → mub_298_69 n16 n15 n14 n13 n12 n11 n10 n9 n8 n7 n23 n5 n20 n22 n2 n24 n25 H0 H2 < q := by
  have g4 := f32.2.1.1
  unfold Ab_298_69 at g4
  have g3 := f32.2.1.2
  unfold preb_298 at g3
  have g5 := Option.some.inj f32.2.2
  unfold mub_298_69 at g5
  unfold Ab_298_69
  unfold mub_298_69
  have e0 : hV H1 325 = hV H0 325 := fRow f32.1.2.1 325 (by decide +kernel)
  have e1 : n18 = hV H0 325 (n9).toNat := (by rw [f33] at f37; exact f37 : n18 = hV H1 325 (n9).toNat).trans ((congrFun e0 _))
  have k0 := g4.1
  have k1 := g4.2.1
  have k2 := g4.2.2.1
  have y0 := g4.2.2.2.1
  have y1 := g4.2.2.2.2
  have p0 := g3.1
  have p1 := g3.2
  clear g3
  clear g4
  clear f34 f37 e0
  subst e1
  unfold w32 at *
  try (have ix0 : n20 = n0 - n2 := (by omega); subst ix0)
  try (have ix1 : n23 = n6 + 1 := (by omega); subst ix1)
  try (have ix2 : n24 = n1 + 1 := (by omega); subst ix2)
  try (have ix3 : n25 = n0 + 1 := (by omega); subst ix3)
  try subst k2
  try subst k1
  try subst k0
  refine ⟨?_, fun q hq => ?_⟩
  · refine ⟨?_, ?_, ?_, ?_, ?_⟩ <;> first | assumption | omega | trivial
  · have g6 := Option.some.inj hq
    subst g6
    omega
def g_298_69_30 : vG := ([(10, [25, 16], [], 1), (10, [24, 15], [], 1), (10, [23, 10], [], 1), (0, [22], [], 0), (41, [21, 20], [], 0), (2, [21, 16, 14], [], 0), (31, [13], [], 0), (2, [20, 16, 14], [], 0), (30, [10], [], 0), (30, [15], [], 0), (40, [19, 14], [], 0), (1248, [19, 4, 7, 16, 9], [1, 2], 0), (90, [19], [], -1), (91, [19], [], 59), (42, [16, 18], [], 0), (22, [18, 17, 7], [1], 0), (90, [18], [], 0), (91, [18], [], 60), (20, [17, 4], [1], 61), (0, [17], [], 325), (5000, [0, 1, 2, 3, 4, 5, 6, 7, 8, 9, 10, 11, 12, 13, 14, 15, 16], [0, 1], 69), (0, [0], [], 285), (90, [1], [], -2147483648), (91, [1], [], 2147483647), (90, [2], [], -2147483648), (91, [2], [], 2147483647), (90, [3], [], -2147483648), (91, [3], [], 2147483647), (0, [4], [], 285), (90, [5], [], -2147483648), (91, [5], [], 2147483647), (90, [6], [], -2147483648), (91, [6], [], 2147483647), (90, [7], [], -2147483648), (91, [7], [], 2147483647), (90, [8], [], -2147483648), (91, [8], [], 2147483647), (90, [9], [], 0), (91, [9], [], 5), (90, [10], [], -2147483648), (91, [10], [], 2147483647), (90, [11], [], -2147483648), (91, [11], [], 2147483647), (90, [12], [], -2147483648), (91, [12], [], 2147483647), (90, [13], [], -2147483648), (91, [13], [], 2147483647), (90, [14], [], 0), (91, [14], [], 59), (90, [15], [], -2147483648), (91, [15], [], 2147483647), (90, [16], [], 0), (91, [16], [], 60)], (4000, [4, 5, 6, 7, 8, 9, 23, 11, 20, 22, 14, 24, 25], [2], 69))
theorem c_298_69_30 {q0 : Nat} : vOkm T0 (eP e_298 L_298 A_298 mu_298 (some q0)) 4 g_298_69_30 := vOk_in fun ρ η h => by
  obtain ⟨f0, f1, f2, f3, f4, f5, f6, f7, f8, f9, f10, f11, f12, f13, f14, f15, f16, f17, f18, f19, f20, f21, f22, f23, f24, f25, f26, f27, f28, f29, f30, f31, f32, f33, f34, f35, f36, f37, f38, f39, f40, f41, f42, f43, f44, f45, f46, f47, f48, f49, f50, f51, f52, _⟩ := h
  exact q_298_35 (q0 := q0) (n0 := ρ 16) (n1 := ρ 15) (n2 := ρ 14) (n3 := ρ 13) (n4 := ρ 12) (n5 := ρ 11) (n6 := ρ 10) (n7 := ρ 9) (n8 := ρ 8) (n9 := ρ 7) (n10 := ρ 6) (n11 := ρ 5) (n12 := ρ 4) (n13 := ρ 3) (n14 := ρ 2) (n15 := ρ 1) (n16 := ρ 0) (n17 := ρ 17) (n18 := ρ 18) (n19 := ρ 19) (n20 := ρ 20) (n21 := ρ 21) (n22 := ρ 22) (n23 := ρ 23) (n24 := ρ 24) (n25 := ρ 25) (H0 := η 0) (H1 := η 1) (H2 := η 2) f52 f51 f50 f49 f48 f47 f46 f45 f44 f43 f42 f41 f40 f39 f38 f37 f36 f35 f34 f33 f32 f31 f30 f29 f28 f27 f26 f25 f24 f23 f22 f21 f20 f19 f18 f17 f16 f15 f14 f13 f12 f11 f10 f9 f8 f7 f6 f5 f4 f3 f2 f1 f0
def g_298_69_31 : vG := ([(10, [25, 16], [], 1), (40, [19, 14], [], 0), (90, [19], [], -1), (91, [19], [], 59), (42, [16, 18], [], 0), (91, [18], [], 60), (90, [16], [], 0)], (90, [25], [], 0))
theorem c_298_69_31 {q0 : Nat} : vOkm T0 (eP e_298 L_298 A_298 mu_298 (some q0)) 4 g_298_69_31 := vOk_in fun ρ η h => by
  obtain ⟨f0, f1, f2, f3, f4, f5, f6, _⟩ := h
  exact q_298_27 (q0 := q0) (n0 := ρ 16) (n1 := ρ 18) (n2 := ρ 19) (n3 := ρ 14) (n4 := ρ 25) (H0 := η 0) f6 f5 f4 f3 f2 f1 f0
def g_298_69_32 : vG := ([(10, [25, 16], [], 1), (40, [19, 14], [], 0), (90, [19], [], -1), (91, [19], [], 59), (42, [16, 18], [], 0), (91, [18], [], 60), (90, [16], [], 0)], (91, [25], [], 60))
theorem c_298_69_32 {q0 : Nat} : vOkm T0 (eP e_298 L_298 A_298 mu_298 (some q0)) 4 g_298_69_32 := vOk_in fun ρ η h => by
  obtain ⟨f0, f1, f2, f3, f4, f5, f6, _⟩ := h
  exact q_298_28 (q0 := q0) (n0 := ρ 16) (n1 := ρ 18) (n2 := ρ 19) (n3 := ρ 14) (n4 := ρ 25) (H0 := η 0) f6 f5 f4 f3 f2 f1 f0
theorem q_298_36 {q0 : Nat} {n0 n1 n2 n3 n4 n5 n6 n7 n8 n9 n10 n11 n12 n13 n14 n15 n16 n17 n18 n19 n20 n21 n22 n23 n24 n25 : Int} {H0 H1 H2 : gH} (f0 : n0 ≤ 60) (f1 : 0 ≤ n0) (f2 : n1 ≤ 2147483647) (f3 : (-2147483648) ≤ n1) (f4 : n2 ≤ 59) (f5 : 0 ≤ n2) (f6 : n3 ≤ 2147483647) (f7 : (-2147483648) ≤ n3) (f8 : n4 ≤ 2147483647) (f9 : (-2147483648) ≤ n4) (f10 : n5 ≤ 2147483647) (f11 : (-2147483648) ≤ n5) (f12 : n6 ≤ 2147483647) (f13 : (-2147483648) ≤ n6) (f14 : n7 ≤ 5) (f15 : 0 ≤ n7) (f16 : n8 ≤ 2147483647) (f17 : (-2147483648) ≤ n8) (f18 : n9 ≤ 2147483647) (f19 : (-2147483648) ≤ n9) (f20 : n10 ≤ 2147483647) (f21 : (-2147483648) ≤ n10) (f22 : n11 ≤ 2147483647) (f23 : (-2147483648) ≤ n11) (f24 : n12 = 285) (f25 : n13 ≤ 2147483647) (f26 : (-2147483648) ≤ n13) (f27 : n14 ≤ 2147483647) (f28 : (-2147483648) ≤ n14) (f29 : n15 ≤ 2147483647) (f30 : (-2147483648) ≤ n15) (f31 : n16 = 285) (f32 : (hLe T0 H0 H1 ∧ hFr s_298.2.2.2.2 H0 H1 ∧ hWt T0 H1) ∧ (Ab_298_69 n16 n15 n14 n13 n12 n11 n10 n9 n8 n7 n6 n5 n4 n3 n2 n1 n0 H0 H1 ∧ preb_298 n16 n15 n14 n13 H0) ∧ some q0 = some (mub_298_69 n16 n15 n14 n13 n12 n11 n10 n9 n8 n7 n6 n5 n4 n3 n2 n1 n0 H0 H1)) (f33 : n17 = 325) (f34 : n17 = hV H1 (n12).toNat 61) (f35 : n18 ≤ 60) (f36 : 0 ≤ n18) (f37 : n18 = hV H1 (n17).toNat (n9).toNat) (f38 : n0 < n18) (f39 : n19 ≤ 59) (f40 : (-1) ≤ n19) (f41 : (hLe T0 H1 H2 ∧ hFr s_248.2.2.2.2 H1 H2 ∧ ((0 : Int) = 0 → H2.length = H1.length) ∧ hWt T0 H2) ∧ True) (f42 : n19 = n2) (f43 : n1 = 0) (f44 : n6 = 0) (f45 : n20 = w32 (n0 - n2)) (f46 : n3 ≠ 0) (f47 : n21 = w32 (n0 - n2)) (f48 : n21 = n20) (f49 : n22 = 1) (f50 : n23 = w32 (n6 + 1)) (f51 : n24 = w32 (n1 + 1)) (f52 : n25 = w32 (n0 + 1)) : Ab_298_69 n16 n15 n14 n13 n12 n11 n10 n9 n8 n7 n23 n5 n20 n22 n2 n24 n25 H0 H2 ∧ ∀ q, some q0 = some q → mub_298_69 n16 n15 n14 n13 n12 n11 n10 n9 n8 n7 n23 n5 n20 n22 n2 n24 n25 H0 H2 < q := by
  have g4 := f32.2.1.1
  unfold Ab_298_69 at g4
  have g3 := f32.2.1.2
  unfold preb_298 at g3
  have g5 := Option.some.inj f32.2.2
  unfold mub_298_69 at g5
  unfold Ab_298_69
  unfold mub_298_69
  have e0 : hV H1 325 = hV H0 325 := fRow f32.1.2.1 325 (by decide +kernel)
  have e1 : n18 = hV H0 325 (n9).toNat := (by rw [f33] at f37; exact f37 : n18 = hV H1 325 (n9).toNat).trans ((congrFun e0 _))
  have k0 := g4.1
  have k1 := g4.2.1
  have k2 := g4.2.2.1
  have y0 := g4.2.2.2.1
  have y1 := g4.2.2.2.2
  have p0 := g3.1
  have p1 := g3.2
  clear g3
  clear g4
  clear f34 f37 e0
  subst e1
  unfold w32 at *
  try (have ix0 : n20 = n0 - n2 := (by omega); subst ix0)
  try (have ix1 : n23 = n6 + 1 := (by omega); subst ix1)
  try (have ix2 : n24 = n1 + 1 := (by omega); subst ix2)
  try (have ix3 : n25 = n0 + 1 := (by omega); subst ix3)
  try subst k2
  try subst k1
  try subst k0
  refine ⟨?_, fun q hq => ?_⟩
  · refine ⟨?_, ?_, ?_, ?_, ?_⟩ <;> first | assumption | omega | trivial
  · have g6 := Option.some.inj hq
    subst g6
    omega
def g_298_69_33 : vG := ([(10, [25, 16], [], 1), (10, [24, 15], [], 1), (10, [23, 10], [], 1), (0, [22], [], 1), (40, [21, 20], [], 0), (2, [21, 16, 14], [], 0), (31, [13], [], 0), (2, [20, 16, 14], [], 0), (30, [10], [], 0), (30, [15], [], 0), (40, [19, 14], [], 0), (1248, [19, 4, 7, 16, 9], [1, 2], 0), (90, [19], [], -1), (91, [19], [], 59), (42, [16, 18], [], 0), (22, [18, 17, 7], [1], 0), (90, [18], [], 0), (91, [18], [], 60), (20, [17, 4], [1], 61), (0, [17], [], 325), (5000, [0, 1, 2, 3, 4, 5, 6, 7, 8, 9, 10, 11, 12, 13, 14, 15, 16], [0, 1], 69), (0, [0], [], 285), (90, [1], [], -2147483648), (91, [1], [], 2147483647), (90, [2], [], -2147483648), (91, [2], [], 2147483647), (90, [3], [], -2147483648), (91, [3], [], 2147483647), (0, [4], [], 285), (90, [5], [], -2147483648), (91, [5], [], 2147483647), (90, [6], [], -2147483648), (91, [6], [], 2147483647), (90, [7], [], -2147483648), (91, [7], [], 2147483647), (90, [8], [], -2147483648), (91, [8], [], 2147483647), (90, [9], [], 0), (91, [9], [], 5), (90, [10], [], -2147483648), (91, [10], [], 2147483647), (90, [11], [], -2147483648), (91, [11], [], 2147483647), (90, [12], [], -2147483648), (91, [12], [], 2147483647), (90, [13], [], -2147483648), (91, [13], [], 2147483647), (90, [14], [], 0), (91, [14], [], 59), (90, [15], [], -2147483648), (91, [15], [], 2147483647), (90, [16], [], 0), (91, [16], [], 60)], (4000, [4, 5, 6, 7, 8, 9, 23, 11, 20, 22, 14, 24, 25], [2], 69))
theorem c_298_69_33 {q0 : Nat} : vOkm T0 (eP e_298 L_298 A_298 mu_298 (some q0)) 4 g_298_69_33 := vOk_in fun ρ η h => by
  obtain ⟨f0, f1, f2, f3, f4, f5, f6, f7, f8, f9, f10, f11, f12, f13, f14, f15, f16, f17, f18, f19, f20, f21, f22, f23, f24, f25, f26, f27, f28, f29, f30, f31, f32, f33, f34, f35, f36, f37, f38, f39, f40, f41, f42, f43, f44, f45, f46, f47, f48, f49, f50, f51, f52, _⟩ := h
  exact q_298_36 (q0 := q0) (n0 := ρ 16) (n1 := ρ 15) (n2 := ρ 14) (n3 := ρ 13) (n4 := ρ 12) (n5 := ρ 11) (n6 := ρ 10) (n7 := ρ 9) (n8 := ρ 8) (n9 := ρ 7) (n10 := ρ 6) (n11 := ρ 5) (n12 := ρ 4) (n13 := ρ 3) (n14 := ρ 2) (n15 := ρ 1) (n16 := ρ 0) (n17 := ρ 17) (n18 := ρ 18) (n19 := ρ 19) (n20 := ρ 20) (n21 := ρ 21) (n22 := ρ 22) (n23 := ρ 23) (n24 := ρ 24) (n25 := ρ 25) (H0 := η 0) (H1 := η 1) (H2 := η 2) f52 f51 f50 f49 f48 f47 f46 f45 f44 f43 f42 f41 f40 f39 f38 f37 f36 f35 f34 f33 f32 f31 f30 f29 f28 f27 f26 f25 f24 f23 f22 f21 f20 f19 f18 f17 f16 f15 f14 f13 f12 f11 f10 f9 f8 f7 f6 f5 f4 f3 f2 f1 f0
def g_298_69_34 : vG := ([(10, [20, 16], [], 1), (42, [16, 18], [], 0), (91, [18], [], 60), (90, [16], [], 0)], (90, [20], [], 0))
theorem c_298_69_34 {q0 : Nat} : vOkm T0 (eP e_298 L_298 A_298 mu_298 (some q0)) 4 g_298_69_34 := vOk_in fun ρ η h => by
  obtain ⟨f0, f1, f2, f3, _⟩ := h
  exact q_298_23 (q0 := q0) (n0 := ρ 16) (n1 := ρ 18) (n2 := ρ 20) (H0 := η 0) f3 f2 f1 f0
def g_298_69_35 : vG := ([(10, [20, 16], [], 1), (42, [16, 18], [], 0), (91, [18], [], 60), (90, [16], [], 0)], (91, [20], [], 60))
theorem c_298_69_35 {q0 : Nat} : vOkm T0 (eP e_298 L_298 A_298 mu_298 (some q0)) 4 g_298_69_35 := vOk_in fun ρ η h => by
  obtain ⟨f0, f1, f2, f3, _⟩ := h
  exact q_298_24 (q0 := q0) (n0 := ρ 16) (n1 := ρ 18) (n2 := ρ 20) (H0 := η 0) f3 f2 f1 f0
theorem q_298_37 {q0 : Nat} {n0 n1 n2 n3 n4 n5 n6 n7 n8 n9 n10 n11 n12 n13 n14 n15 n16 n17 n18 n19 n20 : Int} {H0 H1 H2 : gH} (f0 : n0 ≤ 60) (f1 : 0 ≤ n0) (f2 : n1 ≤ 2147483647) (f3 : (-2147483648) ≤ n1) (f4 : n2 ≤ 59) (f5 : 0 ≤ n2) (f6 : n3 ≤ 2147483647) (f7 : (-2147483648) ≤ n3) (f8 : n4 ≤ 2147483647) (f9 : (-2147483648) ≤ n4) (f10 : n5 ≤ 2147483647) (f11 : (-2147483648) ≤ n5) (f12 : n6 ≤ 2147483647) (f13 : (-2147483648) ≤ n6) (f14 : n7 ≤ 5) (f15 : 0 ≤ n7) (f16 : n8 ≤ 2147483647) (f17 : (-2147483648) ≤ n8) (f18 : n9 ≤ 2147483647) (f19 : (-2147483648) ≤ n9) (f20 : n10 ≤ 2147483647) (f21 : (-2147483648) ≤ n10) (f22 : n11 ≤ 2147483647) (f23 : (-2147483648) ≤ n11) (f24 : n12 = 285) (f25 : n13 ≤ 2147483647) (f26 : (-2147483648) ≤ n13) (f27 : n14 ≤ 2147483647) (f28 : (-2147483648) ≤ n14) (f29 : n15 ≤ 2147483647) (f30 : (-2147483648) ≤ n15) (f31 : n16 = 285) (f32 : (hLe T0 H0 H1 ∧ hFr s_298.2.2.2.2 H0 H1 ∧ hWt T0 H1) ∧ (Ab_298_69 n16 n15 n14 n13 n12 n11 n10 n9 n8 n7 n6 n5 n4 n3 n2 n1 n0 H0 H1 ∧ preb_298 n16 n15 n14 n13 H0) ∧ some q0 = some (mub_298_69 n16 n15 n14 n13 n12 n11 n10 n9 n8 n7 n6 n5 n4 n3 n2 n1 n0 H0 H1)) (f33 : n17 = 325) (f34 : n17 = hV H1 (n12).toNat 61) (f35 : n18 ≤ 60) (f36 : 0 ≤ n18) (f37 : n18 = hV H1 (n17).toNat (n9).toNat) (f38 : n0 < n18) (f39 : n19 ≤ 59) (f40 : (-1) ≤ n19) (f41 : (hLe T0 H1 H2 ∧ hFr s_248.2.2.2.2 H1 H2 ∧ ((0 : Int) = 0 → H2.length = H1.length) ∧ hWt T0 H2) ∧ True) (f42 : n19 ≠ n2) (f43 : n20 = w32 (n0 + 1)) : Ab_298_69 n16 n15 n14 n13 n12 n11 n10 n9 n8 n7 n6 n5 n4 n3 n2 n1 n20 H0 H2 ∧ ∀ q, some q0 = some q → mub_298_69 n16 n15 n14 n13 n12 n11 n10 n9 n8 n7 n6 n5 n4 n3 n2 n1 n20 H0 H2 < q := by
  have g4 := f32.2.1.1
  unfold Ab_298_69 at g4
  have g3 := f32.2.1.2
  unfold preb_298 at g3
  have g5 := Option.some.inj f32.2.2
  unfold mub_298_69 at g5
  unfold Ab_298_69
  unfold mub_298_69
  have e0 : hV H1 325 = hV H0 325 := fRow f32.1.2.1 325 (by decide +kernel)
  have e1 : n18 = hV H0 325 (n9).toNat := (by rw [f33] at f37; exact f37 : n18 = hV H1 325 (n9).toNat).trans ((congrFun e0 _))
  have k0 := g4.1
  have k1 := g4.2.1
  have k2 := g4.2.2.1
  have y0 := g4.2.2.2.1
  have y1 := g4.2.2.2.2
  have p0 := g3.1
  have p1 := g3.2
  clear g3
  clear g4
  clear f34 f37 e0
  subst e1
  unfold w32 at *
  try (have ix0 : n20 = n0 + 1 := (by omega); subst ix0)
  try subst k2
  try subst k1
  try subst k0
  refine ⟨?_, fun q hq => ?_⟩
  · refine ⟨?_, ?_, ?_, ?_, ?_⟩ <;> first | assumption | omega | trivial
  · have g6 := Option.some.inj hq
    subst g6
    omega
def g_298_69_36 : vG := ([(10, [20, 16], [], 1), (41, [19, 14], [], 0), (1248, [19, 4, 7, 16, 9], [1, 2], 0), (90, [19], [], -1), (91, [19], [], 59), (42, [16, 18], [], 0), (22, [18, 17, 7], [1], 0), (90, [18], [], 0), (91, [18], [], 60), (20, [17, 4], [1], 61), (0, [17], [], 325), (5000, [0, 1, 2, 3, 4, 5, 6, 7, 8, 9, 10, 11, 12, 13, 14, 15, 16], [0, 1], 69), (0, [0], [], 285), (90, [1], [], -2147483648), (91, [1], [], 2147483647), (90, [2], [], -2147483648), (91, [2], [], 2147483647), (90, [3], [], -2147483648), (91, [3], [], 2147483647), (0, [4], [], 285), (90, [5], [], -2147483648), (91, [5], [], 2147483647), (90, [6], [], -2147483648), (91, [6], [], 2147483647), (90, [7], [], -2147483648), (91, [7], [], 2147483647), (90, [8], [], -2147483648), (91, [8], [], 2147483647), (90, [9], [], 0), (91, [9], [], 5), (90, [10], [], -2147483648), (91, [10], [], 2147483647), (90, [11], [], -2147483648), (91, [11], [], 2147483647), (90, [12], [], -2147483648), (91, [12], [], 2147483647), (90, [13], [], -2147483648), (91, [13], [], 2147483647), (90, [14], [], 0), (91, [14], [], 59), (90, [15], [], -2147483648), (91, [15], [], 2147483647), (90, [16], [], 0), (91, [16], [], 60)], (4000, [4, 5, 6, 7, 8, 9, 10, 11, 12, 13, 14, 15, 20], [2], 69))
theorem c_298_69_36 {q0 : Nat} : vOkm T0 (eP e_298 L_298 A_298 mu_298 (some q0)) 4 g_298_69_36 := vOk_in fun ρ η h => by
  obtain ⟨f0, f1, f2, f3, f4, f5, f6, f7, f8, f9, f10, f11, f12, f13, f14, f15, f16, f17, f18, f19, f20, f21, f22, f23, f24, f25, f26, f27, f28, f29, f30, f31, f32, f33, f34, f35, f36, f37, f38, f39, f40, f41, f42, f43, _⟩ := h
  exact q_298_37 (q0 := q0) (n0 := ρ 16) (n1 := ρ 15) (n2 := ρ 14) (n3 := ρ 13) (n4 := ρ 12) (n5 := ρ 11) (n6 := ρ 10) (n7 := ρ 9) (n8 := ρ 8) (n9 := ρ 7) (n10 := ρ 6) (n11 := ρ 5) (n12 := ρ 4) (n13 := ρ 3) (n14 := ρ 2) (n15 := ρ 1) (n16 := ρ 0) (n17 := ρ 17) (n18 := ρ 18) (n19 := ρ 19) (n20 := ρ 20) (H0 := η 0) (H1 := η 1) (H2 := η 2) f43 f42 f41 f40 f39 f38 f37 f36 f35 f34 f33 f32 f31 f30 f29 f28 f27 f26 f25 f24 f23 f22 f21 f20 f19 f18 f17 f16 f15 f14 f13 f12 f11 f10 f9 f8 f7 f6 f5 f4 f3 f2 f1 f0
def p_298_69 : List vG := [g_298_69_0,
  g_298_69_1,
  g_298_69_2,
  g_298_69_3,
  g_298_69_4,
  g_298_69_5,
  g_298_69_6,
  g_298_69_7,
  g_298_69_8,
  g_298_69_9,
  g_298_69_10,
  g_298_69_11,
  g_298_69_12,
  g_298_69_13,
  g_298_69_14,
  g_298_69_15,
  g_298_69_16,
  g_298_69_17,
  g_298_69_18,
  g_298_69_19,
  g_298_69_20,
  g_298_69_21,
  g_298_69_22,
  g_298_69_23,
  g_298_69_24,
  g_298_69_25,
  g_298_69_26,
  g_298_69_27,
  g_298_69_28,
  g_298_69_29,
  g_298_69_30,
  g_298_69_31,
  g_298_69_32,
  g_298_69_33,
  g_298_69_34,
  g_298_69_35,
  g_298_69_36]
theorem r_298_69 : vCovO true (eRc e_298 L_298 cs_298 2000 (69, [(0, (3, 12, 285, 0)), (1, (0, -2147483648, 2147483647, 0)), (2, (0, -2147483648, 2147483647, 0)), (3, (0, -2147483648, 2147483647, 0)), (4, (0, -2147483648, 2147483647, 0)), (5, (0, 0, 5, 0)), (6, (0, -2147483648, 2147483647, 0)), (7, (0, -2147483648, 2147483647, 0)), (8, (0, -2147483648, 2147483647, 0)), (9, (0, -2147483648, 2147483647, 0)), (10, (0, 0, 59, 0)), (11, (0, -2147483648, 2147483647, 0)), (12, (0, 0, 60, 0))])) p_298_69 = true := by decide +kernel
theorem m_298 (d : Nat) : eC e_298 (d + 5) := eC_ok (e := e_298) (L := L_298) (cs := cs_298) (n := 2000) (d := d + 4) (A := A_298) (μ := mu_298) (tp := true) (p0 := p_298_s) rfl ⟨m_248 (d + 3), ⟨m_296 d, ⟨m_297 d, trivial⟩⟩⟩ rfl (.inl rfl) (by decide +kernel) (fun _ => post0_ok) r_298_s (allC c_298_s_0 (allC c_298_s_1 (allC c_298_s_2 (allC c_298_s_3 (allC c_298_s_4 (allC c_298_s_5 (allC c_298_s_6 (allC c_298_s_7 allN)))))))) (allC (.inl ⟨p_298_43, r_298_43, fun q0 => (allC c_298_43_0 (allC c_298_43_1 (allC c_298_43_2 (allC c_298_43_3 (allC c_298_43_4 (allC c_298_43_5 allN))))))⟩) (allC (.inl ⟨p_298_69, r_298_69, fun q0 => (allC c_298_69_0 (allC c_298_69_1 (allC c_298_69_2 (allC c_298_69_3 (allC c_298_69_4 (allC c_298_69_5 (allC c_298_69_6 (allC c_298_69_7 (allC c_298_69_8 (allC c_298_69_9 (allC c_298_69_10 (allC c_298_69_11 (allC c_298_69_12 (allC c_298_69_13 (allC c_298_69_14 (allC c_298_69_15 (allC c_298_69_16 (allC c_298_69_17 (allC c_298_69_18 (allC c_298_69_19 (allC c_298_69_20 (allC c_298_69_21 (allC c_298_69_22 (allC c_298_69_23 (allC c_298_69_24 (allC c_298_69_25 (allC c_298_69_26 (allC c_298_69_27 (allC c_298_69_28 (allC c_298_69_29 (allC c_298_69_30 (allC c_298_69_31 (allC c_298_69_32 (allC c_298_69_33 (allC c_298_69_34 (allC c_298_69_35 (allC c_298_69_36 allN)))))))))))))))))))))))))))))))))))))⟩) allN))
/- MixStageModel.goes (III)I -/
noncomputable def s_299 : vM := ([(3, 12, 285, 0), (0, -2147483648, 2147483647, 0), (0, -2147483648, 2147483647, 0), (0, -2147483648, 2147483647, 0)], (0, -2147483648, 2147483647, 0), 1, 0, [(12, 82), (12, 88), (572, 0), (580, 0), (588, 0), (596, 0), (604, 0), (612, 0), (679, 0)])
def preb_299 (a0 a1 a2 a3 : Int) (h : gH) : Prop := PG h ∧ SO h
def pre_299 : List Int → gH → Prop := fun xs h => match xs with
  | [a0, a1, a2, a3] => preb_299 a0 a1 a2 a3 h
  | _ => False
noncomputable def e_299 : vE := (299, s_299, pre_299, post0)
noncomputable def L_299 : List vE := [e_248, e_296, e_297]
def cs_299 : List vC := [(23, [(0, (3, 12, 285, 0)), (1, (0, -2147483648, 2147483647, 0)), (2, (0, -2147483648, 2147483647, 0)), (3, (0, -2147483648, 2147483647, 0)), (4, (0, -2147483648, 2147483647, 0)), (5, (0, 0, 60, 0))])]
def Ab_299_23 (a0 a1 a2 a3 x0 x1 x2 x3 x4 x5 : Int) (h0 h : gH) : Prop := x1 = a1 ∧ x2 = a2 ∧ x3 = a3 ∧ 0 ≤ a3 ∧ a3 ≤ 5 ∧ 0 ≤ a1 ∧ a1 ≤ 7
def mub_299_23 (a0 a1 a2 a3 x0 x1 x2 x3 x4 x5 : Int) (h0 h : gH) : Nat := (2147483648 - x5).toNat
def A_299 : Int → List Int → gH → gH → Prop := fun c xs h0 h => match c.toNat with
  | 23 => (match xs with
    | [a0, a1, a2, a3, x0, x1, x2, x3, x4, x5] => Ab_299_23 a0 a1 a2 a3 x0 x1 x2 x3 x4 x5 h0 h
    | _ => False)
  | _ => True
def mu_299 : Int → List Int → gH → gH → Nat := fun c xs h0 h => match c.toNat with
  | 23 => (match xs with
    | [a0, a1, a2, a3, x0, x1, x2, x3, x4, x5] => mub_299_23 a0 a1 a2 a3 x0 x1 x2 x3 x4 x5 h0 h
    | _ => 0)
  | _ => 0
theorem q_299_0 {n0 n1 n2 n3 : Int} {H0 : gH} (f0 : n0 ≤ 2147483647) (f1 : (-2147483648) ≤ n0) (f2 : n1 ≤ 2147483647) (f3 : (-2147483648) ≤ n1) (f4 : n2 ≤ 2147483647) (f5 : (-2147483648) ≤ n2) (f6 : n3 = 285) (f7 : hWt T0 H0 ∧ preb_299 n3 n2 n1 n0 H0) : preb_297 n3 n2 n1 n0 H0 := by
  unfold preb_299 at f7
  unfold preb_297
  have p0 := f7.2.1
  have p1 := f7.2.2
  try obtain ⟨w0, w1, w2, w3, w4, w5, w6, w7⟩ := r0_0 (by omega)
  first | assumption | omega | trivial
def g_299_s_0 : vG := ([(6000, [0, 1, 2, 3], [0], 0), (0, [0], [], 285), (90, [1], [], -2147483648), (91, [1], [], 2147483647), (90, [2], [], -2147483648), (91, [2], [], 2147483647), (90, [3], [], -2147483648), (91, [3], [], 2147483647)], (2297, [0, 1, 2, 3], [0], 0))
theorem c_299_s_0 : vOkm T0 (eP e_299 L_299 A_299 mu_299 none) 4 g_299_s_0 := vOk_in fun ρ η h => by
  obtain ⟨f0, f1, f2, f3, f4, f5, f6, f7, _⟩ := h
  exact q_299_0 (n0 := ρ 3) (n1 := ρ 2) (n2 := ρ 1) (n3 := ρ 0) (H0 := η 0) f7 f6 f5 f4 f3 f2 f1 f0
theorem q_299_1 {n0 n1 n2 n3 n4 : Int} {H0 H1 : gH} (f0 : n0 = 285) (f1 : (hLe T0 H0 H1 ∧ hFr s_297.2.2.2.2 H0 H1 ∧ ((0 : Int) = 0 → H1.length = H0.length) ∧ hWt T0 H1) ∧ postb_297 n1 n0 n2 n3 n4 H0 H1) (f2 : n1 ≠ 0) : 0 ≤ n2 := by
  unfold postb_297 at f1
  have e0 : hV H1 285 18 = hV H0 285 18 := f1.1.2.1.1 285 18 (by decide +kernel)
  have e1 : hV H1 285 18 = hV H0 285 18 := e0
  have e2 : hV H1 285 60 = hV H0 285 60 := f1.1.2.1.1 285 60 (by decide +kernel)
  have e3 : hV H1 285 60 = hV H0 285 60 := e2
  have e4 : hV H1 298 = hV H0 298 := fRow f1.1.2.1 298 (by decide +kernel)
  have e5 : (0 : Int) ≤ hV H1 285 18 ∧ hV H1 285 18 ≤ 8 := f1.1.2.2.2 285 18 _ _ (by decide +kernel)
  have e6 : (1 : Int) ≤ hV H1 285 60 ∧ hV H1 285 60 ≤ 6 := f1.1.2.2.2 285 60 _ _ (by decide +kernel)
  have e7 : (0 : Int) ≤ hV H1 285 82 ∧ hV H1 285 82 ≤ 40 := f1.1.2.2.2 285 82 _ _ (by decide +kernel)
  try simp only [e1, e3, e4] at f1
  try simp only [e1, e3, e4] at e5
  try simp only [e1, e3, e4] at e6
  try simp only [e1, e3, e4] at e7
  try simp only [e1, e3, e4]
  have r0_0 := f1.2
  try simp only [e1, e3, e4] at r0_0
  clear e0 e1 e2 e3 e4
  omega
def g_299_s_1 : vG := ([(31, [4], [], 0), (1297, [4, 0, 1, 2, 3], [0, 1], 0), (0, [0], [], 285)], (90, [1], [], 0))
theorem c_299_s_1 : vOkm T0 (eP e_299 L_299 A_299 mu_299 none) 4 g_299_s_1 := vOk_in fun ρ η h => by
  obtain ⟨f0, f1, f2, _⟩ := h
  exact q_299_1 (n0 := ρ 0) (n1 := ρ 4) (n2 := ρ 1) (n3 := ρ 2) (n4 := ρ 3) (H0 := η 0) (H1 := η 1) f2 f1 f0
theorem q_299_2 {n0 n1 n2 n3 n4 : Int} {H0 H1 : gH} (f0 : n0 = 285) (f1 : hWt T0 H0 ∧ preb_299 n0 n1 n2 n3 H0) (f2 : (hLe T0 H0 H1 ∧ hFr s_297.2.2.2.2 H0 H1 ∧ ((0 : Int) = 0 → H1.length = H0.length) ∧ hWt T0 H1) ∧ postb_297 n4 n0 n1 n2 n3 H0 H1) (f3 : n4 ≠ 0) : n1 ≤ 7 := by
  unfold preb_299 at f1
  unfold postb_297 at f2
  have e0 : hV H1 285 18 = hV H0 285 18 := f2.1.2.1.1 285 18 (by decide +kernel)
  have e1 : hV H1 285 18 = hV H0 285 18 := e0
  have e2 : hV H1 285 60 = hV H0 285 60 := f2.1.2.1.1 285 60 (by decide +kernel)
  have e3 : hV H1 285 60 = hV H0 285 60 := e2
  have e4 : hV H1 298 = hV H0 298 := fRow f2.1.2.1 298 (by decide +kernel)
  have e5 : (0 : Int) ≤ hV H1 285 18 ∧ hV H1 285 18 ≤ 8 := f2.1.2.2.2 285 18 _ _ (by decide +kernel)
  have e6 : (0 : Int) ≤ hV H0 285 18 ∧ hV H0 285 18 ≤ 8 := f1.1 285 18 _ _ (by decide +kernel)
  have e7 : (1 : Int) ≤ hV H1 285 60 ∧ hV H1 285 60 ≤ 6 := f2.1.2.2.2 285 60 _ _ (by decide +kernel)
  have e8 : (1 : Int) ≤ hV H0 285 60 ∧ hV H0 285 60 ≤ 6 := f1.1 285 60 _ _ (by decide +kernel)
  have e9 : (0 : Int) ≤ hV H1 285 82 ∧ hV H1 285 82 ≤ 40 := f2.1.2.2.2 285 82 _ _ (by decide +kernel)
  try simp only [e1, e3, e4] at f1
  try simp only [e1, e3, e4] at f2
  try simp only [e1, e3, e4] at e5
  try simp only [e1, e3, e4] at e6
  try simp only [e1, e3, e4] at e7
  try simp only [e1, e3, e4] at e8
  try simp only [e1, e3, e4] at e9
  try simp only [e1, e3, e4]
  have p0 := f1.2.1
  have p1 := f1.2.2
  have r0_0 := f2.2
  try simp only [e1, e3, e4] at p0
  try simp only [e1, e3, e4] at p1
  try simp only [e1, e3, e4] at r0_0
  clear e0 e1 e2 e3 e4
  omega
def g_299_s_2 : vG := ([(31, [4], [], 0), (1297, [4, 0, 1, 2, 3], [0, 1], 0), (6000, [0, 1, 2, 3], [0], 0), (0, [0], [], 285)], (91, [1], [], 7))
theorem c_299_s_2 : vOkm T0 (eP e_299 L_299 A_299 mu_299 none) 4 g_299_s_2 := vOk_in fun ρ η h => by
  obtain ⟨f0, f1, f2, f3, _⟩ := h
  exact q_299_2 (n0 := ρ 0) (n1 := ρ 1) (n2 := ρ 2) (n3 := ρ 3) (n4 := ρ 4) (H0 := η 0) (H1 := η 1) f3 f2 f1 f0
theorem q_299_3 {n0 n1 n2 n3 n4 : Int} {H0 H1 : gH} (f0 : n0 = 285) (f1 : (hLe T0 H0 H1 ∧ hFr s_297.2.2.2.2 H0 H1 ∧ ((0 : Int) = 0 → H1.length = H0.length) ∧ hWt T0 H1) ∧ postb_297 n1 n0 n2 n3 n4 H0 H1) (f2 : n1 ≠ 0) : 0 ≤ n3 := by
  unfold postb_297 at f1
  have e0 : hV H1 285 18 = hV H0 285 18 := f1.1.2.1.1 285 18 (by decide +kernel)
  have e1 : hV H1 285 18 = hV H0 285 18 := e0
  have e2 : hV H1 285 60 = hV H0 285 60 := f1.1.2.1.1 285 60 (by decide +kernel)
  have e3 : hV H1 285 60 = hV H0 285 60 := e2
  have e4 : hV H1 298 = hV H0 298 := fRow f1.1.2.1 298 (by decide +kernel)
  have e5 : (0 : Int) ≤ hV H1 285 18 ∧ hV H1 285 18 ≤ 8 := f1.1.2.2.2 285 18 _ _ (by decide +kernel)
  have e6 : (1 : Int) ≤ hV H1 285 60 ∧ hV H1 285 60 ≤ 6 := f1.1.2.2.2 285 60 _ _ (by decide +kernel)
  have e7 : (0 : Int) ≤ hV H1 285 82 ∧ hV H1 285 82 ≤ 40 := f1.1.2.2.2 285 82 _ _ (by decide +kernel)
  try simp only [e1, e3, e4] at f1
  try simp only [e1, e3, e4] at e5
  try simp only [e1, e3, e4] at e6
  try simp only [e1, e3, e4] at e7
  try simp only [e1, e3, e4]
  have r0_0 := f1.2
  try simp only [e1, e3, e4] at r0_0
  clear e0 e1 e2 e3 e4
  omega
def g_299_s_3 : vG := ([(31, [4], [], 0), (1297, [4, 0, 1, 2, 3], [0, 1], 0), (0, [0], [], 285)], (90, [2], [], 0))
theorem c_299_s_3 : vOkm T0 (eP e_299 L_299 A_299 mu_299 none) 4 g_299_s_3 := vOk_in fun ρ η h => by
  obtain ⟨f0, f1, f2, _⟩ := h
  exact q_299_3 (n0 := ρ 0) (n1 := ρ 4) (n2 := ρ 1) (n3 := ρ 2) (n4 := ρ 3) (H0 := η 0) (H1 := η 1) f2 f1 f0
theorem q_299_4 {n0 n1 n2 n3 n4 : Int} {H0 H1 : gH} (f0 : n0 = 285) (f1 : (hLe T0 H0 H1 ∧ hFr s_297.2.2.2.2 H0 H1 ∧ ((0 : Int) = 0 → H1.length = H0.length) ∧ hWt T0 H1) ∧ postb_297 n1 n0 n2 n3 n4 H0 H1) (f2 : n1 ≠ 0) : n3 ≤ 39 := by
  unfold postb_297 at f1
  have e0 : hV H1 285 18 = hV H0 285 18 := f1.1.2.1.1 285 18 (by decide +kernel)
  have e1 : hV H1 285 18 = hV H0 285 18 := e0
  have e2 : hV H1 285 60 = hV H0 285 60 := f1.1.2.1.1 285 60 (by decide +kernel)
  have e3 : hV H1 285 60 = hV H0 285 60 := e2
  have e4 : hV H1 298 = hV H0 298 := fRow f1.1.2.1 298 (by decide +kernel)
  have e5 : (0 : Int) ≤ hV H1 285 18 ∧ hV H1 285 18 ≤ 8 := f1.1.2.2.2 285 18 _ _ (by decide +kernel)
  have e6 : (1 : Int) ≤ hV H1 285 60 ∧ hV H1 285 60 ≤ 6 := f1.1.2.2.2 285 60 _ _ (by decide +kernel)
  have e7 : (0 : Int) ≤ hV H1 285 82 ∧ hV H1 285 82 ≤ 40 := f1.1.2.2.2 285 82 _ _ (by decide +kernel)
  try simp only [e1, e3, e4] at f1
  try simp only [e1, e3, e4] at e5
  try simp only [e1, e3, e4] at e6
  try simp only [e1, e3, e4] at e7
  try simp only [e1, e3, e4]
  have r0_0 := f1.2
  try simp only [e1, e3, e4] at r0_0
  clear e0 e1 e2 e3 e4
  omega
def g_299_s_4 : vG := ([(31, [4], [], 0), (1297, [4, 0, 1, 2, 3], [0, 1], 0), (0, [0], [], 285)], (91, [2], [], 39))
theorem c_299_s_4 : vOkm T0 (eP e_299 L_299 A_299 mu_299 none) 4 g_299_s_4 := vOk_in fun ρ η h => by
  obtain ⟨f0, f1, f2, _⟩ := h
  exact q_299_4 (n0 := ρ 0) (n1 := ρ 4) (n2 := ρ 1) (n3 := ρ 2) (n4 := ρ 3) (H0 := η 0) (H1 := η 1) f2 f1 f0
theorem q_299_5 {n0 n1 n2 n3 n4 : Int} {H0 H1 : gH} (f0 : n0 ≤ 2147483647) (f1 : (-2147483648) ≤ n0) (f2 : n1 ≤ 2147483647) (f3 : (-2147483648) ≤ n1) (f4 : n2 ≤ 2147483647) (f5 : (-2147483648) ≤ n2) (f6 : n3 = 285) (f7 : hWt T0 H0 ∧ preb_299 n3 n2 n1 n0 H0) (f8 : n4 ≤ 1) (f9 : 0 ≤ n4) (f10 : (hLe T0 H0 H1 ∧ hFr s_297.2.2.2.2 H0 H1 ∧ ((0 : Int) = 0 → H1.length = H0.length) ∧ hWt T0 H1) ∧ postb_297 n4 n3 n2 n1 n0 H0 H1) (f11 : n4 ≠ 0) : preb_296 n3 n2 n1 H1 := by
  unfold preb_299 at f7
  unfold postb_297 at f10
  unfold preb_296
  have e0 : hV H1 285 18 = hV H0 285 18 := f10.1.2.1.1 285 18 (by decide +kernel)
  have e1 : hV H1 285 18 = hV H0 285 18 := e0
  have e2 : hV H1 285 60 = hV H0 285 60 := f10.1.2.1.1 285 60 (by decide +kernel)
  have e3 : hV H1 285 60 = hV H0 285 60 := e2
  have e4 : hV H1 298 = hV H0 298 := fRow f10.1.2.1 298 (by decide +kernel)
  have e5 : SO H1 = SO H0 := SO_fr f10.1.2.1 (by decide +kernel)
  have e6 : (0 : Int) ≤ hV H1 285 18 ∧ hV H1 285 18 ≤ 8 := f10.1.2.2.2 285 18 _ _ (by decide +kernel)
  have e7 : (0 : Int) ≤ hV H0 285 18 ∧ hV H0 285 18 ≤ 8 := f7.1 285 18 _ _ (by decide +kernel)
  have e8 : (1 : Int) ≤ hV H1 285 60 ∧ hV H1 285 60 ≤ 6 := f10.1.2.2.2 285 60 _ _ (by decide +kernel)
  have e9 : (1 : Int) ≤ hV H0 285 60 ∧ hV H0 285 60 ≤ 6 := f7.1 285 60 _ _ (by decide +kernel)
  have e10 : (0 : Int) ≤ hV H1 285 82 ∧ hV H1 285 82 ≤ 40 := f10.1.2.2.2 285 82 _ _ (by decide +kernel)
  try simp only [e1, e3, e4, e5] at f7
  try simp only [e1, e3, e4, e5] at f10
  try simp only [e1, e3, e4, e5] at e6
  try simp only [e1, e3, e4, e5] at e7
  try simp only [e1, e3, e4, e5] at e8
  try simp only [e1, e3, e4, e5] at e9
  try simp only [e1, e3, e4, e5] at e10
  try simp only [e1, e3, e4, e5]
  have p0 := f7.2.1
  have p1 := f7.2.2
  have r0_0 := f10.2
  try simp only [e1, e3, e4, e5] at p0
  try simp only [e1, e3, e4, e5] at p1
  try simp only [e1, e3, e4, e5] at r0_0
  clear e0 e1 e2 e3 e4 e5
  try obtain ⟨w0, w1, w2, w3, w4, w5, w6, w7⟩ := r0_0 (by omega)
  refine ⟨?_, ?_, ?_, ?_⟩ <;> first | assumption | omega | trivial
def g_299_s_5 : vG := ([(31, [4], [], 0), (1297, [4, 0, 1, 2, 3], [0, 1], 0), (90, [4], [], 0), (91, [4], [], 1), (6000, [0, 1, 2, 3], [0], 0), (0, [0], [], 285), (90, [1], [], -2147483648), (91, [1], [], 2147483647), (90, [2], [], -2147483648), (91, [2], [], 2147483647), (90, [3], [], -2147483648), (91, [3], [], 2147483647)], (2296, [0, 1, 2], [1], 0))
theorem c_299_s_5 : vOkm T0 (eP e_299 L_299 A_299 mu_299 none) 4 g_299_s_5 := vOk_in fun ρ η h => by
  obtain ⟨f0, f1, f2, f3, f4, f5, f6, f7, f8, f9, f10, f11, _⟩ := h
  exact q_299_5 (n0 := ρ 3) (n1 := ρ 2) (n2 := ρ 1) (n3 := ρ 0) (n4 := ρ 4) (H0 := η 0) (H1 := η 1) f11 f10 f9 f8 f7 f6 f5 f4 f3 f2 f1 f0
theorem q_299_6 {n0 n1 n2 n3 n4 n5 n6 : Int} {H0 H1 H2 : gH} (f0 : n0 = 285) (f1 : hWt T0 H0 ∧ preb_299 n0 n1 n2 n3 H0) (f2 : (hLe T0 H0 H1 ∧ hFr s_297.2.2.2.2 H0 H1 ∧ ((0 : Int) = 0 → H1.length = H0.length) ∧ hWt T0 H1) ∧ postb_297 n4 n0 n1 n2 n3 H0 H1) (f3 : n4 ≠ 0) (f4 : n5 = 0) : Ab_299_23 n0 n1 n2 n3 n0 n1 n2 n3 n6 n5 H0 H2 ∧ ∀ q, none = some q → mub_299_23 n0 n1 n2 n3 n0 n1 n2 n3 n6 n5 H0 H2 < q := by
  unfold preb_299 at f1
  unfold postb_297 at f2
  unfold Ab_299_23
  have e0 : hV H1 285 18 = hV H0 285 18 := f2.1.2.1.1 285 18 (by decide +kernel)
  have e1 : hV H1 285 18 = hV H0 285 18 := e0
  have e2 : hV H1 285 60 = hV H0 285 60 := f2.1.2.1.1 285 60 (by decide +kernel)
  have e3 : hV H1 285 60 = hV H0 285 60 := e2
  have e4 : hV H1 298 = hV H0 298 := fRow f2.1.2.1 298 (by decide +kernel)
  have e5 : (0 : Int) ≤ hV H1 285 18 ∧ hV H1 285 18 ≤ 8 := f2.1.2.2.2 285 18 _ _ (by decide +kernel)
  have e6 : (0 : Int) ≤ hV H0 285 18 ∧ hV H0 285 18 ≤ 8 := f1.1 285 18 _ _ (by decide +kernel)
  have e7 : (1 : Int) ≤ hV H1 285 60 ∧ hV H1 285 60 ≤ 6 := f2.1.2.2.2 285 60 _ _ (by decide +kernel)
  have e8 : (1 : Int) ≤ hV H0 285 60 ∧ hV H0 285 60 ≤ 6 := f1.1 285 60 _ _ (by decide +kernel)
  have e9 : (0 : Int) ≤ hV H1 285 82 ∧ hV H1 285 82 ≤ 40 := f2.1.2.2.2 285 82 _ _ (by decide +kernel)
  try simp only [e1, e3, e4] at f1
  try simp only [e1, e3, e4] at f2
  try simp only [e1, e3, e4] at e5
  try simp only [e1, e3, e4] at e6
  try simp only [e1, e3, e4] at e7
  try simp only [e1, e3, e4] at e8
  try simp only [e1, e3, e4] at e9
  try simp only [e1, e3, e4]
  have p0 := f1.2.1
  have p1 := f1.2.2
  have r0_0 := f2.2
  try simp only [e1, e3, e4] at p0
  try simp only [e1, e3, e4] at p1
  try simp only [e1, e3, e4] at r0_0
  clear e0 e1 e2 e3 e4
  refine ⟨?_, fun q hq => ?_⟩
  · refine ⟨?_, ?_, ?_, ?_, ?_, ?_, ?_⟩ <;> first | assumption | omega | trivial
  · exact nomatch hq
def g_299_s_6 : vG := ([(0, [6], [], 0), (31, [4], [], 0), (1297, [4, 0, 1, 2, 3], [0, 1], 0), (6000, [0, 1, 2, 3], [0], 0), (0, [0], [], 285)], (4000, [0, 1, 2, 3, 5, 6], [2], 23))
theorem c_299_s_6 : vOkm T0 (eP e_299 L_299 A_299 mu_299 none) 4 g_299_s_6 := vOk_in fun ρ η h => by
  obtain ⟨f0, f1, f2, f3, f4, _⟩ := h
  exact q_299_6 (n0 := ρ 0) (n1 := ρ 1) (n2 := ρ 2) (n3 := ρ 3) (n4 := ρ 4) (n5 := ρ 6) (n6 := ρ 5) (H0 := η 0) (H1 := η 1) (H2 := η 2) f4 f3 f2 f1 f0
def p_299_s : List vG := [g_299_s_0,
  g_299_s_1,
  g_299_s_2,
  g_299_s_3,
  g_299_s_4,
  g_299_s_5,
  g_299_s_6]
theorem r_299_s : vCovO true (eR0 e_299 L_299 cs_299 2000) p_299_s = true := by decide +kernel
theorem q_299_7 {q0 : Nat} {n0 n1 n2 n3 n4 n5 n6 n7 n8 n9 : Int} {H0 H1 : gH} (f0 : n0 = 285) (f1 : n1 = 285) (f2 : (hLe T0 H0 H1 ∧ hFr s_299.2.2.2.2 H0 H1 ∧ hWt T0 H1) ∧ (Ab_299_23 n1 n2 n3 n4 n0 n5 n6 n7 n8 n9 H0 H1 ∧ preb_299 n1 n2 n3 n4 H0) ∧ some q0 = some (mub_299_23 n1 n2 n3 n4 n0 n5 n6 n7 n8 n9 H0 H1)) : 0 ≤ n7 ∧ n7 < 6 := by
  have g4 := f2.2.1.1
  unfold Ab_299_23 at g4
  have g3 := f2.2.1.2
  unfold preb_299 at g3
  have k0 := g4.1
  have k1 := g4.2.1
  have k2 := g4.2.2.1
  have y0 := g4.2.2.2.1
  have y1 := g4.2.2.2.2.1
  have y2 := g4.2.2.2.2.2.1
  have y3 := g4.2.2.2.2.2.2
  have p0 := g3.1
  have p1 := g3.2
  clear g3
  clear g4
  try subst k2
  try subst k1
  try subst k0
  omega
def g_299_23_0 : vG := ([(5000, [0, 1, 2, 3, 4, 5, 6, 7, 8, 9], [0, 1], 23), (0, [0], [], 285), (0, [4], [], 285)], (70, [7], [], 6))
theorem c_299_23_0 {q0 : Nat} : vOkm T0 (eP e_299 L_299 A_299 mu_299 (some q0)) 4 g_299_23_0 := vOk_in fun ρ η h => by
  obtain ⟨f0, f1, f2, _⟩ := h
  exact q_299_7 (q0 := q0) (n0 := ρ 4) (n1 := ρ 0) (n2 := ρ 1) (n3 := ρ 2) (n4 := ρ 3) (n5 := ρ 5) (n6 := ρ 6) (n7 := ρ 7) (n8 := ρ 8) (n9 := ρ 9) (H0 := η 0) (H1 := η 1) f2 f1 f0
theorem q_299_8 {q0 : Nat} {n0 n1 n2 n3 n4 n5 n6 n7 n8 n9 : Int} {H0 H1 : gH} (f0 : n0 = 285) (f1 : n1 = 285) (f2 : (hLe T0 H0 H1 ∧ hFr s_299.2.2.2.2 H0 H1 ∧ hWt T0 H1) ∧ (Ab_299_23 n1 n2 n3 n4 n0 n5 n6 n7 n8 n9 H0 H1 ∧ preb_299 n1 n2 n3 n4 H0) ∧ some q0 = some (mub_299_23 n1 n2 n3 n4 n0 n5 n6 n7 n8 n9 H0 H1)) : 0 ≤ n5 ∧ n5 < 9 := by
  have g4 := f2.2.1.1
  unfold Ab_299_23 at g4
  have g3 := f2.2.1.2
  unfold preb_299 at g3
  have k0 := g4.1
  have k1 := g4.2.1
  have k2 := g4.2.2.1
  have y0 := g4.2.2.2.1
  have y1 := g4.2.2.2.2.1
  have y2 := g4.2.2.2.2.2.1
  have y3 := g4.2.2.2.2.2.2
  have p0 := g3.1
  have p1 := g3.2
  clear g3
  clear g4
  try subst k2
  try subst k1
  try subst k0
  omega
def g_299_23_1 : vG := ([(5000, [0, 1, 2, 3, 4, 5, 6, 7, 8, 9], [0, 1], 23), (0, [0], [], 285), (0, [4], [], 285)], (70, [5], [], 9))
theorem c_299_23_1 {q0 : Nat} : vOkm T0 (eP e_299 L_299 A_299 mu_299 (some q0)) 4 g_299_23_1 := vOk_in fun ρ η h => by
  obtain ⟨f0, f1, f2, _⟩ := h
  exact q_299_8 (q0 := q0) (n0 := ρ 4) (n1 := ρ 0) (n2 := ρ 1) (n3 := ρ 2) (n4 := ρ 3) (n5 := ρ 5) (n6 := ρ 6) (n7 := ρ 7) (n8 := ρ 8) (n9 := ρ 9) (H0 := η 0) (H1 := η 1) f2 f1 f0
theorem q_299_9 {q0 : Nat} {n0 n1 n2 n3 n4 n5 n6 n7 n8 n9 : Int} {H0 H1 : gH} (f0 : n0 = 285) (f1 : n1 = 285) (f2 : (hLe T0 H0 H1 ∧ hFr s_299.2.2.2.2 H0 H1 ∧ hWt T0 H1) ∧ (Ab_299_23 n1 n2 n3 n4 n0 n5 n6 n7 n8 n9 H0 H1 ∧ preb_299 n1 n2 n3 n4 H0) ∧ some q0 = some (mub_299_23 n1 n2 n3 n4 n0 n5 n6 n7 n8 n9 H0 H1)) : 0 ≤ n7 := by
  have g4 := f2.2.1.1
  unfold Ab_299_23 at g4
  have g3 := f2.2.1.2
  unfold preb_299 at g3
  have k0 := g4.1
  have k1 := g4.2.1
  have k2 := g4.2.2.1
  have y0 := g4.2.2.2.1
  have y1 := g4.2.2.2.2.1
  have y2 := g4.2.2.2.2.2.1
  have y3 := g4.2.2.2.2.2.2
  have p0 := g3.1
  have p1 := g3.2
  clear g3
  clear g4
  try subst k2
  try subst k1
  try subst k0
  omega
def g_299_23_2 : vG := ([(5000, [0, 1, 2, 3, 4, 5, 6, 7, 8, 9], [0, 1], 23), (0, [0], [], 285), (0, [4], [], 285)], (90, [7], [], 0))
theorem c_299_23_2 {q0 : Nat} : vOkm T0 (eP e_299 L_299 A_299 mu_299 (some q0)) 4 g_299_23_2 := vOk_in fun ρ η h => by
  obtain ⟨f0, f1, f2, _⟩ := h
  exact q_299_9 (q0 := q0) (n0 := ρ 4) (n1 := ρ 0) (n2 := ρ 1) (n3 := ρ 2) (n4 := ρ 3) (n5 := ρ 5) (n6 := ρ 6) (n7 := ρ 7) (n8 := ρ 8) (n9 := ρ 9) (H0 := η 0) (H1 := η 1) f2 f1 f0
theorem q_299_10 {q0 : Nat} {n0 n1 n2 n3 n4 n5 n6 n7 n8 n9 : Int} {H0 H1 : gH} (f0 : n0 = 285) (f1 : n1 = 285) (f2 : (hLe T0 H0 H1 ∧ hFr s_299.2.2.2.2 H0 H1 ∧ hWt T0 H1) ∧ (Ab_299_23 n1 n2 n3 n4 n0 n5 n6 n7 n8 n9 H0 H1 ∧ preb_299 n1 n2 n3 n4 H0) ∧ some q0 = some (mub_299_23 n1 n2 n3 n4 n0 n5 n6 n7 n8 n9 H0 H1)) : n7 ≤ 5 := by
  have g4 := f2.2.1.1
  unfold Ab_299_23 at g4
  have g3 := f2.2.1.2
  unfold preb_299 at g3
  have k0 := g4.1
  have k1 := g4.2.1
  have k2 := g4.2.2.1
  have y0 := g4.2.2.2.1
  have y1 := g4.2.2.2.2.1
  have y2 := g4.2.2.2.2.2.1
  have y3 := g4.2.2.2.2.2.2
  have p0 := g3.1
  have p1 := g3.2
  clear g3
  clear g4
  try subst k2
  try subst k1
  try subst k0
  omega
def g_299_23_3 : vG := ([(5000, [0, 1, 2, 3, 4, 5, 6, 7, 8, 9], [0, 1], 23), (0, [0], [], 285), (0, [4], [], 285)], (91, [7], [], 5))
theorem c_299_23_3 {q0 : Nat} : vOkm T0 (eP e_299 L_299 A_299 mu_299 (some q0)) 4 g_299_23_3 := vOk_in fun ρ η h => by
  obtain ⟨f0, f1, f2, _⟩ := h
  exact q_299_10 (q0 := q0) (n0 := ρ 4) (n1 := ρ 0) (n2 := ρ 1) (n3 := ρ 2) (n4 := ρ 3) (n5 := ρ 5) (n6 := ρ 6) (n7 := ρ 7) (n8 := ρ 8) (n9 := ρ 9) (H0 := η 0) (H1 := η 1) f2 f1 f0
theorem q_299_11 {q0 : Nat} {n0 n1 : Int} {H0 : gH} (f0 : n0 ≤ 60) (f1 : n1 < n0) : n1 ≤ 59 := by
  omega
def g_299_23_4 : vG := ([(42, [9, 11], [], 0), (91, [11], [], 60)], (91, [9], [], 59))
theorem c_299_23_4 {q0 : Nat} : vOkm T0 (eP e_299 L_299 A_299 mu_299 (some q0)) 4 g_299_23_4 := vOk_in fun ρ η h => by
  obtain ⟨f0, f1, _⟩ := h
  exact q_299_11 (q0 := q0) (n0 := ρ 11) (n1 := ρ 9) (H0 := η 0) f1 f0
theorem q_299_12 {q0 : Nat} {n0 n1 n2 : Int} {H0 : gH} (f0 : 0 ≤ n0) (f1 : n1 ≤ 60) (f2 : n0 < n1) (f3 : n2 = w32 (n0 + 1)) : 0 ≤ n2 := by
  unfold w32 at *
  try (have ix0 : n2 = n0 + 1 := (by omega); subst ix0)
  omega
def g_299_23_5 : vG := ([(10, [16, 9], [], 1), (42, [9, 11], [], 0), (91, [11], [], 60), (90, [9], [], 0)], (90, [16], [], 0))
theorem c_299_23_5 {q0 : Nat} : vOkm T0 (eP e_299 L_299 A_299 mu_299 (some q0)) 4 g_299_23_5 := vOk_in fun ρ η h => by
  obtain ⟨f0, f1, f2, f3, _⟩ := h
  exact q_299_12 (q0 := q0) (n0 := ρ 9) (n1 := ρ 11) (n2 := ρ 16) (H0 := η 0) f3 f2 f1 f0
theorem q_299_13 {q0 : Nat} {n0 n1 n2 : Int} {H0 : gH} (f0 : 0 ≤ n0) (f1 : n1 ≤ 60) (f2 : n0 < n1) (f3 : n2 = w32 (n0 + 1)) : n2 ≤ 60 := by
  unfold w32 at *
  try (have ix0 : n2 = n0 + 1 := (by omega); subst ix0)
  omega
def g_299_23_6 : vG := ([(10, [16, 9], [], 1), (42, [9, 11], [], 0), (91, [11], [], 60), (90, [9], [], 0)], (91, [16], [], 60))
theorem c_299_23_6 {q0 : Nat} : vOkm T0 (eP e_299 L_299 A_299 mu_299 (some q0)) 4 g_299_23_6 := vOk_in fun ρ η h => by
  obtain ⟨f0, f1, f2, f3, _⟩ := h
  exact q_299_13 (q0 := q0) (n0 := ρ 9) (n1 := ρ 11) (n2 := ρ 16) (H0 := η 0) f3 f2 f1 f0
theorem q_299_14 {q0 : Nat} {n0 n1 n2 n3 n4 n5 n6 n7 n8 n9 n10 n11 : Int} {H0 H1 H2 : gH} (f0 : 0 ≤ n0) (f1 : n1 = 285) (f2 : n2 = 285) (f3 : (hLe T0 H0 H1 ∧ hFr s_299.2.2.2.2 H0 H1 ∧ hWt T0 H1) ∧ (Ab_299_23 n2 n3 n4 n5 n1 n6 n7 n8 n9 n0 H0 H1 ∧ preb_299 n2 n3 n4 n5 H0) ∧ some q0 = some (mub_299_23 n2 n3 n4 n5 n1 n6 n7 n8 n9 n0 H0 H1)) (f4 : n10 ≤ 60) (f5 : n0 < n10) (f6 : n11 = w32 (n0 + 1)) : Ab_299_23 n2 n3 n4 n5 n1 n6 n7 n8 n9 n11 H0 H2 ∧ ∀ q, some q0 = some q → mub_299_23 n2 n3 n4 n5 n1 n6 n7 n8 n9 n11 H0 H2 < q := by
  have g4 := f3.2.1.1
  unfold Ab_299_23 at g4
  have g3 := f3.2.1.2
  unfold preb_299 at g3
  have g5 := Option.some.inj f3.2.2
  unfold mub_299_23 at g5
  unfold Ab_299_23
  unfold mub_299_23
  have k0 := g4.1
  have k1 := g4.2.1
  have k2 := g4.2.2.1
  have y0 := g4.2.2.2.1
  have y1 := g4.2.2.2.2.1
  have y2 := g4.2.2.2.2.2.1
  have y3 := g4.2.2.2.2.2.2
  have p0 := g3.1
  have p1 := g3.2
  clear g3
  clear g4
  unfold w32 at *
  try (have ix0 : n11 = n0 + 1 := (by omega); subst ix0)
  try subst k2
  try subst k1
  try subst k0
  refine ⟨?_, fun q hq => ?_⟩
  · refine ⟨?_, ?_, ?_, ?_, ?_, ?_, ?_⟩ <;> first | assumption | omega | trivial
  · have g6 := Option.some.inj hq
    subst g6
    omega
def g_299_23_7 : vG := ([(10, [16, 9], [], 1), (42, [9, 11], [], 0), (91, [11], [], 60), (5000, [0, 1, 2, 3, 4, 5, 6, 7, 8, 9], [0, 1], 23), (0, [0], [], 285), (0, [4], [], 285), (90, [9], [], 0)], (4000, [4, 5, 6, 7, 8, 16], [2], 23))
theorem c_299_23_7 {q0 : Nat} : vOkm T0 (eP e_299 L_299 A_299 mu_299 (some q0)) 4 g_299_23_7 := vOk_in fun ρ η h => by
  obtain ⟨f0, f1, f2, f3, f4, f5, f6, _⟩ := h
  exact q_299_14 (q0 := q0) (n0 := ρ 9) (n1 := ρ 4) (n2 := ρ 0) (n3 := ρ 1) (n4 := ρ 2) (n5 := ρ 3) (n6 := ρ 5) (n7 := ρ 6) (n8 := ρ 7) (n9 := ρ 8) (n10 := ρ 11) (n11 := ρ 16) (H0 := η 0) (H1 := η 1) (H2 := η 2) f6 f5 f4 f3 f2 f1 f0
theorem q_299_15 {q0 : Nat} {n0 n1 : Int} {H0 : gH} (f0 : n0 ≤ 59) (f1 : (-1) ≤ n0) (f2 : n1 = (-1)) (f3 : n0 ≠ n1) : 0 ≤ n0 ∧ n0 < 60 := by
  omega
def g_299_23_8 : vG := ([(41, [14, 15], [], 0), (0, [15], [], -1), (90, [14], [], -1), (91, [14], [], 59)], (70, [14], [], 60))
theorem c_299_23_8 {q0 : Nat} : vOkm T0 (eP e_299 L_299 A_299 mu_299 (some q0)) 4 g_299_23_8 := vOk_in fun ρ η h => by
  obtain ⟨f0, f1, f2, f3, _⟩ := h
  exact q_299_15 (q0 := q0) (n0 := ρ 14) (n1 := ρ 15) (H0 := η 0) f3 f2 f1 f0
def g_299_23_9 : vG := ([(10, [18, 9], [], 1), (42, [9, 11], [], 0), (91, [11], [], 60), (90, [9], [], 0)], (90, [18], [], 0))
theorem c_299_23_9 {q0 : Nat} : vOkm T0 (eP e_299 L_299 A_299 mu_299 (some q0)) 4 g_299_23_9 := vOk_in fun ρ η h => by
  obtain ⟨f0, f1, f2, f3, _⟩ := h
  exact q_299_12 (q0 := q0) (n0 := ρ 9) (n1 := ρ 11) (n2 := ρ 18) (H0 := η 0) f3 f2 f1 f0
def g_299_23_10 : vG := ([(10, [18, 9], [], 1), (42, [9, 11], [], 0), (91, [11], [], 60), (90, [9], [], 0)], (91, [18], [], 60))
theorem c_299_23_10 {q0 : Nat} : vOkm T0 (eP e_299 L_299 A_299 mu_299 (some q0)) 4 g_299_23_10 := vOk_in fun ρ η h => by
  obtain ⟨f0, f1, f2, f3, _⟩ := h
  exact q_299_13 (q0 := q0) (n0 := ρ 9) (n1 := ρ 11) (n2 := ρ 18) (H0 := η 0) f3 f2 f1 f0
def g_299_23_11 : vG := ([(10, [18, 9], [], 1), (42, [9, 11], [], 0), (91, [11], [], 60), (5000, [0, 1, 2, 3, 4, 5, 6, 7, 8, 9], [0, 1], 23), (0, [0], [], 285), (0, [4], [], 285), (90, [9], [], 0)], (4000, [4, 5, 6, 7, 8, 18], [2], 23))
theorem c_299_23_11 {q0 : Nat} : vOkm T0 (eP e_299 L_299 A_299 mu_299 (some q0)) 4 g_299_23_11 := vOk_in fun ρ η h => by
  obtain ⟨f0, f1, f2, f3, f4, f5, f6, _⟩ := h
  exact q_299_14 (q0 := q0) (n0 := ρ 9) (n1 := ρ 4) (n2 := ρ 0) (n3 := ρ 1) (n4 := ρ 2) (n5 := ρ 3) (n6 := ρ 5) (n7 := ρ 6) (n8 := ρ 7) (n9 := ρ 8) (n10 := ρ 11) (n11 := ρ 18) (H0 := η 0) (H1 := η 1) (H2 := η 2) f6 f5 f4 f3 f2 f1 f0
def p_299_23 : List vG := [g_299_23_0,
  g_299_23_1,
  g_299_23_2,
  g_299_23_3,
  g_299_23_4,
  g_299_23_5,
  g_299_23_6,
  g_299_23_7,
  g_299_23_8,
  g_299_23_9,
  g_299_23_10,
  g_299_23_11]
theorem r_299_23 : vCovO true (eRc e_299 L_299 cs_299 2000 (23, [(0, (3, 12, 285, 0)), (1, (0, -2147483648, 2147483647, 0)), (2, (0, -2147483648, 2147483647, 0)), (3, (0, -2147483648, 2147483647, 0)), (4, (0, -2147483648, 2147483647, 0)), (5, (0, 0, 60, 0))])) p_299_23 = true := by decide +kernel
theorem m_299 (d : Nat) : eC e_299 (d + 5) := eC_ok (e := e_299) (L := L_299) (cs := cs_299) (n := 2000) (d := d + 4) (A := A_299) (μ := mu_299) (tp := true) (p0 := p_299_s) rfl ⟨m_248 (d + 3), ⟨m_296 d, ⟨m_297 d, trivial⟩⟩⟩ rfl (.inl rfl) (by decide +kernel) (fun _ => post0_ok) r_299_s (allC c_299_s_0 (allC c_299_s_1 (allC c_299_s_2 (allC c_299_s_3 (allC c_299_s_4 (allC c_299_s_5 (allC c_299_s_6 allN))))))) (allC (.inl ⟨p_299_23, r_299_23, fun q0 => (allC c_299_23_0 (allC c_299_23_1 (allC c_299_23_2 (allC c_299_23_3 (allC c_299_23_4 (allC c_299_23_5 (allC c_299_23_6 (allC c_299_23_7 (allC c_299_23_8 (allC c_299_23_9 (allC c_299_23_10 (allC c_299_23_11 allN))))))))))))⟩) allN)
