/-! CONTRACTS of methods (printed by wip/gen/emit.py). -/
/- MixStageModel.quarrel (II)I -/
noncomputable def s_300 : vM := ([(3, 12, 285, 0), (0, -2147483648, 2147483647, 0), (0, -2147483648, 2147483647, 0)], (0, -2147483648, 2147483647, 0), 1, 0, [(12, 82), (580, 0), (588, 0), (596, 0), (604, 0), (612, 0)])
def preb_300 (a0 a1 a2 : Int) (h : gH) : Prop := PG h
def pre_300 : List Int → gH → Prop := fun xs h => match xs with
  | [a0, a1, a2] => preb_300 a0 a1 a2 h
  | _ => False
noncomputable def e_300 : vE := (300, s_300, pre_300, post0)
noncomputable def L_300 : List vE := [e_270, e_271, e_272, e_282]
def cs_300 : List vC := [(24, [(0, (3, 12, 285, 0)), (1, (0, -2147483648, 2147483647, 0)), (2, (0, -2147483648, 2147483647, 0)), (3, (0, -2147483648, 2147483647, 0)), (4, (0, 0, 40, 0))]), (39, [(0, (3, 12, 285, 0)), (1, (0, -2147483648, 2147483647, 0)), (2, (0, -2147483648, 2147483647, 0)), (3, (0, -2147483648, 2147483647, 0)), (4, (0, 0, 39, 0)), (5, (0, 0, 40, 0))])]
def Ab_300_24 (a0 a1 a2 x0 x1 x2 x3 x4 : Int) (h0 h : gH) : Prop := x1 = a1 ∧ x2 = a2 ∧ XQ h
def mub_300_24 (a0 a1 a2 x0 x1 x2 x3 x4 : Int) (h0 h : gH) : Nat := (8589934592 + (2147483648 - x4).toNat) * 1099511627776 + 1099511627775
def Ab_300_39 (a0 a1 a2 x0 x1 x2 x3 x4 x5 : Int) (h0 h : gH) : Prop := x1 = a1 ∧ x2 = a2 ∧ XQ h ∧ x4 < hV h 285 82
def mub_300_39 (a0 a1 a2 x0 x1 x2 x3 x4 x5 : Int) (h0 h : gH) : Nat := (8589934592 + (2147483648 - x4).toNat) * 1099511627776 + (8589934592 + (2147483648 - x5).toNat) * 1
def A_300 : Int → List Int → gH → gH → Prop := fun c xs h0 h => match c.toNat with
  | 24 => (match xs with
    | [a0, a1, a2, x0, x1, x2, x3, x4] => Ab_300_24 a0 a1 a2 x0 x1 x2 x3 x4 h0 h
    | _ => False)
  | 39 => (match xs with
    | [a0, a1, a2, x0, x1, x2, x3, x4, x5] => Ab_300_39 a0 a1 a2 x0 x1 x2 x3 x4 x5 h0 h
    | _ => False)
  | _ => True
def mu_300 : Int → List Int → gH → gH → Nat := fun c xs h0 h => match c.toNat with
  | 24 => (match xs with
    | [a0, a1, a2, x0, x1, x2, x3, x4] => mub_300_24 a0 a1 a2 x0 x1 x2 x3 x4 h0 h
    | _ => 0)
  | 39 => (match xs with
    | [a0, a1, a2, x0, x1, x2, x3, x4, x5] => mub_300_39 a0 a1 a2 x0 x1 x2 x3 x4 x5 h0 h
    | _ => 0)
  | _ => 0
theorem q_300_0 {n0 n1 n2 n3 : Int} {H0 H1 : gH} (f0 : n0 ≤ 2147483647) (f1 : (-2147483648) ≤ n0) (f2 : n1 ≤ 2147483647) (f3 : (-2147483648) ≤ n1) (f4 : n2 = 285) (f5 : hWt T0 H0 ∧ preb_300 n2 n1 n0 H0) (f6 : n3 ≤ 1) (f7 : 0 ≤ n3) (f8 : (hLe T0 H0 H1 ∧ hFr s_282.2.2.2.2 H0 H1 ∧ ((0 : Int) = 0 → H1.length = H0.length) ∧ hWt T0 H1) ∧ postb_282 n3 n2 n1 H0 H1) (f9 : n3 ≠ 0) (f10 : 0 ≤ n0) : 0 ≤ n1 := by
  unfold preb_300 at f5
  unfold postb_282 at f8
  have e0 : hV H1 285 18 = hV H0 285 18 := f8.1.2.1.1 285 18 (by decide +kernel)
  have e1 : hV H1 285 18 = hV H0 285 18 := e0
  have e2 : (0 : Int) ≤ hV H1 285 18 ∧ hV H1 285 18 ≤ 8 := f8.1.2.2.2 285 18 _ _ (by decide +kernel)
  have e3 : (0 : Int) ≤ hV H0 285 18 ∧ hV H0 285 18 ≤ 8 := f5.1 285 18 _ _ (by decide +kernel)
  try simp only [XQ] at *
  try simp only [e1] at f5
  try simp only [e1] at f8
  try simp only [e1] at e2
  try simp only [e1] at e3
  try simp only [e1]
  have p0 := f5.2
  have r0_0 := f8.2
  try simp only [e1] at p0
  try simp only [e1] at r0_0
  clear e0 e1
  omega
theorem c_300_s_0 : vOkm T0 (eP e_300 L_300 A_300 mu_300 none) 3 ([(33, [2], [], 0), (31, [3], [], 0), (1282, [3, 0, 1], [0, 1], 0), (90, [3], [], 0), (91, [3], [], 1), (6000, [0, 1, 2], [0], 0), (0, [0], [], 285), (90, [1], [], -2147483648), (91, [1], [], 2147483647), (90, [2], [], -2147483648), (91, [2], [], 2147483647)], (90, [1], [], 0)) := vOk_in fun ρ η h => by
  obtain ⟨f0, f1, f2, f3, f4, f5, f6, f7, f8, f9, f10, _⟩ := h
  exact q_300_0 (n0 := ρ 2) (n1 := ρ 1) (n2 := ρ 0) (n3 := ρ 3) (H0 := η 0) (H1 := η 1) f10 f9 f8 f7 f6 f5 f4 f3 f2 f1 f0
theorem q_300_1 {n0 n1 n2 n3 : Int} {H0 H1 : gH} (f0 : n0 ≤ 2147483647) (f1 : (-2147483648) ≤ n0) (f2 : n1 ≤ 2147483647) (f3 : (-2147483648) ≤ n1) (f4 : n2 = 285) (f5 : hWt T0 H0 ∧ preb_300 n2 n1 n0 H0) (f6 : n3 ≤ 1) (f7 : 0 ≤ n3) (f8 : (hLe T0 H0 H1 ∧ hFr s_282.2.2.2.2 H0 H1 ∧ ((0 : Int) = 0 → H1.length = H0.length) ∧ hWt T0 H1) ∧ postb_282 n3 n2 n1 H0 H1) (f9 : n3 ≠ 0) (f10 : 0 ≤ n0) : n1 ≤ 7 := by
  unfold preb_300 at f5
  unfold postb_282 at f8
  have e0 : hV H1 285 18 = hV H0 285 18 := f8.1.2.1.1 285 18 (by decide +kernel)
  have e1 : hV H1 285 18 = hV H0 285 18 := e0
  have e2 : (0 : Int) ≤ hV H1 285 18 ∧ hV H1 285 18 ≤ 8 := f8.1.2.2.2 285 18 _ _ (by decide +kernel)
  have e3 : (0 : Int) ≤ hV H0 285 18 ∧ hV H0 285 18 ≤ 8 := f5.1 285 18 _ _ (by decide +kernel)
  try simp only [XQ] at *
  try simp only [e1] at f5
  try simp only [e1] at f8
  try simp only [e1] at e2
  try simp only [e1] at e3
  try simp only [e1]
  have p0 := f5.2
  have r0_0 := f8.2
  try simp only [e1] at p0
  try simp only [e1] at r0_0
  clear e0 e1
  omega
theorem c_300_s_1 : vOkm T0 (eP e_300 L_300 A_300 mu_300 none) 3 ([(33, [2], [], 0), (31, [3], [], 0), (1282, [3, 0, 1], [0, 1], 0), (90, [3], [], 0), (91, [3], [], 1), (6000, [0, 1, 2], [0], 0), (0, [0], [], 285), (90, [1], [], -2147483648), (91, [1], [], 2147483647), (90, [2], [], -2147483648), (91, [2], [], 2147483647)], (91, [1], [], 7)) := vOk_in fun ρ η h => by
  obtain ⟨f0, f1, f2, f3, f4, f5, f6, f7, f8, f9, f10, _⟩ := h
  exact q_300_1 (n0 := ρ 2) (n1 := ρ 1) (n2 := ρ 0) (n3 := ρ 3) (H0 := η 0) (H1 := η 1) f10 f9 f8 f7 f6 f5 f4 f3 f2 f1 f0
theorem q_300_2 {n0 n1 n2 n3 : Int} {H0 H1 : gH} (f0 : n0 ≤ 2147483647) (f1 : (-2147483648) ≤ n0) (f2 : n1 ≤ 2147483647) (f3 : (-2147483648) ≤ n1) (f4 : n2 = 285) (f5 : hWt T0 H0 ∧ preb_300 n2 n1 n0 H0) (f6 : n3 ≤ 1) (f7 : 0 ≤ n3) (f8 : (hLe T0 H0 H1 ∧ hFr s_282.2.2.2.2 H0 H1 ∧ ((0 : Int) = 0 → H1.length = H0.length) ∧ hWt T0 H1) ∧ postb_282 n3 n2 n1 H0 H1) (f9 : n3 ≠ 0) (f10 : 0 ≤ n0) : preb_270 n2 n1 H1 := by
  unfold preb_300 at f5
  unfold postb_282 at f8
  unfold preb_270
  have e0 : hV H1 285 18 = hV H0 285 18 := f8.1.2.1.1 285 18 (by decide +kernel)
  have e1 : hV H1 285 18 = hV H0 285 18 := e0
  have e2 : PG H1 = PG H0 := PG_fr f8.1.2.1 (by decide +kernel)
  have e3 : (0 : Int) ≤ hV H1 285 18 ∧ hV H1 285 18 ≤ 8 := f8.1.2.2.2 285 18 _ _ (by decide +kernel)
  have e4 : (0 : Int) ≤ hV H0 285 18 ∧ hV H0 285 18 ≤ 8 := f5.1 285 18 _ _ (by decide +kernel)
  try simp only [XQ] at *
  try simp only [e1, e2] at f5
  try simp only [e1, e2] at f8
  try simp only [e1, e2] at e3
  try simp only [e1, e2] at e4
  try simp only [e1, e2]
  have p0 := f5.2
  have r0_0 := f8.2
  try simp only [e1, e2] at p0
  try simp only [e1, e2] at r0_0
  clear e0 e1 e2
  refine ⟨?_, ?_⟩ <;> first | assumption | omega | trivial
theorem c_300_s_2 : vOkm T0 (eP e_300 L_300 A_300 mu_300 none) 3 ([(33, [2], [], 0), (31, [3], [], 0), (1282, [3, 0, 1], [0, 1], 0), (90, [3], [], 0), (91, [3], [], 1), (6000, [0, 1, 2], [0], 0), (0, [0], [], 285), (90, [1], [], -2147483648), (91, [1], [], 2147483647), (90, [2], [], -2147483648), (91, [2], [], 2147483647)], (2270, [0, 1], [1], 0)) := vOk_in fun ρ η h => by
  obtain ⟨f0, f1, f2, f3, f4, f5, f6, f7, f8, f9, f10, _⟩ := h
  exact q_300_2 (n0 := ρ 2) (n1 := ρ 1) (n2 := ρ 0) (n3 := ρ 3) (H0 := η 0) (H1 := η 1) f10 f9 f8 f7 f6 f5 f4 f3 f2 f1 f0
theorem q_300_3 {n0 n1 n2 n3 n4 : Int} {H0 H1 H2 : gH} (f0 : n0 ≤ 2147483647) (f1 : (-2147483648) ≤ n0) (f2 : n1 ≤ 2147483647) (f3 : (-2147483648) ≤ n1) (f4 : n2 = 285) (f5 : hWt T0 H0 ∧ preb_300 n2 n1 n0 H0) (f6 : n3 ≤ 1) (f7 : 0 ≤ n3) (f8 : (hLe T0 H0 H1 ∧ hFr s_282.2.2.2.2 H0 H1 ∧ ((0 : Int) = 0 → H1.length = H0.length) ∧ hWt T0 H1) ∧ postb_282 n3 n2 n1 H0 H1) (f9 : n3 ≠ 0) (f10 : 0 ≤ n0) (f11 : (hLe T0 H1 H2 ∧ hFr s_270.2.2.2.2 H1 H2 ∧ ((0 : Int) = 0 → H2.length = H1.length) ∧ hWt T0 H2) ∧ postb_270 n2 n1 H1 H2) (f12 : n4 = 0) : Ab_300_24 n2 n1 n0 n2 n1 n0 n0 n4 H0 H2 ∧ ∀ q, none = some q → mub_300_24 n2 n1 n0 n2 n1 n0 n0 n4 H0 H2 < q := by
  unfold preb_300 at f5
  unfold postb_282 at f8
  unfold postb_270 at f11
  unfold Ab_300_24
  have e0 : hV H1 285 18 = hV H0 285 18 := f8.1.2.1.1 285 18 (by decide +kernel)
  have e1 : hV H1 285 18 = hV H0 285 18 := e0
  have e2 : hV H2 296 = hV H1 296 := fRow f11.1.2.1 296 (by decide +kernel)
  have e3 : hV H1 296 = hV H0 296 := fRow f8.1.2.1 296 (by decide +kernel)
  have e4 : hV H2 296 = hV H0 296 := e2.trans e3
  have e5 : hV H2 298 = hV H1 298 := fRow f11.1.2.1 298 (by decide +kernel)
  have e6 : hV H1 298 = hV H0 298 := fRow f8.1.2.1 298 (by decide +kernel)
  have e7 : hV H2 298 = hV H0 298 := e5.trans e6
  have e8 : hV H2 300 = hV H1 300 := fRow f11.1.2.1 300 (by decide +kernel)
  have e9 : hV H1 300 = hV H0 300 := fRow f8.1.2.1 300 (by decide +kernel)
  have e10 : hV H2 300 = hV H0 300 := e8.trans e9
  have e11 : hV H2 301 = hV H1 301 := fRow f11.1.2.1 301 (by decide +kernel)
  have e12 : hV H1 301 = hV H0 301 := fRow f8.1.2.1 301 (by decide +kernel)
  have e13 : hV H2 301 = hV H0 301 := e11.trans e12
  have e14 : hV H2 302 = hV H1 302 := fRow f11.1.2.1 302 (by decide +kernel)
  have e15 : hV H1 302 = hV H0 302 := fRow f8.1.2.1 302 (by decide +kernel)
  have e16 : hV H2 302 = hV H0 302 := e14.trans e15
  have e17 : hV H2 303 = hV H1 303 := fRow f11.1.2.1 303 (by decide +kernel)
  have e18 : hV H1 303 = hV H0 303 := fRow f8.1.2.1 303 (by decide +kernel)
  have e19 : hV H2 303 = hV H0 303 := e17.trans e18
  have e20 : hV H2 305 = hV H1 305 := fRow f11.1.2.1 305 (by decide +kernel)
  have e21 : hV H1 305 = hV H0 305 := fRow f8.1.2.1 305 (by decide +kernel)
  have e22 : hV H2 305 = hV H0 305 := e20.trans e21
  have e23 : (0 : Int) ≤ hV H1 285 18 ∧ hV H1 285 18 ≤ 8 := f8.1.2.2.2 285 18 _ _ (by decide +kernel)
  have e24 : (0 : Int) ≤ hV H0 285 18 ∧ hV H0 285 18 ≤ 8 := f5.1 285 18 _ _ (by decide +kernel)
  have e25 : (0 : Int) ≤ hV H2 285 82 ∧ hV H2 285 82 ≤ 40 := f11.1.2.2.2 285 82 _ _ (by decide +kernel)
  try simp only [XQ] at *
  try simp only [e1, e4, e7, e10, e13, e16, e19, e22] at f5
  try simp only [e1, e4, e7, e10, e13, e16, e19, e22] at f8
  try simp only [e1, e4, e7, e10, e13, e16, e19, e22] at f11
  try simp only [e1, e4, e7, e10, e13, e16, e19, e22] at e23
  try simp only [e1, e4, e7, e10, e13, e16, e19, e22] at e24
  try simp only [e1, e4, e7, e10, e13, e16, e19, e22] at e25
  try simp only [e1, e4, e7, e10, e13, e16, e19, e22]
  have p0 := f5.2
  have r0_0 := f8.2
  have r1_0 := f11.2.1
  have r1_1 := f11.2.2
  try simp only [e1, e4, e7, e10, e13, e16, e19, e22] at p0
  try simp only [e1, e4, e7, e10, e13, e16, e19, e22] at r0_0
  try simp only [e1, e4, e7, e10, e13, e16, e19, e22] at r1_0
  try simp only [e1, e4, e7, e10, e13, e16, e19, e22] at r1_1
  clear e0 e1 e2 e3 e4 e5 e6 e7 e8 e9 e10 e11 e12 e13 e14 e15 e16 e17 e18 e19 e20 e21 e22
  refine ⟨?_, fun q hq => ?_⟩
  · refine ⟨?_, ?_, ?_⟩ <;> first | assumption | omega | trivial
  · exact nomatch hq
theorem c_300_s_3 : vOkm T0 (eP e_300 L_300 A_300 mu_300 none) 3 ([(0, [4], [], 0), (1270, [0, 1], [1, 2], 0), (33, [2], [], 0), (31, [3], [], 0), (1282, [3, 0, 1], [0, 1], 0), (90, [3], [], 0), (91, [3], [], 1), (6000, [0, 1, 2], [0], 0), (0, [0], [], 285), (90, [1], [], -2147483648), (91, [1], [], 2147483647), (90, [2], [], -2147483648), (91, [2], [], 2147483647)], (4000, [0, 1, 2, 2, 4], [2], 24)) := vOk_in fun ρ η h => by
  obtain ⟨f0, f1, f2, f3, f4, f5, f6, f7, f8, f9, f10, f11, f12, _⟩ := h
  exact q_300_3 (n0 := ρ 2) (n1 := ρ 1) (n2 := ρ 0) (n3 := ρ 3) (n4 := ρ 4) (H0 := η 0) (H1 := η 1) (H2 := η 2) f12 f11 f10 f9 f8 f7 f6 f5 f4 f3 f2 f1 f0
def p_300_s : List vG := [([(33, [2], [], 0), (31, [3], [], 0), (1282, [3, 0, 1], [0, 1], 0), (90, [3], [], 0), (91, [3], [], 1), (6000, [0, 1, 2], [0], 0), (0, [0], [], 285), (90, [1], [], -2147483648), (91, [1], [], 2147483647), (90, [2], [], -2147483648), (91, [2], [], 2147483647)], (90, [1], [], 0)),
  ([(33, [2], [], 0), (31, [3], [], 0), (1282, [3, 0, 1], [0, 1], 0), (90, [3], [], 0), (91, [3], [], 1), (6000, [0, 1, 2], [0], 0), (0, [0], [], 285), (90, [1], [], -2147483648), (91, [1], [], 2147483647), (90, [2], [], -2147483648), (91, [2], [], 2147483647)], (91, [1], [], 7)),
  ([(33, [2], [], 0), (31, [3], [], 0), (1282, [3, 0, 1], [0, 1], 0), (90, [3], [], 0), (91, [3], [], 1), (6000, [0, 1, 2], [0], 0), (0, [0], [], 285), (90, [1], [], -2147483648), (91, [1], [], 2147483647), (90, [2], [], -2147483648), (91, [2], [], 2147483647)], (2270, [0, 1], [1], 0)),
  ([(0, [4], [], 0), (1270, [0, 1], [1, 2], 0), (33, [2], [], 0), (31, [3], [], 0), (1282, [3, 0, 1], [0, 1], 0), (90, [3], [], 0), (91, [3], [], 1), (6000, [0, 1, 2], [0], 0), (0, [0], [], 285), (90, [1], [], -2147483648), (91, [1], [], 2147483647), (90, [2], [], -2147483648), (91, [2], [], 2147483647)], (4000, [0, 1, 2, 2, 4], [2], 24))]
theorem r_300_s : vCovO true (eR0 e_300 L_300 cs_300 2000) p_300_s = true := by decide +kernel
theorem q_300_4 {q0 : Nat} {n0 n1 n2 n3 n4 n5 n6 n7 n8 n9 n10 : Int} {H0 H1 : gH} (f0 : n0 ≤ 40) (f1 : 0 ≤ n0) (f2 : n1 ≤ 2147483647) (f3 : (-2147483648) ≤ n1) (f4 : n2 ≤ 2147483647) (f5 : (-2147483648) ≤ n2) (f6 : n3 ≤ 2147483647) (f7 : (-2147483648) ≤ n3) (f8 : n4 = 285) (f9 : n5 ≤ 2147483647) (f10 : (-2147483648) ≤ n5) (f11 : n6 ≤ 2147483647) (f12 : (-2147483648) ≤ n6) (f13 : n7 = 285) (f14 : (hLe T0 H0 H1 ∧ hFr s_300.2.2.2.2 H0 H1 ∧ hWt T0 H1) ∧ (Ab_300_24 n7 n6 n5 n4 n3 n2 n1 n0 H0 H1 ∧ preb_300 n7 n6 n5 H0) ∧ some q0 = some (mub_300_24 n7 n6 n5 n4 n3 n2 n1 n0 H0 H1)) (f15 : n8 ≤ 40) (f16 : 0 ≤ n8) (f17 : n8 = hV H1 (n4).toNat 82) (f18 : n0 < n8) (f19 : n9 = 1) (f20 : n10 = w32 (n0 + n9)) : n0 ≤ 39 := by
  have g4 := f14.2.1.1
  unfold Ab_300_24 at g4
  have g3 := f14.2.1.2
  unfold preb_300 at g3
  have e0 : n8 = hV H1 285 82 := (by rw [f8] at f17; exact f17 : n8 = hV H1 285 82)
  have e1 : hV H1 298 = hV H0 298 := fRow f14.1.2.1 298 (by decide +kernel)
  have e2 : hV H1 300 = hV H0 300 := fRow f14.1.2.1 300 (by decide +kernel)
  have e3 : hV H1 301 = hV H0 301 := fRow f14.1.2.1 301 (by decide +kernel)
  have e4 : hV H1 302 = hV H0 302 := fRow f14.1.2.1 302 (by decide +kernel)
  have e5 : hV H1 303 = hV H0 303 := fRow f14.1.2.1 303 (by decide +kernel)
  have e6 : hV H1 305 = hV H0 305 := fRow f14.1.2.1 305 (by decide +kernel)
  have e7 : (0 : Int) ≤ hV H1 285 82 ∧ hV H1 285 82 ≤ 40 := f14.1.2.2 285 82 _ _ (by decide +kernel)
  try simp only [XQ] at *
  try simp only [e1, e2, e3, e4, e5, e6] at f14
  try simp only [e1, e2, e3, e4, e5, e6] at e7
  try simp only [e1, e2, e3, e4, e5, e6] at g3
  try simp only [e1, e2, e3, e4, e5, e6] at g4
  try simp only [e1, e2, e3, e4, e5, e6]
  have k0 := g4.1
  have k1 := g4.2.1
  have y0 := g4.2.2
  have p0 := g3
  try simp only [e1, e2, e3, e4, e5, e6] at k0
  try simp only [e1, e2, e3, e4, e5, e6] at k1
  try simp only [e1, e2, e3, e4, e5, e6] at y0
  try simp only [e1, e2, e3, e4, e5, e6] at p0
  clear g3
  clear g4
  clear f17 e1 e2 e3 e4 e5 e6
  subst e0
  unfold w32 at *
  try subst k1
  try subst k0
  omega
theorem c_300_24_0 {q0 : Nat} : vOkm T0 (eP e_300 L_300 A_300 mu_300 (some q0)) 3 ([(1, [10, 7, 9], [], 0), (0, [9], [], 1), (42, [7, 8], [], 0), (20, [8, 3], [1], 82), (90, [8], [], 0), (91, [8], [], 40), (5000, [0, 1, 2, 3, 4, 5, 6, 7], [0, 1], 24), (0, [0], [], 285), (90, [1], [], -2147483648), (91, [1], [], 2147483647), (90, [2], [], -2147483648), (91, [2], [], 2147483647), (0, [3], [], 285), (90, [4], [], -2147483648), (91, [4], [], 2147483647), (90, [5], [], -2147483648), (91, [5], [], 2147483647), (90, [6], [], -2147483648), (91, [6], [], 2147483647), (90, [7], [], 0), (91, [7], [], 40)], (91, [7], [], 39)) := vOk_in fun ρ η h => by
  obtain ⟨f0, f1, f2, f3, f4, f5, f6, f7, f8, f9, f10, f11, f12, f13, f14, f15, f16, f17, f18, f19, f20, _⟩ := h
  exact q_300_4 (q0 := q0) (n0 := ρ 7) (n1 := ρ 6) (n2 := ρ 5) (n3 := ρ 4) (n4 := ρ 3) (n5 := ρ 2) (n6 := ρ 1) (n7 := ρ 0) (n8 := ρ 8) (n9 := ρ 9) (n10 := ρ 10) (H0 := η 0) (H1 := η 1) f20 f19 f18 f17 f16 f15 f14 f13 f12 f11 f10 f9 f8 f7 f6 f5 f4 f3 f2 f1 f0
theorem q_300_5 {q0 : Nat} {n0 n1 n2 n3 n4 n5 n6 n7 n8 n9 n10 : Int} {H0 H1 : gH} (f0 : n0 ≤ 40) (f1 : 0 ≤ n0) (f2 : n1 ≤ 2147483647) (f3 : (-2147483648) ≤ n1) (f4 : n2 ≤ 2147483647) (f5 : (-2147483648) ≤ n2) (f6 : n3 ≤ 2147483647) (f7 : (-2147483648) ≤ n3) (f8 : n4 = 285) (f9 : n5 ≤ 2147483647) (f10 : (-2147483648) ≤ n5) (f11 : n6 ≤ 2147483647) (f12 : (-2147483648) ≤ n6) (f13 : n7 = 285) (f14 : (hLe T0 H0 H1 ∧ hFr s_300.2.2.2.2 H0 H1 ∧ hWt T0 H1) ∧ (Ab_300_24 n7 n6 n5 n4 n3 n2 n1 n0 H0 H1 ∧ preb_300 n7 n6 n5 H0) ∧ some q0 = some (mub_300_24 n7 n6 n5 n4 n3 n2 n1 n0 H0 H1)) (f15 : n8 ≤ 40) (f16 : 0 ≤ n8) (f17 : n8 = hV H1 (n4).toNat 82) (f18 : n0 < n8) (f19 : n9 = 1) (f20 : n10 = w32 (n0 + n9)) : 0 ≤ n10 := by
  have g4 := f14.2.1.1
  unfold Ab_300_24 at g4
  have g3 := f14.2.1.2
  unfold preb_300 at g3
  have e0 : n8 = hV H1 285 82 := (by rw [f8] at f17; exact f17 : n8 = hV H1 285 82)
  have e1 : hV H1 298 = hV H0 298 := fRow f14.1.2.1 298 (by decide +kernel)
  have e2 : hV H1 300 = hV H0 300 := fRow f14.1.2.1 300 (by decide +kernel)
  have e3 : hV H1 301 = hV H0 301 := fRow f14.1.2.1 301 (by decide +kernel)
  have e4 : hV H1 302 = hV H0 302 := fRow f14.1.2.1 302 (by decide +kernel)
  have e5 : hV H1 303 = hV H0 303 := fRow f14.1.2.1 303 (by decide +kernel)
  have e6 : hV H1 305 = hV H0 305 := fRow f14.1.2.1 305 (by decide +kernel)
  have e7 : (0 : Int) ≤ hV H1 285 82 ∧ hV H1 285 82 ≤ 40 := f14.1.2.2 285 82 _ _ (by decide +kernel)
  try simp only [XQ] at *
  try simp only [e1, e2, e3, e4, e5, e6] at f14
  try simp only [e1, e2, e3, e4, e5, e6] at e7
  try simp only [e1, e2, e3, e4, e5, e6] at g3
  try simp only [e1, e2, e3, e4, e5, e6] at g4
  try simp only [e1, e2, e3, e4, e5, e6]
  have k0 := g4.1
  have k1 := g4.2.1
  have y0 := g4.2.2
  have p0 := g3
  try simp only [e1, e2, e3, e4, e5, e6] at k0
  try simp only [e1, e2, e3, e4, e5, e6] at k1
  try simp only [e1, e2, e3, e4, e5, e6] at y0
  try simp only [e1, e2, e3, e4, e5, e6] at p0
  clear g3
  clear g4
  clear f17 e1 e2 e3 e4 e5 e6
  subst e0
  unfold w32 at *
  try (have ix0 : n10 = n0 + 1 := (by omega); subst ix0)
  try subst k1
  try subst k0
  omega
theorem c_300_24_1 {q0 : Nat} : vOkm T0 (eP e_300 L_300 A_300 mu_300 (some q0)) 3 ([(1, [10, 7, 9], [], 0), (0, [9], [], 1), (42, [7, 8], [], 0), (20, [8, 3], [1], 82), (90, [8], [], 0), (91, [8], [], 40), (5000, [0, 1, 2, 3, 4, 5, 6, 7], [0, 1], 24), (0, [0], [], 285), (90, [1], [], -2147483648), (91, [1], [], 2147483647), (90, [2], [], -2147483648), (91, [2], [], 2147483647), (0, [3], [], 285), (90, [4], [], -2147483648), (91, [4], [], 2147483647), (90, [5], [], -2147483648), (91, [5], [], 2147483647), (90, [6], [], -2147483648), (91, [6], [], 2147483647), (90, [7], [], 0), (91, [7], [], 40)], (90, [10], [], 0)) := vOk_in fun ρ η h => by
  obtain ⟨f0, f1, f2, f3, f4, f5, f6, f7, f8, f9, f10, f11, f12, f13, f14, f15, f16, f17, f18, f19, f20, _⟩ := h
  exact q_300_5 (q0 := q0) (n0 := ρ 7) (n1 := ρ 6) (n2 := ρ 5) (n3 := ρ 4) (n4 := ρ 3) (n5 := ρ 2) (n6 := ρ 1) (n7 := ρ 0) (n8 := ρ 8) (n9 := ρ 9) (n10 := ρ 10) (H0 := η 0) (H1 := η 1) f20 f19 f18 f17 f16 f15 f14 f13 f12 f11 f10 f9 f8 f7 f6 f5 f4 f3 f2 f1 f0
theorem q_300_6 {q0 : Nat} {n0 n1 n2 n3 n4 n5 n6 n7 n8 n9 n10 : Int} {H0 H1 : gH} (f0 : n0 ≤ 40) (f1 : 0 ≤ n0) (f2 : n1 ≤ 2147483647) (f3 : (-2147483648) ≤ n1) (f4 : n2 ≤ 2147483647) (f5 : (-2147483648) ≤ n2) (f6 : n3 ≤ 2147483647) (f7 : (-2147483648) ≤ n3) (f8 : n4 = 285) (f9 : n5 ≤ 2147483647) (f10 : (-2147483648) ≤ n5) (f11 : n6 ≤ 2147483647) (f12 : (-2147483648) ≤ n6) (f13 : n7 = 285) (f14 : (hLe T0 H0 H1 ∧ hFr s_300.2.2.2.2 H0 H1 ∧ hWt T0 H1) ∧ (Ab_300_24 n7 n6 n5 n4 n3 n2 n1 n0 H0 H1 ∧ preb_300 n7 n6 n5 H0) ∧ some q0 = some (mub_300_24 n7 n6 n5 n4 n3 n2 n1 n0 H0 H1)) (f15 : n8 ≤ 40) (f16 : 0 ≤ n8) (f17 : n8 = hV H1 (n4).toNat 82) (f18 : n0 < n8) (f19 : n9 = 1) (f20 : n10 = w32 (n0 + n9)) : n10 ≤ 40 := by
  have g4 := f14.2.1.1
  unfold Ab_300_24 at g4
  have g3 := f14.2.1.2
  unfold preb_300 at g3
  have e0 : n8 = hV H1 285 82 := (by rw [f8] at f17; exact f17 : n8 = hV H1 285 82)
  have e1 : hV H1 298 = hV H0 298 := fRow f14.1.2.1 298 (by decide +kernel)
  have e2 : hV H1 300 = hV H0 300 := fRow f14.1.2.1 300 (by decide +kernel)
  have e3 : hV H1 301 = hV H0 301 := fRow f14.1.2.1 301 (by decide +kernel)
  have e4 : hV H1 302 = hV H0 302 := fRow f14.1.2.1 302 (by decide +kernel)
  have e5 : hV H1 303 = hV H0 303 := fRow f14.1.2.1 303 (by decide +kernel)
  have e6 : hV H1 305 = hV H0 305 := fRow f14.1.2.1 305 (by decide +kernel)
  have e7 : (0 : Int) ≤ hV H1 285 82 ∧ hV H1 285 82 ≤ 40 := f14.1.2.2 285 82 _ _ (by decide +kernel)
  try simp only [XQ] at *
  try simp only [e1, e2, e3, e4, e5, e6] at f14
  try simp only [e1, e2, e3, e4, e5, e6] at e7
  try simp only [e1, e2, e3, e4, e5, e6] at g3
  try simp only [e1, e2, e3, e4, e5, e6] at g4
  try simp only [e1, e2, e3, e4, e5, e6]
  have k0 := g4.1
  have k1 := g4.2.1
  have y0 := g4.2.2
  have p0 := g3
  try simp only [e1, e2, e3, e4, e5, e6] at k0
  try simp only [e1, e2, e3, e4, e5, e6] at k1
  try simp only [e1, e2, e3, e4, e5, e6] at y0
  try simp only [e1, e2, e3, e4, e5, e6] at p0
  clear g3
  clear g4
  clear f17 e1 e2 e3 e4 e5 e6
  subst e0
  unfold w32 at *
  try (have ix0 : n10 = n0 + 1 := (by omega); subst ix0)
  try subst k1
  try subst k0
  omega
theorem c_300_24_2 {q0 : Nat} : vOkm T0 (eP e_300 L_300 A_300 mu_300 (some q0)) 3 ([(1, [10, 7, 9], [], 0), (0, [9], [], 1), (42, [7, 8], [], 0), (20, [8, 3], [1], 82), (90, [8], [], 0), (91, [8], [], 40), (5000, [0, 1, 2, 3, 4, 5, 6, 7], [0, 1], 24), (0, [0], [], 285), (90, [1], [], -2147483648), (91, [1], [], 2147483647), (90, [2], [], -2147483648), (91, [2], [], 2147483647), (0, [3], [], 285), (90, [4], [], -2147483648), (91, [4], [], 2147483647), (90, [5], [], -2147483648), (91, [5], [], 2147483647), (90, [6], [], -2147483648), (91, [6], [], 2147483647), (90, [7], [], 0), (91, [7], [], 40)], (91, [10], [], 40)) := vOk_in fun ρ η h => by
  obtain ⟨f0, f1, f2, f3, f4, f5, f6, f7, f8, f9, f10, f11, f12, f13, f14, f15, f16, f17, f18, f19, f20, _⟩ := h
  exact q_300_6 (q0 := q0) (n0 := ρ 7) (n1 := ρ 6) (n2 := ρ 5) (n3 := ρ 4) (n4 := ρ 3) (n5 := ρ 2) (n6 := ρ 1) (n7 := ρ 0) (n8 := ρ 8) (n9 := ρ 9) (n10 := ρ 10) (H0 := η 0) (H1 := η 1) f20 f19 f18 f17 f16 f15 f14 f13 f12 f11 f10 f9 f8 f7 f6 f5 f4 f3 f2 f1 f0
theorem q_300_7 {q0 : Nat} {n0 n1 n2 n3 n4 n5 n6 n7 n8 n9 n10 : Int} {H0 H1 : gH} (f0 : n0 ≤ 40) (f1 : 0 ≤ n0) (f2 : n1 ≤ 2147483647) (f3 : (-2147483648) ≤ n1) (f4 : n2 ≤ 2147483647) (f5 : (-2147483648) ≤ n2) (f6 : n3 ≤ 2147483647) (f7 : (-2147483648) ≤ n3) (f8 : n4 = 285) (f9 : n5 ≤ 2147483647) (f10 : (-2147483648) ≤ n5) (f11 : n6 ≤ 2147483647) (f12 : (-2147483648) ≤ n6) (f13 : n7 = 285) (f14 : (hLe T0 H0 H1 ∧ hFr s_300.2.2.2.2 H0 H1 ∧ hWt T0 H1) ∧ (Ab_300_24 n7 n6 n5 n4 n3 n2 n1 n0 H0 H1 ∧ preb_300 n7 n6 n5 H0) ∧ some q0 = some (mub_300_24 n7 n6 n5 n4 n3 n2 n1 n0 H0 H1)) (f15 : n8 ≤ 40) (f16 : 0 ≤ n8) (f17 : n8 = hV H1 (n4).toNat 82) (f18 : n0 < n8) (f19 : n9 = 1) (f20 : n10 = w32 (n0 + n9)) : Ab_300_39 n7 n6 n5 n4 n3 n2 n1 n0 n10 H0 H1 ∧ ∀ q, some q0 = some q → mub_300_39 n7 n6 n5 n4 n3 n2 n1 n0 n10 H0 H1 < q := by
  have g4 := f14.2.1.1
  unfold Ab_300_24 at g4
  have g3 := f14.2.1.2
  unfold preb_300 at g3
  have g5 := Option.some.inj f14.2.2
  unfold mub_300_24 at g5
  unfold Ab_300_39
  unfold mub_300_39
  have e0 : n8 = hV H1 285 82 := (by rw [f8] at f17; exact f17 : n8 = hV H1 285 82)
  have e1 : hV H1 298 = hV H0 298 := fRow f14.1.2.1 298 (by decide +kernel)
  have e2 : hV H1 300 = hV H0 300 := fRow f14.1.2.1 300 (by decide +kernel)
  have e3 : hV H1 301 = hV H0 301 := fRow f14.1.2.1 301 (by decide +kernel)
  have e4 : hV H1 302 = hV H0 302 := fRow f14.1.2.1 302 (by decide +kernel)
  have e5 : hV H1 303 = hV H0 303 := fRow f14.1.2.1 303 (by decide +kernel)
  have e6 : hV H1 305 = hV H0 305 := fRow f14.1.2.1 305 (by decide +kernel)
  have e7 : (0 : Int) ≤ hV H1 285 82 ∧ hV H1 285 82 ≤ 40 := f14.1.2.2 285 82 _ _ (by decide +kernel)
  try simp only [XQ] at *
  try simp only [e1, e2, e3, e4, e5, e6] at f14
  try simp only [e1, e2, e3, e4, e5, e6] at e7
  try simp only [e1, e2, e3, e4, e5, e6] at g3
  try simp only [e1, e2, e3, e4, e5, e6] at g4
  try simp only [e1, e2, e3, e4, e5, e6] at g5
  try simp only [e1, e2, e3, e4, e5, e6]
  have k0 := g4.1
  have k1 := g4.2.1
  have y0 := g4.2.2
  have p0 := g3
  try simp only [e1, e2, e3, e4, e5, e6] at k0
  try simp only [e1, e2, e3, e4, e5, e6] at k1
  try simp only [e1, e2, e3, e4, e5, e6] at y0
  try simp only [e1, e2, e3, e4, e5, e6] at p0
  clear g3
  clear g4
  clear f17 e1 e2 e3 e4 e5 e6
  subst e0
  unfold w32 at *
  try (have ix0 : n10 = n0 + 1 := (by omega); subst ix0)
  try subst k1
  try subst k0
  refine ⟨?_, fun q hq => ?_⟩
  · refine ⟨?_, ?_, ?_, ?_⟩ <;> first | assumption | omega | trivial
  · have g6 := Option.some.inj hq
    subst g6
    omega
theorem c_300_24_3 {q0 : Nat} : vOkm T0 (eP e_300 L_300 A_300 mu_300 (some q0)) 3 ([(1, [10, 7, 9], [], 0), (0, [9], [], 1), (42, [7, 8], [], 0), (20, [8, 3], [1], 82), (90, [8], [], 0), (91, [8], [], 40), (5000, [0, 1, 2, 3, 4, 5, 6, 7], [0, 1], 24), (0, [0], [], 285), (90, [1], [], -2147483648), (91, [1], [], 2147483647), (90, [2], [], -2147483648), (91, [2], [], 2147483647), (0, [3], [], 285), (90, [4], [], -2147483648), (91, [4], [], 2147483647), (90, [5], [], -2147483648), (91, [5], [], 2147483647), (90, [6], [], -2147483648), (91, [6], [], 2147483647), (90, [7], [], 0), (91, [7], [], 40)], (4000, [3, 4, 5, 6, 7, 10], [1], 39)) := vOk_in fun ρ η h => by
  obtain ⟨f0, f1, f2, f3, f4, f5, f6, f7, f8, f9, f10, f11, f12, f13, f14, f15, f16, f17, f18, f19, f20, _⟩ := h
  exact q_300_7 (q0 := q0) (n0 := ρ 7) (n1 := ρ 6) (n2 := ρ 5) (n3 := ρ 4) (n4 := ρ 3) (n5 := ρ 2) (n6 := ρ 1) (n7 := ρ 0) (n8 := ρ 8) (n9 := ρ 9) (n10 := ρ 10) (H0 := η 0) (H1 := η 1) f20 f19 f18 f17 f16 f15 f14 f13 f12 f11 f10 f9 f8 f7 f6 f5 f4 f3 f2 f1 f0
def p_300_24 : List vG := [([(1, [10, 7, 9], [], 0), (0, [9], [], 1), (42, [7, 8], [], 0), (20, [8, 3], [1], 82), (90, [8], [], 0), (91, [8], [], 40), (5000, [0, 1, 2, 3, 4, 5, 6, 7], [0, 1], 24), (0, [0], [], 285), (90, [1], [], -2147483648), (91, [1], [], 2147483647), (90, [2], [], -2147483648), (91, [2], [], 2147483647), (0, [3], [], 285), (90, [4], [], -2147483648), (91, [4], [], 2147483647), (90, [5], [], -2147483648), (91, [5], [], 2147483647), (90, [6], [], -2147483648), (91, [6], [], 2147483647), (90, [7], [], 0), (91, [7], [], 40)], (91, [7], [], 39)),
  ([(1, [10, 7, 9], [], 0), (0, [9], [], 1), (42, [7, 8], [], 0), (20, [8, 3], [1], 82), (90, [8], [], 0), (91, [8], [], 40), (5000, [0, 1, 2, 3, 4, 5, 6, 7], [0, 1], 24), (0, [0], [], 285), (90, [1], [], -2147483648), (91, [1], [], 2147483647), (90, [2], [], -2147483648), (91, [2], [], 2147483647), (0, [3], [], 285), (90, [4], [], -2147483648), (91, [4], [], 2147483647), (90, [5], [], -2147483648), (91, [5], [], 2147483647), (90, [6], [], -2147483648), (91, [6], [], 2147483647), (90, [7], [], 0), (91, [7], [], 40)], (90, [10], [], 0)),
  ([(1, [10, 7, 9], [], 0), (0, [9], [], 1), (42, [7, 8], [], 0), (20, [8, 3], [1], 82), (90, [8], [], 0), (91, [8], [], 40), (5000, [0, 1, 2, 3, 4, 5, 6, 7], [0, 1], 24), (0, [0], [], 285), (90, [1], [], -2147483648), (91, [1], [], 2147483647), (90, [2], [], -2147483648), (91, [2], [], 2147483647), (0, [3], [], 285), (90, [4], [], -2147483648), (91, [4], [], 2147483647), (90, [5], [], -2147483648), (91, [5], [], 2147483647), (90, [6], [], -2147483648), (91, [6], [], 2147483647), (90, [7], [], 0), (91, [7], [], 40)], (91, [10], [], 40)),
  ([(1, [10, 7, 9], [], 0), (0, [9], [], 1), (42, [7, 8], [], 0), (20, [8, 3], [1], 82), (90, [8], [], 0), (91, [8], [], 40), (5000, [0, 1, 2, 3, 4, 5, 6, 7], [0, 1], 24), (0, [0], [], 285), (90, [1], [], -2147483648), (91, [1], [], 2147483647), (90, [2], [], -2147483648), (91, [2], [], 2147483647), (0, [3], [], 285), (90, [4], [], -2147483648), (91, [4], [], 2147483647), (90, [5], [], -2147483648), (91, [5], [], 2147483647), (90, [6], [], -2147483648), (91, [6], [], 2147483647), (90, [7], [], 0), (91, [7], [], 40)], (4000, [3, 4, 5, 6, 7, 10], [1], 39))]
theorem r_300_24 : vCovO true (eRc e_300 L_300 cs_300 2000 (24, [(0, (3, 12, 285, 0)), (1, (0, -2147483648, 2147483647, 0)), (2, (0, -2147483648, 2147483647, 0)), (3, (0, -2147483648, 2147483647, 0)), (4, (0, 0, 40, 0))])) p_300_24 = true := by decide +kernel
theorem q_300_8 {q0 : Nat} {n0 n1 n2 n3 n4 n5 n6 n7 n8 n9 n10 : Int} {H0 H1 : gH} (f0 : n0 ≤ 40) (f1 : 0 ≤ n0) (f2 : n1 ≤ 39) (f3 : 0 ≤ n1) (f4 : n2 ≤ 2147483647) (f5 : (-2147483648) ≤ n2) (f6 : n3 ≤ 2147483647) (f7 : (-2147483648) ≤ n3) (f8 : n4 ≤ 2147483647) (f9 : (-2147483648) ≤ n4) (f10 : n5 = 285) (f11 : n6 ≤ 2147483647) (f12 : (-2147483648) ≤ n6) (f13 : n7 ≤ 2147483647) (f14 : (-2147483648) ≤ n7) (f15 : n8 = 285) (f16 : (hLe T0 H0 H1 ∧ hFr s_300.2.2.2.2 H0 H1 ∧ hWt T0 H1) ∧ (Ab_300_39 n8 n7 n6 n5 n4 n3 n2 n1 n0 H0 H1 ∧ preb_300 n8 n7 n6 H0) ∧ some q0 = some (mub_300_39 n8 n7 n6 n5 n4 n3 n2 n1 n0 H0 H1)) (f17 : n9 ≤ 40) (f18 : 0 ≤ n9) (f19 : n9 = hV H1 (n5).toNat 82) (f20 : n9 ≤ n0) (f21 : n10 = w32 (n1 + 1)) : 0 ≤ n10 := by
  have g4 := f16.2.1.1
  unfold Ab_300_39 at g4
  have g3 := f16.2.1.2
  unfold preb_300 at g3
  have e0 : n9 = hV H1 285 82 := (by rw [f10] at f19; exact f19 : n9 = hV H1 285 82)
  have e1 : hV H1 298 = hV H0 298 := fRow f16.1.2.1 298 (by decide +kernel)
  have e2 : hV H1 300 = hV H0 300 := fRow f16.1.2.1 300 (by decide +kernel)
  have e3 : hV H1 301 = hV H0 301 := fRow f16.1.2.1 301 (by decide +kernel)
  have e4 : hV H1 302 = hV H0 302 := fRow f16.1.2.1 302 (by decide +kernel)
  have e5 : hV H1 303 = hV H0 303 := fRow f16.1.2.1 303 (by decide +kernel)
  have e6 : hV H1 305 = hV H0 305 := fRow f16.1.2.1 305 (by decide +kernel)
  have e7 : (0 : Int) ≤ hV H1 285 82 ∧ hV H1 285 82 ≤ 40 := f16.1.2.2 285 82 _ _ (by decide +kernel)
  try simp only [XQ] at *
  try simp only [e1, e2, e3, e4, e5, e6] at f16
  try simp only [e1, e2, e3, e4, e5, e6] at e7
  try simp only [e1, e2, e3, e4, e5, e6] at g3
  try simp only [e1, e2, e3, e4, e5, e6] at g4
  try simp only [e1, e2, e3, e4, e5, e6]
  have k0 := g4.1
  have k1 := g4.2.1
  have y0 := g4.2.2.1
  have y1 := g4.2.2.2
  have p0 := g3
  try simp only [e1, e2, e3, e4, e5, e6] at k0
  try simp only [e1, e2, e3, e4, e5, e6] at k1
  try simp only [e1, e2, e3, e4, e5, e6] at y0
  try simp only [e1, e2, e3, e4, e5, e6] at y1
  try simp only [e1, e2, e3, e4, e5, e6] at p0
  clear g3
  clear g4
  clear f19 e1 e2 e3 e4 e5 e6
  subst e0
  unfold w32 at *
  try (have ix0 : n10 = n1 + 1 := (by omega); subst ix0)
  try subst k1
  try subst k0
  omega
theorem c_300_39_0 {q0 : Nat} : vOkm T0 (eP e_300 L_300 A_300 mu_300 (some q0)) 3 ([(10, [10, 7], [], 1), (43, [8, 9], [], 0), (20, [9, 3], [1], 82), (90, [9], [], 0), (91, [9], [], 40), (5000, [0, 1, 2, 3, 4, 5, 6, 7, 8], [0, 1], 39), (0, [0], [], 285), (90, [1], [], -2147483648), (91, [1], [], 2147483647), (90, [2], [], -2147483648), (91, [2], [], 2147483647), (0, [3], [], 285), (90, [4], [], -2147483648), (91, [4], [], 2147483647), (90, [5], [], -2147483648), (91, [5], [], 2147483647), (90, [6], [], -2147483648), (91, [6], [], 2147483647), (90, [7], [], 0), (91, [7], [], 39), (90, [8], [], 0), (91, [8], [], 40)], (90, [10], [], 0)) := vOk_in fun ρ η h => by
  obtain ⟨f0, f1, f2, f3, f4, f5, f6, f7, f8, f9, f10, f11, f12, f13, f14, f15, f16, f17, f18, f19, f20, f21, _⟩ := h
  exact q_300_8 (q0 := q0) (n0 := ρ 8) (n1 := ρ 7) (n2 := ρ 6) (n3 := ρ 5) (n4 := ρ 4) (n5 := ρ 3) (n6 := ρ 2) (n7 := ρ 1) (n8 := ρ 0) (n9 := ρ 9) (n10 := ρ 10) (H0 := η 0) (H1 := η 1) f21 f20 f19 f18 f17 f16 f15 f14 f13 f12 f11 f10 f9 f8 f7 f6 f5 f4 f3 f2 f1 f0
theorem q_300_9 {q0 : Nat} {n0 n1 n2 n3 n4 n5 n6 n7 n8 n9 n10 : Int} {H0 H1 : gH} (f0 : n0 ≤ 40) (f1 : 0 ≤ n0) (f2 : n1 ≤ 39) (f3 : 0 ≤ n1) (f4 : n2 ≤ 2147483647) (f5 : (-2147483648) ≤ n2) (f6 : n3 ≤ 2147483647) (f7 : (-2147483648) ≤ n3) (f8 : n4 ≤ 2147483647) (f9 : (-2147483648) ≤ n4) (f10 : n5 = 285) (f11 : n6 ≤ 2147483647) (f12 : (-2147483648) ≤ n6) (f13 : n7 ≤ 2147483647) (f14 : (-2147483648) ≤ n7) (f15 : n8 = 285) (f16 : (hLe T0 H0 H1 ∧ hFr s_300.2.2.2.2 H0 H1 ∧ hWt T0 H1) ∧ (Ab_300_39 n8 n7 n6 n5 n4 n3 n2 n1 n0 H0 H1 ∧ preb_300 n8 n7 n6 H0) ∧ some q0 = some (mub_300_39 n8 n7 n6 n5 n4 n3 n2 n1 n0 H0 H1)) (f17 : n9 ≤ 40) (f18 : 0 ≤ n9) (f19 : n9 = hV H1 (n5).toNat 82) (f20 : n9 ≤ n0) (f21 : n10 = w32 (n1 + 1)) : n10 ≤ 40 := by
  have g4 := f16.2.1.1
  unfold Ab_300_39 at g4
  have g3 := f16.2.1.2
  unfold preb_300 at g3
  have e0 : n9 = hV H1 285 82 := (by rw [f10] at f19; exact f19 : n9 = hV H1 285 82)
  have e1 : hV H1 298 = hV H0 298 := fRow f16.1.2.1 298 (by decide +kernel)
  have e2 : hV H1 300 = hV H0 300 := fRow f16.1.2.1 300 (by decide +kernel)
  have e3 : hV H1 301 = hV H0 301 := fRow f16.1.2.1 301 (by decide +kernel)
  have e4 : hV H1 302 = hV H0 302 := fRow f16.1.2.1 302 (by decide +kernel)
  have e5 : hV H1 303 = hV H0 303 := fRow f16.1.2.1 303 (by decide +kernel)
  have e6 : hV H1 305 = hV H0 305 := fRow f16.1.2.1 305 (by decide +kernel)
  have e7 : (0 : Int) ≤ hV H1 285 82 ∧ hV H1 285 82 ≤ 40 := f16.1.2.2 285 82 _ _ (by decide +kernel)
  try simp only [XQ] at *
  try simp only [e1, e2, e3, e4, e5, e6] at f16
  try simp only [e1, e2, e3, e4, e5, e6] at e7
  try simp only [e1, e2, e3, e4, e5, e6] at g3
  try simp only [e1, e2, e3, e4, e5, e6] at g4
  try simp only [e1, e2, e3, e4, e5, e6]
  have k0 := g4.1
  have k1 := g4.2.1
  have y0 := g4.2.2.1
  have y1 := g4.2.2.2
  have p0 := g3
  try simp only [e1, e2, e3, e4, e5, e6] at k0
  try simp only [e1, e2, e3, e4, e5, e6] at k1
  try simp only [e1, e2, e3, e4, e5, e6] at y0
  try simp only [e1, e2, e3, e4, e5, e6] at y1
  try simp only [e1, e2, e3, e4, e5, e6] at p0
  clear g3
  clear g4
  clear f19 e1 e2 e3 e4 e5 e6
  subst e0
  unfold w32 at *
  try (have ix0 : n10 = n1 + 1 := (by omega); subst ix0)
  try subst k1
  try subst k0
  omega
theorem c_300_39_1 {q0 : Nat} : vOkm T0 (eP e_300 L_300 A_300 mu_300 (some q0)) 3 ([(10, [10, 7], [], 1), (43, [8, 9], [], 0), (20, [9, 3], [1], 82), (90, [9], [], 0), (91, [9], [], 40), (5000, [0, 1, 2, 3, 4, 5, 6, 7, 8], [0, 1], 39), (0, [0], [], 285), (90, [1], [], -2147483648), (91, [1], [], 2147483647), (90, [2], [], -2147483648), (91, [2], [], 2147483647), (0, [3], [], 285), (90, [4], [], -2147483648), (91, [4], [], 2147483647), (90, [5], [], -2147483648), (91, [5], [], 2147483647), (90, [6], [], -2147483648), (91, [6], [], 2147483647), (90, [7], [], 0), (91, [7], [], 39), (90, [8], [], 0), (91, [8], [], 40)], (91, [10], [], 40)) := vOk_in fun ρ η h => by
  obtain ⟨f0, f1, f2, f3, f4, f5, f6, f7, f8, f9, f10, f11, f12, f13, f14, f15, f16, f17, f18, f19, f20, f21, _⟩ := h
  exact q_300_9 (q0 := q0) (n0 := ρ 8) (n1 := ρ 7) (n2 := ρ 6) (n3 := ρ 5) (n4 := ρ 4) (n5 := ρ 3) (n6 := ρ 2) (n7 := ρ 1) (n8 := ρ 0) (n9 := ρ 9) (n10 := ρ 10) (H0 := η 0) (H1 := η 1) f21 f20 f19 f18 f17 f16 f15 f14 f13 f12 f11 f10 f9 f8 f7 f6 f5 f4 f3 f2 f1 f0
theorem q_300_10 {q0 : Nat} {n0 n1 n2 n3 n4 n5 n6 n7 n8 n9 n10 : Int} {H0 H1 : gH} (f0 : n0 ≤ 40) (f1 : 0 ≤ n0) (f2 : n1 ≤ 39) (f3 : 0 ≤ n1) (f4 : n2 ≤ 2147483647) (f5 : (-2147483648) ≤ n2) (f6 : n3 ≤ 2147483647) (f7 : (-2147483648) ≤ n3) (f8 : n4 ≤ 2147483647) (f9 : (-2147483648) ≤ n4) (f10 : n5 = 285) (f11 : n6 ≤ 2147483647) (f12 : (-2147483648) ≤ n6) (f13 : n7 ≤ 2147483647) (f14 : (-2147483648) ≤ n7) (f15 : n8 = 285) (f16 : (hLe T0 H0 H1 ∧ hFr s_300.2.2.2.2 H0 H1 ∧ hWt T0 H1) ∧ (Ab_300_39 n8 n7 n6 n5 n4 n3 n2 n1 n0 H0 H1 ∧ preb_300 n8 n7 n6 H0) ∧ some q0 = some (mub_300_39 n8 n7 n6 n5 n4 n3 n2 n1 n0 H0 H1)) (f17 : n9 ≤ 40) (f18 : 0 ≤ n9) (f19 : n9 = hV H1 (n5).toNat 82) (f20 : n9 ≤ n0) (f21 : n10 = w32 (n1 + 1)) : Ab_300_24 n8 n7 n6 n5 n4 n3 n2 n10 H0 H1 ∧ ∀ q, some q0 = some q → mub_300_24 n8 n7 n6 n5 n4 n3 n2 n10 H0 H1 < q := by
  have g4 := f16.2.1.1
  unfold Ab_300_39 at g4
  have g3 := f16.2.1.2
  unfold preb_300 at g3
  have g5 := Option.some.inj f16.2.2
  unfold mub_300_39 at g5
  unfold Ab_300_24
  unfold mub_300_24
  have e0 : n9 = hV H1 285 82 := (by rw [f10] at f19; exact f19 : n9 = hV H1 285 82)
  have e1 : hV H1 298 = hV H0 298 := fRow f16.1.2.1 298 (by decide +kernel)
  have e2 : hV H1 300 = hV H0 300 := fRow f16.1.2.1 300 (by decide +kernel)
  have e3 : hV H1 301 = hV H0 301 := fRow f16.1.2.1 301 (by decide +kernel)
  have e4 : hV H1 302 = hV H0 302 := fRow f16.1.2.1 302 (by decide +kernel)
  have e5 : hV H1 303 = hV H0 303 := fRow f16.1.2.1 303 (by decide +kernel)
  have e6 : hV H1 305 = hV H0 305 := fRow f16.1.2.1 305 (by decide +kernel)
  have e7 : (0 : Int) ≤ hV H1 285 82 ∧ hV H1 285 82 ≤ 40 := f16.1.2.2 285 82 _ _ (by decide +kernel)
  try simp only [XQ] at *
  try simp only [e1, e2, e3, e4, e5, e6] at f16
  try simp only [e1, e2, e3, e4, e5, e6] at e7
  try simp only [e1, e2, e3, e4, e5, e6] at g3
  try simp only [e1, e2, e3, e4, e5, e6] at g4
  try simp only [e1, e2, e3, e4, e5, e6] at g5
  try simp only [e1, e2, e3, e4, e5, e6]
  have k0 := g4.1
  have k1 := g4.2.1
  have y0 := g4.2.2.1
  have y1 := g4.2.2.2
  have p0 := g3
  try simp only [e1, e2, e3, e4, e5, e6] at k0
  try simp only [e1, e2, e3, e4, e5, e6] at k1
  try simp only [e1, e2, e3, e4, e5, e6] at y0
  try simp only [e1, e2, e3, e4, e5, e6] at y1
  try simp only [e1, e2, e3, e4, e5, e6] at p0
  clear g3
  clear g4
  clear f19 e1 e2 e3 e4 e5 e6
  subst e0
  unfold w32 at *
  try (have ix0 : n10 = n1 + 1 := (by omega); subst ix0)
  try subst k1
  try subst k0
  refine ⟨?_, fun q hq => ?_⟩
  · refine ⟨?_, ?_, ?_⟩ <;> first | assumption | omega | trivial
  · have g6 := Option.some.inj hq
    subst g6
    omega
theorem c_300_39_2 {q0 : Nat} : vOkm T0 (eP e_300 L_300 A_300 mu_300 (some q0)) 3 ([(10, [10, 7], [], 1), (43, [8, 9], [], 0), (20, [9, 3], [1], 82), (90, [9], [], 0), (91, [9], [], 40), (5000, [0, 1, 2, 3, 4, 5, 6, 7, 8], [0, 1], 39), (0, [0], [], 285), (90, [1], [], -2147483648), (91, [1], [], 2147483647), (90, [2], [], -2147483648), (91, [2], [], 2147483647), (0, [3], [], 285), (90, [4], [], -2147483648), (91, [4], [], 2147483647), (90, [5], [], -2147483648), (91, [5], [], 2147483647), (90, [6], [], -2147483648), (91, [6], [], 2147483647), (90, [7], [], 0), (91, [7], [], 39), (90, [8], [], 0), (91, [8], [], 40)], (4000, [3, 4, 5, 6, 10], [1], 24)) := vOk_in fun ρ η h => by
  obtain ⟨f0, f1, f2, f3, f4, f5, f6, f7, f8, f9, f10, f11, f12, f13, f14, f15, f16, f17, f18, f19, f20, f21, _⟩ := h
  exact q_300_10 (q0 := q0) (n0 := ρ 8) (n1 := ρ 7) (n2 := ρ 6) (n3 := ρ 5) (n4 := ρ 4) (n5 := ρ 3) (n6 := ρ 2) (n7 := ρ 1) (n8 := ρ 0) (n9 := ρ 9) (n10 := ρ 10) (H0 := η 0) (H1 := η 1) f21 f20 f19 f18 f17 f16 f15 f14 f13 f12 f11 f10 f9 f8 f7 f6 f5 f4 f3 f2 f1 f0
theorem q_300_11 {q0 : Nat} {n0 n1 n2 n3 n4 n5 n6 n7 n8 n9 n10 n11 n12 n13 n14 n15 : Int} {H0 H1 : gH} (f0 : n0 ≤ 40) (f1 : 0 ≤ n0) (f2 : n1 ≤ 39) (f3 : 0 ≤ n1) (f4 : n2 ≤ 2147483647) (f5 : (-2147483648) ≤ n2) (f6 : n3 ≤ 2147483647) (f7 : (-2147483648) ≤ n3) (f8 : n4 ≤ 2147483647) (f9 : (-2147483648) ≤ n4) (f10 : n5 = 285) (f11 : n6 ≤ 2147483647) (f12 : (-2147483648) ≤ n6) (f13 : n7 ≤ 2147483647) (f14 : (-2147483648) ≤ n7) (f15 : n8 = 285) (f16 : (hLe T0 H0 H1 ∧ hFr s_300.2.2.2.2 H0 H1 ∧ hWt T0 H1) ∧ (Ab_300_39 n8 n7 n6 n5 n4 n3 n2 n1 n0 H0 H1 ∧ preb_300 n8 n7 n6 H0) ∧ some q0 = some (mub_300_39 n8 n7 n6 n5 n4 n3 n2 n1 n0 H0 H1)) (f17 : n9 ≤ 40) (f18 : 0 ≤ n9) (f19 : n9 = hV H1 (n5).toNat 82) (f20 : n0 < n9) (f21 : n10 = 298) (f22 : n10 = hV H1 (n5).toNat 24) (f23 : n11 = 344) (f24 : n11 = hV H1 (n5).toNat 83) (f25 : n12 ≤ 1007) (f26 : 0 ≤ n12) (f27 : n12 = hV H1 (n11).toNat (n1).toNat) (f28 : n13 ≤ 5) (f29 : 0 ≤ n13) (f30 : n13 = hV H1 (n10).toNat (n12).toNat) (f31 : n14 = 1) (f32 : n13 ≠ n14) (f33 : n15 = w32 (n0 + 1)) : 0 ≤ n15 := by
  have g4 := f16.2.1.1
  unfold Ab_300_39 at g4
  have g3 := f16.2.1.2
  unfold preb_300 at g3
  have e0 : n9 = hV H1 285 82 := (by rw [f10] at f19; exact f19 : n9 = hV H1 285 82)
  have e1 : n12 = hV H1 344 (n1).toNat := (by rw [f23] at f27; exact f27 : n12 = hV H1 344 (n1).toNat)
  have e2 : hV H1 298 = hV H0 298 := fRow f16.1.2.1 298 (by decide +kernel)
  have e3 : n13 = hV H0 298 (n12).toNat := (by rw [f21] at f30; exact f30 : n13 = hV H1 298 (n12).toNat).trans ((congrFun e2 _))
  have e4 : hV H1 300 = hV H0 300 := fRow f16.1.2.1 300 (by decide +kernel)
  have e5 : hV H1 301 = hV H0 301 := fRow f16.1.2.1 301 (by decide +kernel)
  have e6 : hV H1 302 = hV H0 302 := fRow f16.1.2.1 302 (by decide +kernel)
  have e7 : hV H1 303 = hV H0 303 := fRow f16.1.2.1 303 (by decide +kernel)
  have e8 : hV H1 305 = hV H0 305 := fRow f16.1.2.1 305 (by decide +kernel)
  have e9 : (0 : Int) ≤ hV H1 285 82 ∧ hV H1 285 82 ≤ 40 := f16.1.2.2 285 82 _ _ (by decide +kernel)
  try simp only [XQ] at *
  try simp only [e2, e4, e5, e6, e7, e8] at f16
  try simp only [e2, e4, e5, e6, e7, e8] at e9
  try simp only [e2, e4, e5, e6, e7, e8] at g3
  try simp only [e2, e4, e5, e6, e7, e8] at g4
  try simp only [e2, e4, e5, e6, e7, e8]
  have k0 := g4.1
  have k1 := g4.2.1
  have y0 := g4.2.2.1
  have y1 := g4.2.2.2
  have p0 := g3
  try simp only [e2, e4, e5, e6, e7, e8] at k0
  try simp only [e2, e4, e5, e6, e7, e8] at k1
  try simp only [e2, e4, e5, e6, e7, e8] at y0
  try simp only [e2, e4, e5, e6, e7, e8] at y1
  try simp only [e2, e4, e5, e6, e7, e8] at p0
  clear g3
  clear g4
  clear f19 f22 f24 f27 f30 e2 e4 e5 e6 e7 e8
  subst e0
  subst e1
  subst e3
  unfold w32 at *
  try (have ix0 : n15 = n0 + 1 := (by omega); subst ix0)
  try subst k1
  try subst k0
  omega
theorem c_300_39_3 {q0 : Nat} : vOkm T0 (eP e_300 L_300 A_300 mu_300 (some q0)) 3 ([(10, [15, 8], [], 1), (41, [13, 14], [], 0), (0, [14], [], 1), (22, [13, 10, 12], [1], 0), (90, [13], [], 0), (91, [13], [], 5), (22, [12, 11, 7], [1], 0), (90, [12], [], 0), (91, [12], [], 1007), (20, [11, 3], [1], 83), (0, [11], [], 344), (20, [10, 3], [1], 24), (0, [10], [], 298), (42, [8, 9], [], 0), (20, [9, 3], [1], 82), (90, [9], [], 0), (91, [9], [], 40), (5000, [0, 1, 2, 3, 4, 5, 6, 7, 8], [0, 1], 39), (0, [0], [], 285), (90, [1], [], -2147483648), (91, [1], [], 2147483647), (90, [2], [], -2147483648), (91, [2], [], 2147483647), (0, [3], [], 285), (90, [4], [], -2147483648), (91, [4], [], 2147483647), (90, [5], [], -2147483648), (91, [5], [], 2147483647), (90, [6], [], -2147483648), (91, [6], [], 2147483647), (90, [7], [], 0), (91, [7], [], 39), (90, [8], [], 0), (91, [8], [], 40)], (90, [15], [], 0)) := vOk_in fun ρ η h => by
  obtain ⟨f0, f1, f2, f3, f4, f5, f6, f7, f8, f9, f10, f11, f12, f13, f14, f15, f16, f17, f18, f19, f20, f21, f22, f23, f24, f25, f26, f27, f28, f29, f30, f31, f32, f33, _⟩ := h
  exact q_300_11 (q0 := q0) (n0 := ρ 8) (n1 := ρ 7) (n2 := ρ 6) (n3 := ρ 5) (n4 := ρ 4) (n5 := ρ 3) (n6 := ρ 2) (n7 := ρ 1) (n8 := ρ 0) (n9 := ρ 9) (n10 := ρ 10) (n11 := ρ 11) (n12 := ρ 12) (n13 := ρ 13) (n14 := ρ 14) (n15 := ρ 15) (H0 := η 0) (H1 := η 1) f33 f32 f31 f30 f29 f28 f27 f26 f25 f24 f23 f22 f21 f20 f19 f18 f17 f16 f15 f14 f13 f12 f11 f10 f9 f8 f7 f6 f5 f4 f3 f2 f1 f0
theorem q_300_12 {q0 : Nat} {n0 n1 n2 n3 n4 n5 n6 n7 n8 n9 n10 n11 n12 n13 n14 n15 : Int} {H0 H1 : gH} (f0 : n0 ≤ 40) (f1 : 0 ≤ n0) (f2 : n1 ≤ 39) (f3 : 0 ≤ n1) (f4 : n2 ≤ 2147483647) (f5 : (-2147483648) ≤ n2) (f6 : n3 ≤ 2147483647) (f7 : (-2147483648) ≤ n3) (f8 : n4 ≤ 2147483647) (f9 : (-2147483648) ≤ n4) (f10 : n5 = 285) (f11 : n6 ≤ 2147483647) (f12 : (-2147483648) ≤ n6) (f13 : n7 ≤ 2147483647) (f14 : (-2147483648) ≤ n7) (f15 : n8 = 285) (f16 : (hLe T0 H0 H1 ∧ hFr s_300.2.2.2.2 H0 H1 ∧ hWt T0 H1) ∧ (Ab_300_39 n8 n7 n6 n5 n4 n3 n2 n1 n0 H0 H1 ∧ preb_300 n8 n7 n6 H0) ∧ some q0 = some (mub_300_39 n8 n7 n6 n5 n4 n3 n2 n1 n0 H0 H1)) (f17 : n9 ≤ 40) (f18 : 0 ≤ n9) (f19 : n9 = hV H1 (n5).toNat 82) (f20 : n0 < n9) (f21 : n10 = 298) (f22 : n10 = hV H1 (n5).toNat 24) (f23 : n11 = 344) (f24 : n11 = hV H1 (n5).toNat 83) (f25 : n12 ≤ 1007) (f26 : 0 ≤ n12) (f27 : n12 = hV H1 (n11).toNat (n1).toNat) (f28 : n13 ≤ 5) (f29 : 0 ≤ n13) (f30 : n13 = hV H1 (n10).toNat (n12).toNat) (f31 : n14 = 1) (f32 : n13 ≠ n14) (f33 : n15 = w32 (n0 + 1)) : n15 ≤ 40 := by
  have g4 := f16.2.1.1
  unfold Ab_300_39 at g4
  have g3 := f16.2.1.2
  unfold preb_300 at g3
  have e0 : n9 = hV H1 285 82 := (by rw [f10] at f19; exact f19 : n9 = hV H1 285 82)
  have e1 : n12 = hV H1 344 (n1).toNat := (by rw [f23] at f27; exact f27 : n12 = hV H1 344 (n1).toNat)
  have e2 : hV H1 298 = hV H0 298 := fRow f16.1.2.1 298 (by decide +kernel)
  have e3 : n13 = hV H0 298 (n12).toNat := (by rw [f21] at f30; exact f30 : n13 = hV H1 298 (n12).toNat).trans ((congrFun e2 _))
  have e4 : hV H1 300 = hV H0 300 := fRow f16.1.2.1 300 (by decide +kernel)
  have e5 : hV H1 301 = hV H0 301 := fRow f16.1.2.1 301 (by decide +kernel)
  have e6 : hV H1 302 = hV H0 302 := fRow f16.1.2.1 302 (by decide +kernel)
  have e7 : hV H1 303 = hV H0 303 := fRow f16.1.2.1 303 (by decide +kernel)
  have e8 : hV H1 305 = hV H0 305 := fRow f16.1.2.1 305 (by decide +kernel)
  have e9 : (0 : Int) ≤ hV H1 285 82 ∧ hV H1 285 82 ≤ 40 := f16.1.2.2 285 82 _ _ (by decide +kernel)
  try simp only [XQ] at *
  try simp only [e2, e4, e5, e6, e7, e8] at f16
  try simp only [e2, e4, e5, e6, e7, e8] at e9
  try simp only [e2, e4, e5, e6, e7, e8] at g3
  try simp only [e2, e4, e5, e6, e7, e8] at g4
  try simp only [e2, e4, e5, e6, e7, e8]
  have k0 := g4.1
  have k1 := g4.2.1
  have y0 := g4.2.2.1
  have y1 := g4.2.2.2
  have p0 := g3
  try simp only [e2, e4, e5, e6, e7, e8] at k0
  try simp only [e2, e4, e5, e6, e7, e8] at k1
  try simp only [e2, e4, e5, e6, e7, e8] at y0
  try simp only [e2, e4, e5, e6, e7, e8] at y1
  try simp only [e2, e4, e5, e6, e7, e8] at p0
  clear g3
  clear g4
  clear f19 f22 f24 f27 f30 e2 e4 e5 e6 e7 e8
  subst e0
  subst e1
  subst e3
  unfold w32 at *
  try (have ix0 : n15 = n0 + 1 := (by omega); subst ix0)
  try subst k1
  try subst k0
  omega
theorem c_300_39_4 {q0 : Nat} : vOkm T0 (eP e_300 L_300 A_300 mu_300 (some q0)) 3 ([(10, [15, 8], [], 1), (41, [13, 14], [], 0), (0, [14], [], 1), (22, [13, 10, 12], [1], 0), (90, [13], [], 0), (91, [13], [], 5), (22, [12, 11, 7], [1], 0), (90, [12], [], 0), (91, [12], [], 1007), (20, [11, 3], [1], 83), (0, [11], [], 344), (20, [10, 3], [1], 24), (0, [10], [], 298), (42, [8, 9], [], 0), (20, [9, 3], [1], 82), (90, [9], [], 0), (91, [9], [], 40), (5000, [0, 1, 2, 3, 4, 5, 6, 7, 8], [0, 1], 39), (0, [0], [], 285), (90, [1], [], -2147483648), (91, [1], [], 2147483647), (90, [2], [], -2147483648), (91, [2], [], 2147483647), (0, [3], [], 285), (90, [4], [], -2147483648), (91, [4], [], 2147483647), (90, [5], [], -2147483648), (91, [5], [], 2147483647), (90, [6], [], -2147483648), (91, [6], [], 2147483647), (90, [7], [], 0), (91, [7], [], 39), (90, [8], [], 0), (91, [8], [], 40)], (91, [15], [], 40)) := vOk_in fun ρ η h => by
  obtain ⟨f0, f1, f2, f3, f4, f5, f6, f7, f8, f9, f10, f11, f12, f13, f14, f15, f16, f17, f18, f19, f20, f21, f22, f23, f24, f25, f26, f27, f28, f29, f30, f31, f32, f33, _⟩ := h
  exact q_300_12 (q0 := q0) (n0 := ρ 8) (n1 := ρ 7) (n2 := ρ 6) (n3 := ρ 5) (n4 := ρ 4) (n5 := ρ 3) (n6 := ρ 2) (n7 := ρ 1) (n8 := ρ 0) (n9 := ρ 9) (n10 := ρ 10) (n11 := ρ 11) (n12 := ρ 12) (n13 := ρ 13) (n14 := ρ 14) (n15 := ρ 15) (H0 := η 0) (H1 := η 1) f33 f32 f31 f30 f29 f28 f27 f26 f25 f24 f23 f22 f21 f20 f19 f18 f17 f16 f15 f14 f13 f12 f11 f10 f9 f8 f7 f6 f5 f4 f3 f2 f1 f0
theorem q_300_13 {q0 : Nat} {n0 n1 n2 n3 n4 n5 n6 n7 n8 n9 n10 n11 n12 n13 n14 n15 : Int} {H0 H1 : gH} (f0 : n0 ≤ 40) (f1 : 0 ≤ n0) (f2 : n1 ≤ 39) (f3 : 0 ≤ n1) (f4 : n2 ≤ 2147483647) (f5 : (-2147483648) ≤ n2) (f6 : n3 ≤ 2147483647) (f7 : (-2147483648) ≤ n3) (f8 : n4 ≤ 2147483647) (f9 : (-2147483648) ≤ n4) (f10 : n5 = 285) (f11 : n6 ≤ 2147483647) (f12 : (-2147483648) ≤ n6) (f13 : n7 ≤ 2147483647) (f14 : (-2147483648) ≤ n7) (f15 : n8 = 285) (f16 : (hLe T0 H0 H1 ∧ hFr s_300.2.2.2.2 H0 H1 ∧ hWt T0 H1) ∧ (Ab_300_39 n8 n7 n6 n5 n4 n3 n2 n1 n0 H0 H1 ∧ preb_300 n8 n7 n6 H0) ∧ some q0 = some (mub_300_39 n8 n7 n6 n5 n4 n3 n2 n1 n0 H0 H1)) (f17 : n9 ≤ 40) (f18 : 0 ≤ n9) (f19 : n9 = hV H1 (n5).toNat 82) (f20 : n0 < n9) (f21 : n10 = 298) (f22 : n10 = hV H1 (n5).toNat 24) (f23 : n11 = 344) (f24 : n11 = hV H1 (n5).toNat 83) (f25 : n12 ≤ 1007) (f26 : 0 ≤ n12) (f27 : n12 = hV H1 (n11).toNat (n1).toNat) (f28 : n13 ≤ 5) (f29 : 0 ≤ n13) (f30 : n13 = hV H1 (n10).toNat (n12).toNat) (f31 : n14 = 1) (f32 : n13 ≠ n14) (f33 : n15 = w32 (n0 + 1)) : Ab_300_39 n8 n7 n6 n5 n4 n3 n2 n1 n15 H0 H1 ∧ ∀ q, some q0 = some q → mub_300_39 n8 n7 n6 n5 n4 n3 n2 n1 n15 H0 H1 < q := by
  have g4 := f16.2.1.1
  unfold Ab_300_39 at g4
  have g3 := f16.2.1.2
  unfold preb_300 at g3
  have g5 := Option.some.inj f16.2.2
  unfold mub_300_39 at g5
  unfold Ab_300_39
  unfold mub_300_39
  have e0 : n9 = hV H1 285 82 := (by rw [f10] at f19; exact f19 : n9 = hV H1 285 82)
  have e1 : n12 = hV H1 344 (n1).toNat := (by rw [f23] at f27; exact f27 : n12 = hV H1 344 (n1).toNat)
  have e2 : hV H1 298 = hV H0 298 := fRow f16.1.2.1 298 (by decide +kernel)
  have e3 : n13 = hV H0 298 (n12).toNat := (by rw [f21] at f30; exact f30 : n13 = hV H1 298 (n12).toNat).trans ((congrFun e2 _))
  have e4 : hV H1 300 = hV H0 300 := fRow f16.1.2.1 300 (by decide +kernel)
  have e5 : hV H1 301 = hV H0 301 := fRow f16.1.2.1 301 (by decide +kernel)
  have e6 : hV H1 302 = hV H0 302 := fRow f16.1.2.1 302 (by decide +kernel)
  have e7 : hV H1 303 = hV H0 303 := fRow f16.1.2.1 303 (by decide +kernel)
  have e8 : hV H1 305 = hV H0 305 := fRow f16.1.2.1 305 (by decide +kernel)
  have e9 : (0 : Int) ≤ hV H1 285 82 ∧ hV H1 285 82 ≤ 40 := f16.1.2.2 285 82 _ _ (by decide +kernel)
  try simp only [XQ] at *
  try simp only [e2, e4, e5, e6, e7, e8] at f16
  try simp only [e2, e4, e5, e6, e7, e8] at e9
  try simp only [e2, e4, e5, e6, e7, e8] at g3
  try simp only [e2, e4, e5, e6, e7, e8] at g4
  try simp only [e2, e4, e5, e6, e7, e8] at g5
  try simp only [e2, e4, e5, e6, e7, e8]
  have k0 := g4.1
  have k1 := g4.2.1
  have y0 := g4.2.2.1
  have y1 := g4.2.2.2
  have p0 := g3
  try simp only [e2, e4, e5, e6, e7, e8] at k0
  try simp only [e2, e4, e5, e6, e7, e8] at k1
  try simp only [e2, e4, e5, e6, e7, e8] at y0
  try simp only [e2, e4, e5, e6, e7, e8] at y1
  try simp only [e2, e4, e5, e6, e7, e8] at p0
  clear g3
  clear g4
  clear f19 f22 f24 f27 f30 e2 e4 e5 e6 e7 e8
  subst e0
  subst e1
  subst e3
  unfold w32 at *
  try (have ix0 : n15 = n0 + 1 := (by omega); subst ix0)
  try subst k1
  try subst k0
  refine ⟨?_, fun q hq => ?_⟩
  · refine ⟨?_, ?_, ?_, ?_⟩ <;> first | assumption | omega | trivial
  · have g6 := Option.some.inj hq
    subst g6
    omega
theorem c_300_39_5 {q0 : Nat} : vOkm T0 (eP e_300 L_300 A_300 mu_300 (some q0)) 3 ([(10, [15, 8], [], 1), (41, [13, 14], [], 0), (0, [14], [], 1), (22, [13, 10, 12], [1], 0), (90, [13], [], 0), (91, [13], [], 5), (22, [12, 11, 7], [1], 0), (90, [12], [], 0), (91, [12], [], 1007), (20, [11, 3], [1], 83), (0, [11], [], 344), (20, [10, 3], [1], 24), (0, [10], [], 298), (42, [8, 9], [], 0), (20, [9, 3], [1], 82), (90, [9], [], 0), (91, [9], [], 40), (5000, [0, 1, 2, 3, 4, 5, 6, 7, 8], [0, 1], 39), (0, [0], [], 285), (90, [1], [], -2147483648), (91, [1], [], 2147483647), (90, [2], [], -2147483648), (91, [2], [], 2147483647), (0, [3], [], 285), (90, [4], [], -2147483648), (91, [4], [], 2147483647), (90, [5], [], -2147483648), (91, [5], [], 2147483647), (90, [6], [], -2147483648), (91, [6], [], 2147483647), (90, [7], [], 0), (91, [7], [], 39), (90, [8], [], 0), (91, [8], [], 40)], (4000, [3, 4, 5, 6, 7, 15], [1], 39)) := vOk_in fun ρ η h => by
  obtain ⟨f0, f1, f2, f3, f4, f5, f6, f7, f8, f9, f10, f11, f12, f13, f14, f15, f16, f17, f18, f19, f20, f21, f22, f23, f24, f25, f26, f27, f28, f29, f30, f31, f32, f33, _⟩ := h
  exact q_300_13 (q0 := q0) (n0 := ρ 8) (n1 := ρ 7) (n2 := ρ 6) (n3 := ρ 5) (n4 := ρ 4) (n5 := ρ 3) (n6 := ρ 2) (n7 := ρ 1) (n8 := ρ 0) (n9 := ρ 9) (n10 := ρ 10) (n11 := ρ 11) (n12 := ρ 12) (n13 := ρ 13) (n14 := ρ 14) (n15 := ρ 15) (H0 := η 0) (H1 := η 1) f33 f32 f31 f30 f29 f28 f27 f26 f25 f24 f23 f22 f21 f20 f19 f18 f17 f16 f15 f14 f13 f12 f11 f10 f9 f8 f7 f6 f5 f4 f3 f2 f1 f0
theorem q_300_14 {q0 : Nat} {n0 n1 n2 n3 n4 n5 n6 n7 n8 n9 n10 n11 n12 n13 n14 n15 n16 : Int} {H0 H1 : gH} (f0 : n0 ≤ 40) (f1 : 0 ≤ n0) (f2 : n1 ≤ 39) (f3 : 0 ≤ n1) (f4 : n2 ≤ 2147483647) (f5 : (-2147483648) ≤ n2) (f6 : n3 ≤ 2147483647) (f7 : (-2147483648) ≤ n3) (f8 : n4 ≤ 2147483647) (f9 : (-2147483648) ≤ n4) (f10 : n5 = 285) (f11 : n6 ≤ 2147483647) (f12 : (-2147483648) ≤ n6) (f13 : n7 ≤ 2147483647) (f14 : (-2147483648) ≤ n7) (f15 : n8 = 285) (f16 : (hLe T0 H0 H1 ∧ hFr s_300.2.2.2.2 H0 H1 ∧ hWt T0 H1) ∧ (Ab_300_39 n8 n7 n6 n5 n4 n3 n2 n1 n0 H0 H1 ∧ preb_300 n8 n7 n6 H0) ∧ some q0 = some (mub_300_39 n8 n7 n6 n5 n4 n3 n2 n1 n0 H0 H1)) (f17 : n9 ≤ 40) (f18 : 0 ≤ n9) (f19 : n9 = hV H1 (n5).toNat 82) (f20 : n0 < n9) (f21 : n10 = 298) (f22 : n10 = hV H1 (n5).toNat 24) (f23 : n11 = 344) (f24 : n11 = hV H1 (n5).toNat 83) (f25 : n12 ≤ 1007) (f26 : 0 ≤ n12) (f27 : n12 = hV H1 (n11).toNat (n1).toNat) (f28 : n13 ≤ 5) (f29 : 0 ≤ n13) (f30 : n13 = hV H1 (n10).toNat (n12).toNat) (f31 : n14 = 1) (f32 : n13 = n14) (f33 : n15 = 298) (f34 : n15 = hV H1 (n5).toNat 24) (f35 : n16 = 344) (f36 : n16 = hV H1 (n5).toNat 83) : 0 ≤ n0 ∧ n0 < 40 := by
  have g4 := f16.2.1.1
  unfold Ab_300_39 at g4
  have g3 := f16.2.1.2
  unfold preb_300 at g3
  have e0 : n9 = hV H1 285 82 := (by rw [f10] at f19; exact f19 : n9 = hV H1 285 82)
  have e1 : n12 = hV H1 344 (n1).toNat := (by rw [f23] at f27; exact f27 : n12 = hV H1 344 (n1).toNat)
  have e2 : hV H1 298 = hV H0 298 := fRow f16.1.2.1 298 (by decide +kernel)
  have e3 : n13 = hV H0 298 (n12).toNat := (by rw [f21] at f30; exact f30 : n13 = hV H1 298 (n12).toNat).trans ((congrFun e2 _))
  have e4 : hV H1 300 = hV H0 300 := fRow f16.1.2.1 300 (by decide +kernel)
  have e5 : hV H1 301 = hV H0 301 := fRow f16.1.2.1 301 (by decide +kernel)
  have e6 : hV H1 302 = hV H0 302 := fRow f16.1.2.1 302 (by decide +kernel)
  have e7 : hV H1 303 = hV H0 303 := fRow f16.1.2.1 303 (by decide +kernel)
  have e8 : hV H1 305 = hV H0 305 := fRow f16.1.2.1 305 (by decide +kernel)
  have e9 : (0 : Int) ≤ hV H1 285 82 ∧ hV H1 285 82 ≤ 40 := f16.1.2.2 285 82 _ _ (by decide +kernel)
  try simp only [XQ] at *
  try simp only [e2, e4, e5, e6, e7, e8] at f16
  try simp only [e2, e4, e5, e6, e7, e8] at e9
  try simp only [e2, e4, e5, e6, e7, e8] at g3
  try simp only [e2, e4, e5, e6, e7, e8] at g4
  try simp only [e2, e4, e5, e6, e7, e8]
  have k0 := g4.1
  have k1 := g4.2.1
  have y0 := g4.2.2.1
  have y1 := g4.2.2.2
  have p0 := g3
  try simp only [e2, e4, e5, e6, e7, e8] at k0
  try simp only [e2, e4, e5, e6, e7, e8] at k1
  try simp only [e2, e4, e5, e6, e7, e8] at y0
  try simp only [e2, e4, e5, e6, e7, e8] at y1
  try simp only [e2, e4, e5, e6, e7, e8] at p0
  clear g3
  clear g4
  clear f19 f22 f24 f27 f30 f34 f36 e2 e4 e5 e6 e7 e8
  subst e0
  subst e1
  subst e3
  try subst k1
  try subst k0
  omega
theorem c_300_39_6 {q0 : Nat} : vOkm T0 (eP e_300 L_300 A_300 mu_300 (some q0)) 3 ([(20, [16, 3], [1], 83), (0, [16], [], 344), (20, [15, 3], [1], 24), (0, [15], [], 298), (40, [13, 14], [], 0), (0, [14], [], 1), (22, [13, 10, 12], [1], 0), (90, [13], [], 0), (91, [13], [], 5), (22, [12, 11, 7], [1], 0), (90, [12], [], 0), (91, [12], [], 1007), (20, [11, 3], [1], 83), (0, [11], [], 344), (20, [10, 3], [1], 24), (0, [10], [], 298), (42, [8, 9], [], 0), (20, [9, 3], [1], 82), (90, [9], [], 0), (91, [9], [], 40), (5000, [0, 1, 2, 3, 4, 5, 6, 7, 8], [0, 1], 39), (0, [0], [], 285), (90, [1], [], -2147483648), (91, [1], [], 2147483647), (90, [2], [], -2147483648), (91, [2], [], 2147483647), (0, [3], [], 285), (90, [4], [], -2147483648), (91, [4], [], 2147483647), (90, [5], [], -2147483648), (91, [5], [], 2147483647), (90, [6], [], -2147483648), (91, [6], [], 2147483647), (90, [7], [], 0), (91, [7], [], 39), (90, [8], [], 0), (91, [8], [], 40)], (70, [8], [], 40)) := vOk_in fun ρ η h => by
  obtain ⟨f0, f1, f2, f3, f4, f5, f6, f7, f8, f9, f10, f11, f12, f13, f14, f15, f16, f17, f18, f19, f20, f21, f22, f23, f24, f25, f26, f27, f28, f29, f30, f31, f32, f33, f34, f35, f36, _⟩ := h
  exact q_300_14 (q0 := q0) (n0 := ρ 8) (n1 := ρ 7) (n2 := ρ 6) (n3 := ρ 5) (n4 := ρ 4) (n5 := ρ 3) (n6 := ρ 2) (n7 := ρ 1) (n8 := ρ 0) (n9 := ρ 9) (n10 := ρ 10) (n11 := ρ 11) (n12 := ρ 12) (n13 := ρ 13) (n14 := ρ 14) (n15 := ρ 15) (n16 := ρ 16) (H0 := η 0) (H1 := η 1) f36 f35 f34 f33 f32 f31 f30 f29 f28 f27 f26 f25 f24 f23 f22 f21 f20 f19 f18 f17 f16 f15 f14 f13 f12 f11 f10 f9 f8 f7 f6 f5 f4 f3 f2 f1 f0
theorem q_300_15 {q0 : Nat} {n0 n1 n2 n3 n4 n5 n6 n7 n8 n9 n10 n11 n12 n13 n14 n15 n16 n17 n18 n19 n20 : Int} {H0 H1 : gH} (f0 : n0 ≤ 40) (f1 : 0 ≤ n0) (f2 : n1 ≤ 39) (f3 : 0 ≤ n1) (f4 : n2 ≤ 2147483647) (f5 : (-2147483648) ≤ n2) (f6 : n3 ≤ 2147483647) (f7 : (-2147483648) ≤ n3) (f8 : n4 ≤ 2147483647) (f9 : (-2147483648) ≤ n4) (f10 : n5 = 285) (f11 : n6 ≤ 2147483647) (f12 : (-2147483648) ≤ n6) (f13 : n7 ≤ 2147483647) (f14 : (-2147483648) ≤ n7) (f15 : n8 = 285) (f16 : (hLe T0 H0 H1 ∧ hFr s_300.2.2.2.2 H0 H1 ∧ hWt T0 H1) ∧ (Ab_300_39 n8 n7 n6 n5 n4 n3 n2 n1 n0 H0 H1 ∧ preb_300 n8 n7 n6 H0) ∧ some q0 = some (mub_300_39 n8 n7 n6 n5 n4 n3 n2 n1 n0 H0 H1)) (f17 : n9 ≤ 40) (f18 : 0 ≤ n9) (f19 : n9 = hV H1 (n5).toNat 82) (f20 : n0 < n9) (f21 : n10 = 298) (f22 : n10 = hV H1 (n5).toNat 24) (f23 : n11 = 344) (f24 : n11 = hV H1 (n5).toNat 83) (f25 : n12 ≤ 1007) (f26 : 0 ≤ n12) (f27 : n12 = hV H1 (n11).toNat (n1).toNat) (f28 : n13 ≤ 5) (f29 : 0 ≤ n13) (f30 : n13 = hV H1 (n10).toNat (n12).toNat) (f31 : n14 = 1) (f32 : n13 = n14) (f33 : n15 = 298) (f34 : n15 = hV H1 (n5).toNat 24) (f35 : n16 = 344) (f36 : n16 = hV H1 (n5).toNat 83) (f37 : n17 ≤ 1007) (f38 : 0 ≤ n17) (f39 : n17 = hV H1 (n16).toNat (n0).toNat) (f40 : n18 ≤ 5) (f41 : 0 ≤ n18) (f42 : n18 = hV H1 (n15).toNat (n17).toNat) (f43 : n19 = 1) (f44 : n18 ≠ n19) (f45 : n20 = w32 (n0 + 1)) : 0 ≤ n20 := by
  have g4 := f16.2.1.1
  unfold Ab_300_39 at g4
  have g3 := f16.2.1.2
  unfold preb_300 at g3
  have e0 : n9 = hV H1 285 82 := (by rw [f10] at f19; exact f19 : n9 = hV H1 285 82)
  have e1 : n12 = hV H1 344 (n1).toNat := (by rw [f23] at f27; exact f27 : n12 = hV H1 344 (n1).toNat)
  have e2 : hV H1 298 = hV H0 298 := fRow f16.1.2.1 298 (by decide +kernel)
  have e3 : n13 = hV H0 298 (n12).toNat := (by rw [f21] at f30; exact f30 : n13 = hV H1 298 (n12).toNat).trans ((congrFun e2 _))
  have e4 : n17 = hV H1 344 (n0).toNat := (by rw [f35] at f39; exact f39 : n17 = hV H1 344 (n0).toNat)
  have e5 : n18 = hV H0 298 (n17).toNat := (by rw [f33] at f42; exact f42 : n18 = hV H1 298 (n17).toNat).trans ((congrFun e2 _))
  have e6 : hV H1 300 = hV H0 300 := fRow f16.1.2.1 300 (by decide +kernel)
  have e7 : hV H1 301 = hV H0 301 := fRow f16.1.2.1 301 (by decide +kernel)
  have e8 : hV H1 302 = hV H0 302 := fRow f16.1.2.1 302 (by decide +kernel)
  have e9 : hV H1 303 = hV H0 303 := fRow f16.1.2.1 303 (by decide +kernel)
  have e10 : hV H1 305 = hV H0 305 := fRow f16.1.2.1 305 (by decide +kernel)
  have e11 : (0 : Int) ≤ hV H1 285 82 ∧ hV H1 285 82 ≤ 40 := f16.1.2.2 285 82 _ _ (by decide +kernel)
  try simp only [XQ] at *
  try simp only [e2, e6, e7, e8, e9, e10] at f16
  try simp only [e2, e6, e7, e8, e9, e10] at e11
  try simp only [e2, e6, e7, e8, e9, e10] at g3
  try simp only [e2, e6, e7, e8, e9, e10] at g4
  try simp only [e2, e6, e7, e8, e9, e10]
  have k0 := g4.1
  have k1 := g4.2.1
  have y0 := g4.2.2.1
  have y1 := g4.2.2.2
  have p0 := g3
  try simp only [e2, e6, e7, e8, e9, e10] at k0
  try simp only [e2, e6, e7, e8, e9, e10] at k1
  try simp only [e2, e6, e7, e8, e9, e10] at y0
  try simp only [e2, e6, e7, e8, e9, e10] at y1
  try simp only [e2, e6, e7, e8, e9, e10] at p0
  clear g3
  clear g4
  clear f19 f22 f24 f27 f30 f34 f36 f39 f42 e2 e6 e7 e8 e9 e10
  subst e0
  subst e1
  subst e3
  subst e4
  subst e5
  unfold w32 at *
  try (have ix0 : n20 = n0 + 1 := (by omega); subst ix0)
  try subst k1
  try subst k0
  omega
theorem c_300_39_7 {q0 : Nat} : vOkm T0 (eP e_300 L_300 A_300 mu_300 (some q0)) 3 ([(10, [20, 8], [], 1), (41, [18, 19], [], 0), (0, [19], [], 1), (22, [18, 15, 17], [1], 0), (90, [18], [], 0), (91, [18], [], 5), (22, [17, 16, 8], [1], 0), (90, [17], [], 0), (91, [17], [], 1007), (20, [16, 3], [1], 83), (0, [16], [], 344), (20, [15, 3], [1], 24), (0, [15], [], 298), (40, [13, 14], [], 0), (0, [14], [], 1), (22, [13, 10, 12], [1], 0), (90, [13], [], 0), (91, [13], [], 5), (22, [12, 11, 7], [1], 0), (90, [12], [], 0), (91, [12], [], 1007), (20, [11, 3], [1], 83), (0, [11], [], 344), (20, [10, 3], [1], 24), (0, [10], [], 298), (42, [8, 9], [], 0), (20, [9, 3], [1], 82), (90, [9], [], 0), (91, [9], [], 40), (5000, [0, 1, 2, 3, 4, 5, 6, 7, 8], [0, 1], 39), (0, [0], [], 285), (90, [1], [], -2147483648), (91, [1], [], 2147483647), (90, [2], [], -2147483648), (91, [2], [], 2147483647), (0, [3], [], 285), (90, [4], [], -2147483648), (91, [4], [], 2147483647), (90, [5], [], -2147483648), (91, [5], [], 2147483647), (90, [6], [], -2147483648), (91, [6], [], 2147483647), (90, [7], [], 0), (91, [7], [], 39), (90, [8], [], 0), (91, [8], [], 40)], (90, [20], [], 0)) := vOk_in fun ρ η h => by
  obtain ⟨f0, f1, f2, f3, f4, f5, f6, f7, f8, f9, f10, f11, f12, f13, f14, f15, f16, f17, f18, f19, f20, f21, f22, f23, f24, f25, f26, f27, f28, f29, f30, f31, f32, f33, f34, f35, f36, f37, f38, f39, f40, f41, f42, f43, f44, f45, _⟩ := h
  exact q_300_15 (q0 := q0) (n0 := ρ 8) (n1 := ρ 7) (n2 := ρ 6) (n3 := ρ 5) (n4 := ρ 4) (n5 := ρ 3) (n6 := ρ 2) (n7 := ρ 1) (n8 := ρ 0) (n9 := ρ 9) (n10 := ρ 10) (n11 := ρ 11) (n12 := ρ 12) (n13 := ρ 13) (n14 := ρ 14) (n15 := ρ 15) (n16 := ρ 16) (n17 := ρ 17) (n18 := ρ 18) (n19 := ρ 19) (n20 := ρ 20) (H0 := η 0) (H1 := η 1) f45 f44 f43 f42 f41 f40 f39 f38 f37 f36 f35 f34 f33 f32 f31 f30 f29 f28 f27 f26 f25 f24 f23 f22 f21 f20 f19 f18 f17 f16 f15 f14 f13 f12 f11 f10 f9 f8 f7 f6 f5 f4 f3 f2 f1 f0
theorem q_300_16 {q0 : Nat} {n0 n1 n2 n3 n4 n5 n6 n7 n8 n9 n10 n11 n12 n13 n14 n15 n16 n17 n18 n19 n20 : Int} {H0 H1 : gH} (f0 : n0 ≤ 40) (f1 : 0 ≤ n0) (f2 : n1 ≤ 39) (f3 : 0 ≤ n1) (f4 : n2 ≤ 2147483647) (f5 : (-2147483648) ≤ n2) (f6 : n3 ≤ 2147483647) (f7 : (-2147483648) ≤ n3) (f8 : n4 ≤ 2147483647) (f9 : (-2147483648) ≤ n4) (f10 : n5 = 285) (f11 : n6 ≤ 2147483647) (f12 : (-2147483648) ≤ n6) (f13 : n7 ≤ 2147483647) (f14 : (-2147483648) ≤ n7) (f15 : n8 = 285) (f16 : (hLe T0 H0 H1 ∧ hFr s_300.2.2.2.2 H0 H1 ∧ hWt T0 H1) ∧ (Ab_300_39 n8 n7 n6 n5 n4 n3 n2 n1 n0 H0 H1 ∧ preb_300 n8 n7 n6 H0) ∧ some q0 = some (mub_300_39 n8 n7 n6 n5 n4 n3 n2 n1 n0 H0 H1)) (f17 : n9 ≤ 40) (f18 : 0 ≤ n9) (f19 : n9 = hV H1 (n5).toNat 82) (f20 : n0 < n9) (f21 : n10 = 298) (f22 : n10 = hV H1 (n5).toNat 24) (f23 : n11 = 344) (f24 : n11 = hV H1 (n5).toNat 83) (f25 : n12 ≤ 1007) (f26 : 0 ≤ n12) (f27 : n12 = hV H1 (n11).toNat (n1).toNat) (f28 : n13 ≤ 5) (f29 : 0 ≤ n13) (f30 : n13 = hV H1 (n10).toNat (n12).toNat) (f31 : n14 = 1) (f32 : n13 = n14) (f33 : n15 = 298) (f34 : n15 = hV H1 (n5).toNat 24) (f35 : n16 = 344) (f36 : n16 = hV H1 (n5).toNat 83) (f37 : n17 ≤ 1007) (f38 : 0 ≤ n17) (f39 : n17 = hV H1 (n16).toNat (n0).toNat) (f40 : n18 ≤ 5) (f41 : 0 ≤ n18) (f42 : n18 = hV H1 (n15).toNat (n17).toNat) (f43 : n19 = 1) (f44 : n18 ≠ n19) (f45 : n20 = w32 (n0 + 1)) : n20 ≤ 40 := by
  have g4 := f16.2.1.1
  unfold Ab_300_39 at g4
  have g3 := f16.2.1.2
  unfold preb_300 at g3
  have e0 : n9 = hV H1 285 82 := (by rw [f10] at f19; exact f19 : n9 = hV H1 285 82)
  have e1 : n12 = hV H1 344 (n1).toNat := (by rw [f23] at f27; exact f27 : n12 = hV H1 344 (n1).toNat)
  have e2 : hV H1 298 = hV H0 298 := fRow f16.1.2.1 298 (by decide +kernel)
  have e3 : n13 = hV H0 298 (n12).toNat := (by rw [f21] at f30; exact f30 : n13 = hV H1 298 (n12).toNat).trans ((congrFun e2 _))
  have e4 : n17 = hV H1 344 (n0).toNat := (by rw [f35] at f39; exact f39 : n17 = hV H1 344 (n0).toNat)
  have e5 : n18 = hV H0 298 (n17).toNat := (by rw [f33] at f42; exact f42 : n18 = hV H1 298 (n17).toNat).trans ((congrFun e2 _))
  have e6 : hV H1 300 = hV H0 300 := fRow f16.1.2.1 300 (by decide +kernel)
  have e7 : hV H1 301 = hV H0 301 := fRow f16.1.2.1 301 (by decide +kernel)
  have e8 : hV H1 302 = hV H0 302 := fRow f16.1.2.1 302 (by decide +kernel)
  have e9 : hV H1 303 = hV H0 303 := fRow f16.1.2.1 303 (by decide +kernel)
  have e10 : hV H1 305 = hV H0 305 := fRow f16.1.2.1 305 (by decide +kernel)
  have e11 : (0 : Int) ≤ hV H1 285 82 ∧ hV H1 285 82 ≤ 40 := f16.1.2.2 285 82 _ _ (by decide +kernel)
  try simp only [XQ] at *
  try simp only [e2, e6, e7, e8, e9, e10] at f16
  try simp only [e2, e6, e7, e8, e9, e10] at e11
  try simp only [e2, e6, e7, e8, e9, e10] at g3
  try simp only [e2, e6, e7, e8, e9, e10] at g4
  try simp only [e2, e6, e7, e8, e9, e10]
  have k0 := g4.1
  have k1 := g4.2.1
  have y0 := g4.2.2.1
  have y1 := g4.2.2.2
  have p0 := g3
  try simp only [e2, e6, e7, e8, e9, e10] at k0
  try simp only [e2, e6, e7, e8, e9, e10] at k1
  try simp only [e2, e6, e7, e8, e9, e10] at y0
  try simp only [e2, e6, e7, e8, e9, e10] at y1
  try simp only [e2, e6, e7, e8, e9, e10] at p0
  clear g3
  clear g4
  clear f19 f22 f24 f27 f30 f34 f36 f39 f42 e2 e6 e7 e8 e9 e10
  subst e0
  subst e1
  subst e3
  subst e4
  subst e5
  unfold w32 at *
  try (have ix0 : n20 = n0 + 1 := (by omega); subst ix0)
  try subst k1
  try subst k0
  omega
theorem c_300_39_8 {q0 : Nat} : vOkm T0 (eP e_300 L_300 A_300 mu_300 (some q0)) 3 ([(10, [20, 8], [], 1), (41, [18, 19], [], 0), (0, [19], [], 1), (22, [18, 15, 17], [1], 0), (90, [18], [], 0), (91, [18], [], 5), (22, [17, 16, 8], [1], 0), (90, [17], [], 0), (91, [17], [], 1007), (20, [16, 3], [1], 83), (0, [16], [], 344), (20, [15, 3], [1], 24), (0, [15], [], 298), (40, [13, 14], [], 0), (0, [14], [], 1), (22, [13, 10, 12], [1], 0), (90, [13], [], 0), (91, [13], [], 5), (22, [12, 11, 7], [1], 0), (90, [12], [], 0), (91, [12], [], 1007), (20, [11, 3], [1], 83), (0, [11], [], 344), (20, [10, 3], [1], 24), (0, [10], [], 298), (42, [8, 9], [], 0), (20, [9, 3], [1], 82), (90, [9], [], 0), (91, [9], [], 40), (5000, [0, 1, 2, 3, 4, 5, 6, 7, 8], [0, 1], 39), (0, [0], [], 285), (90, [1], [], -2147483648), (91, [1], [], 2147483647), (90, [2], [], -2147483648), (91, [2], [], 2147483647), (0, [3], [], 285), (90, [4], [], -2147483648), (91, [4], [], 2147483647), (90, [5], [], -2147483648), (91, [5], [], 2147483647), (90, [6], [], -2147483648), (91, [6], [], 2147483647), (90, [7], [], 0), (91, [7], [], 39), (90, [8], [], 0), (91, [8], [], 40)], (91, [20], [], 40)) := vOk_in fun ρ η h => by
  obtain ⟨f0, f1, f2, f3, f4, f5, f6, f7, f8, f9, f10, f11, f12, f13, f14, f15, f16, f17, f18, f19, f20, f21, f22, f23, f24, f25, f26, f27, f28, f29, f30, f31, f32, f33, f34, f35, f36, f37, f38, f39, f40, f41, f42, f43, f44, f45, _⟩ := h
  exact q_300_16 (q0 := q0) (n0 := ρ 8) (n1 := ρ 7) (n2 := ρ 6) (n3 := ρ 5) (n4 := ρ 4) (n5 := ρ 3) (n6 := ρ 2) (n7 := ρ 1) (n8 := ρ 0) (n9 := ρ 9) (n10 := ρ 10) (n11 := ρ 11) (n12 := ρ 12) (n13 := ρ 13) (n14 := ρ 14) (n15 := ρ 15) (n16 := ρ 16) (n17 := ρ 17) (n18 := ρ 18) (n19 := ρ 19) (n20 := ρ 20) (H0 := η 0) (H1 := η 1) f45 f44 f43 f42 f41 f40 f39 f38 f37 f36 f35 f34 f33 f32 f31 f30 f29 f28 f27 f26 f25 f24 f23 f22 f21 f20 f19 f18 f17 f16 f15 f14 f13 f12 f11 f10 f9 f8 f7 f6 f5 f4 f3 f2 f1 f0
theorem q_300_17 {q0 : Nat} {n0 n1 n2 n3 n4 n5 n6 n7 n8 n9 n10 n11 n12 n13 n14 n15 n16 n17 n18 n19 n20 : Int} {H0 H1 : gH} (f0 : n0 ≤ 40) (f1 : 0 ≤ n0) (f2 : n1 ≤ 39) (f3 : 0 ≤ n1) (f4 : n2 ≤ 2147483647) (f5 : (-2147483648) ≤ n2) (f6 : n3 ≤ 2147483647) (f7 : (-2147483648) ≤ n3) (f8 : n4 ≤ 2147483647) (f9 : (-2147483648) ≤ n4) (f10 : n5 = 285) (f11 : n6 ≤ 2147483647) (f12 : (-2147483648) ≤ n6) (f13 : n7 ≤ 2147483647) (f14 : (-2147483648) ≤ n7) (f15 : n8 = 285) (f16 : (hLe T0 H0 H1 ∧ hFr s_300.2.2.2.2 H0 H1 ∧ hWt T0 H1) ∧ (Ab_300_39 n8 n7 n6 n5 n4 n3 n2 n1 n0 H0 H1 ∧ preb_300 n8 n7 n6 H0) ∧ some q0 = some (mub_300_39 n8 n7 n6 n5 n4 n3 n2 n1 n0 H0 H1)) (f17 : n9 ≤ 40) (f18 : 0 ≤ n9) (f19 : n9 = hV H1 (n5).toNat 82) (f20 : n0 < n9) (f21 : n10 = 298) (f22 : n10 = hV H1 (n5).toNat 24) (f23 : n11 = 344) (f24 : n11 = hV H1 (n5).toNat 83) (f25 : n12 ≤ 1007) (f26 : 0 ≤ n12) (f27 : n12 = hV H1 (n11).toNat (n1).toNat) (f28 : n13 ≤ 5) (f29 : 0 ≤ n13) (f30 : n13 = hV H1 (n10).toNat (n12).toNat) (f31 : n14 = 1) (f32 : n13 = n14) (f33 : n15 = 298) (f34 : n15 = hV H1 (n5).toNat 24) (f35 : n16 = 344) (f36 : n16 = hV H1 (n5).toNat 83) (f37 : n17 ≤ 1007) (f38 : 0 ≤ n17) (f39 : n17 = hV H1 (n16).toNat (n0).toNat) (f40 : n18 ≤ 5) (f41 : 0 ≤ n18) (f42 : n18 = hV H1 (n15).toNat (n17).toNat) (f43 : n19 = 1) (f44 : n18 ≠ n19) (f45 : n20 = w32 (n0 + 1)) : Ab_300_39 n8 n7 n6 n5 n4 n3 n2 n1 n20 H0 H1 ∧ ∀ q, some q0 = some q → mub_300_39 n8 n7 n6 n5 n4 n3 n2 n1 n20 H0 H1 < q := by
  have g4 := f16.2.1.1
  unfold Ab_300_39 at g4
  have g3 := f16.2.1.2
  unfold preb_300 at g3
  have g5 := Option.some.inj f16.2.2
  unfold mub_300_39 at g5
  unfold Ab_300_39
  unfold mub_300_39
  have e0 : n9 = hV H1 285 82 := (by rw [f10] at f19; exact f19 : n9 = hV H1 285 82)
  have e1 : n12 = hV H1 344 (n1).toNat := (by rw [f23] at f27; exact f27 : n12 = hV H1 344 (n1).toNat)
  have e2 : hV H1 298 = hV H0 298 := fRow f16.1.2.1 298 (by decide +kernel)
  have e3 : n13 = hV H0 298 (n12).toNat := (by rw [f21] at f30; exact f30 : n13 = hV H1 298 (n12).toNat).trans ((congrFun e2 _))
  have e4 : n17 = hV H1 344 (n0).toNat := (by rw [f35] at f39; exact f39 : n17 = hV H1 344 (n0).toNat)
  have e5 : n18 = hV H0 298 (n17).toNat := (by rw [f33] at f42; exact f42 : n18 = hV H1 298 (n17).toNat).trans ((congrFun e2 _))
  have e6 : hV H1 300 = hV H0 300 := fRow f16.1.2.1 300 (by decide +kernel)
  have e7 : hV H1 301 = hV H0 301 := fRow f16.1.2.1 301 (by decide +kernel)
  have e8 : hV H1 302 = hV H0 302 := fRow f16.1.2.1 302 (by decide +kernel)
  have e9 : hV H1 303 = hV H0 303 := fRow f16.1.2.1 303 (by decide +kernel)
  have e10 : hV H1 305 = hV H0 305 := fRow f16.1.2.1 305 (by decide +kernel)
  have e11 : (0 : Int) ≤ hV H1 285 82 ∧ hV H1 285 82 ≤ 40 := f16.1.2.2 285 82 _ _ (by decide +kernel)
  try simp only [XQ] at *
  try simp only [e2, e6, e7, e8, e9, e10] at f16
  try simp only [e2, e6, e7, e8, e9, e10] at e11
  try simp only [e2, e6, e7, e8, e9, e10] at g3
  try simp only [e2, e6, e7, e8, e9, e10] at g4
  try simp only [e2, e6, e7, e8, e9, e10] at g5
  try simp only [e2, e6, e7, e8, e9, e10]
  have k0 := g4.1
  have k1 := g4.2.1
  have y0 := g4.2.2.1
  have y1 := g4.2.2.2
  have p0 := g3
  try simp only [e2, e6, e7, e8, e9, e10] at k0
  try simp only [e2, e6, e7, e8, e9, e10] at k1
  try simp only [e2, e6, e7, e8, e9, e10] at y0
  try simp only [e2, e6, e7, e8, e9, e10] at y1
  try simp only [e2, e6, e7, e8, e9, e10] at p0
  clear g3
  clear g4
  clear f19 f22 f24 f27 f30 f34 f36 f39 f42 e2 e6 e7 e8 e9 e10
  subst e0
  subst e1
  subst e3
  subst e4
  subst e5
  unfold w32 at *
  try (have ix0 : n20 = n0 + 1 := (by omega); subst ix0)
  try subst k1
  try subst k0
  refine ⟨?_, fun q hq => ?_⟩
  · refine ⟨?_, ?_, ?_, ?_⟩ <;> first | assumption | omega | trivial
  · have g6 := Option.some.inj hq
    subst g6
    omega
theorem c_300_39_9 {q0 : Nat} : vOkm T0 (eP e_300 L_300 A_300 mu_300 (some q0)) 3 ([(10, [20, 8], [], 1), (41, [18, 19], [], 0), (0, [19], [], 1), (22, [18, 15, 17], [1], 0), (90, [18], [], 0), (91, [18], [], 5), (22, [17, 16, 8], [1], 0), (90, [17], [], 0), (91, [17], [], 1007), (20, [16, 3], [1], 83), (0, [16], [], 344), (20, [15, 3], [1], 24), (0, [15], [], 298), (40, [13, 14], [], 0), (0, [14], [], 1), (22, [13, 10, 12], [1], 0), (90, [13], [], 0), (91, [13], [], 5), (22, [12, 11, 7], [1], 0), (90, [12], [], 0), (91, [12], [], 1007), (20, [11, 3], [1], 83), (0, [11], [], 344), (20, [10, 3], [1], 24), (0, [10], [], 298), (42, [8, 9], [], 0), (20, [9, 3], [1], 82), (90, [9], [], 0), (91, [9], [], 40), (5000, [0, 1, 2, 3, 4, 5, 6, 7, 8], [0, 1], 39), (0, [0], [], 285), (90, [1], [], -2147483648), (91, [1], [], 2147483647), (90, [2], [], -2147483648), (91, [2], [], 2147483647), (0, [3], [], 285), (90, [4], [], -2147483648), (91, [4], [], 2147483647), (90, [5], [], -2147483648), (91, [5], [], 2147483647), (90, [6], [], -2147483648), (91, [6], [], 2147483647), (90, [7], [], 0), (91, [7], [], 39), (90, [8], [], 0), (91, [8], [], 40)], (4000, [3, 4, 5, 6, 7, 20], [1], 39)) := vOk_in fun ρ η h => by
  obtain ⟨f0, f1, f2, f3, f4, f5, f6, f7, f8, f9, f10, f11, f12, f13, f14, f15, f16, f17, f18, f19, f20, f21, f22, f23, f24, f25, f26, f27, f28, f29, f30, f31, f32, f33, f34, f35, f36, f37, f38, f39, f40, f41, f42, f43, f44, f45, _⟩ := h
  exact q_300_17 (q0 := q0) (n0 := ρ 8) (n1 := ρ 7) (n2 := ρ 6) (n3 := ρ 5) (n4 := ρ 4) (n5 := ρ 3) (n6 := ρ 2) (n7 := ρ 1) (n8 := ρ 0) (n9 := ρ 9) (n10 := ρ 10) (n11 := ρ 11) (n12 := ρ 12) (n13 := ρ 13) (n14 := ρ 14) (n15 := ρ 15) (n16 := ρ 16) (n17 := ρ 17) (n18 := ρ 18) (n19 := ρ 19) (n20 := ρ 20) (H0 := η 0) (H1 := η 1) f45 f44 f43 f42 f41 f40 f39 f38 f37 f36 f35 f34 f33 f32 f31 f30 f29 f28 f27 f26 f25 f24 f23 f22 f21 f20 f19 f18 f17 f16 f15 f14 f13 f12 f11 f10 f9 f8 f7 f6 f5 f4 f3 f2 f1 f0
theorem q_300_18 {q0 : Nat} {n0 n1 n2 n3 n4 n5 n6 n7 n8 n9 n10 n11 n12 n13 n14 n15 n16 n17 n18 n19 n20 n21 n22 n23 n24 n25 : Int} {H0 H1 : gH} (f0 : n0 ≤ 40) (f1 : 0 ≤ n0) (f2 : n1 ≤ 39) (f3 : 0 ≤ n1) (f4 : n2 ≤ 2147483647) (f5 : (-2147483648) ≤ n2) (f6 : n3 ≤ 2147483647) (f7 : (-2147483648) ≤ n3) (f8 : n4 ≤ 2147483647) (f9 : (-2147483648) ≤ n4) (f10 : n5 = 285) (f11 : n6 ≤ 2147483647) (f12 : (-2147483648) ≤ n6) (f13 : n7 ≤ 2147483647) (f14 : (-2147483648) ≤ n7) (f15 : n8 = 285) (f16 : (hLe T0 H0 H1 ∧ hFr s_300.2.2.2.2 H0 H1 ∧ hWt T0 H1) ∧ (Ab_300_39 n8 n7 n6 n5 n4 n3 n2 n1 n0 H0 H1 ∧ preb_300 n8 n7 n6 H0) ∧ some q0 = some (mub_300_39 n8 n7 n6 n5 n4 n3 n2 n1 n0 H0 H1)) (f17 : n9 ≤ 40) (f18 : 0 ≤ n9) (f19 : n9 = hV H1 (n5).toNat 82) (f20 : n0 < n9) (f21 : n10 = 298) (f22 : n10 = hV H1 (n5).toNat 24) (f23 : n11 = 344) (f24 : n11 = hV H1 (n5).toNat 83) (f25 : n12 ≤ 1007) (f26 : 0 ≤ n12) (f27 : n12 = hV H1 (n11).toNat (n1).toNat) (f28 : n13 ≤ 5) (f29 : 0 ≤ n13) (f30 : n13 = hV H1 (n10).toNat (n12).toNat) (f31 : n14 = 1) (f32 : n13 = n14) (f33 : n15 = 298) (f34 : n15 = hV H1 (n5).toNat 24) (f35 : n16 = 344) (f36 : n16 = hV H1 (n5).toNat 83) (f37 : n17 ≤ 1007) (f38 : 0 ≤ n17) (f39 : n17 = hV H1 (n16).toNat (n0).toNat) (f40 : n18 ≤ 5) (f41 : 0 ≤ n18) (f42 : n18 = hV H1 (n15).toNat (n17).toNat) (f43 : n19 = 1) (f44 : n18 = n19) (f45 : n20 = 300) (f46 : n20 = hV H1 (n5).toNat 26) (f47 : n21 = 344) (f48 : n21 = hV H1 (n5).toNat 83) (f49 : n22 ≤ 1007) (f50 : 0 ≤ n22) (f51 : n22 = hV H1 (n21).toNat (n1).toNat) (f52 : n23 ≤ 9999) (f53 : (-1) ≤ n23) (f54 : n23 = hV H1 (n20).toNat (n22).toNat) (f55 : n24 = 300) (f56 : n24 = hV H1 (n5).toNat 26) (f57 : n25 = 344) (f58 : n25 = hV H1 (n5).toNat 83) : 0 ≤ n0 ∧ n0 < 40 := by
  have g4 := f16.2.1.1
  unfold Ab_300_39 at g4
  have g3 := f16.2.1.2
  unfold preb_300 at g3
  have e0 : n9 = hV H1 285 82 := (by rw [f10] at f19; exact f19 : n9 = hV H1 285 82)
  have e1 : n12 = hV H1 344 (n1).toNat := (by rw [f23] at f27; exact f27 : n12 = hV H1 344 (n1).toNat)
  have e2 : hV H1 298 = hV H0 298 := fRow f16.1.2.1 298 (by decide +kernel)
  have e3 : n13 = hV H0 298 (n12).toNat := (by rw [f21] at f30; exact f30 : n13 = hV H1 298 (n12).toNat).trans ((congrFun e2 _))
  have e4 : n17 = hV H1 344 (n0).toNat := (by rw [f35] at f39; exact f39 : n17 = hV H1 344 (n0).toNat)
  have e5 : n18 = hV H0 298 (n17).toNat := (by rw [f33] at f42; exact f42 : n18 = hV H1 298 (n17).toNat).trans ((congrFun e2 _))
  have e6 : n22 = hV H1 344 (n1).toNat := (by rw [f47] at f51; exact f51 : n22 = hV H1 344 (n1).toNat)
  have e7 : hV H1 300 = hV H0 300 := fRow f16.1.2.1 300 (by decide +kernel)
  have e8 : n23 = hV H0 300 (n22).toNat := (by rw [f45] at f54; exact f54 : n23 = hV H1 300 (n22).toNat).trans ((congrFun e7 _))
  have e9 : hV H1 301 = hV H0 301 := fRow f16.1.2.1 301 (by decide +kernel)
  have e10 : hV H1 302 = hV H0 302 := fRow f16.1.2.1 302 (by decide +kernel)
  have e11 : hV H1 303 = hV H0 303 := fRow f16.1.2.1 303 (by decide +kernel)
  have e12 : hV H1 305 = hV H0 305 := fRow f16.1.2.1 305 (by decide +kernel)
  have e13 : (0 : Int) ≤ hV H1 285 82 ∧ hV H1 285 82 ≤ 40 := f16.1.2.2 285 82 _ _ (by decide +kernel)
  try simp only [XQ] at *
  try simp only [e2, e7, e9, e10, e11, e12] at f16
  try simp only [e2, e7, e9, e10, e11, e12] at e13
  try simp only [e2, e7, e9, e10, e11, e12] at g3
  try simp only [e2, e7, e9, e10, e11, e12] at g4
  try simp only [e2, e7, e9, e10, e11, e12]
  have k0 := g4.1
  have k1 := g4.2.1
  have y0 := g4.2.2.1
  have y1 := g4.2.2.2
  have p0 := g3
  try simp only [e2, e7, e9, e10, e11, e12] at k0
  try simp only [e2, e7, e9, e10, e11, e12] at k1
  try simp only [e2, e7, e9, e10, e11, e12] at y0
  try simp only [e2, e7, e9, e10, e11, e12] at y1
  try simp only [e2, e7, e9, e10, e11, e12] at p0
  clear g3
  clear g4
  clear f19 f22 f24 f27 f30 f34 f36 f39 f42 f46 f48 f51 f54 f56 f58 e2 e7 e9 e10 e11 e12
  subst e0
  subst e1
  subst e3
  subst e4
  subst e5
  subst e6
  subst e8
  try subst k1
  try subst k0
  omega
theorem c_300_39_10 {q0 : Nat} : vOkm T0 (eP e_300 L_300 A_300 mu_300 (some q0)) 3 ([(20, [25, 3], [1], 83), (0, [25], [], 344), (20, [24, 3], [1], 26), (0, [24], [], 300), (22, [23, 20, 22], [1], 0), (90, [23], [], -1), (91, [23], [], 9999), (22, [22, 21, 7], [1], 0), (90, [22], [], 0), (91, [22], [], 1007), (20, [21, 3], [1], 83), (0, [21], [], 344), (20, [20, 3], [1], 26), (0, [20], [], 300), (40, [18, 19], [], 0), (0, [19], [], 1), (22, [18, 15, 17], [1], 0), (90, [18], [], 0), (91, [18], [], 5), (22, [17, 16, 8], [1], 0), (90, [17], [], 0), (91, [17], [], 1007), (20, [16, 3], [1], 83), (0, [16], [], 344), (20, [15, 3], [1], 24), (0, [15], [], 298), (40, [13, 14], [], 0), (0, [14], [], 1), (22, [13, 10, 12], [1], 0), (90, [13], [], 0), (91, [13], [], 5), (22, [12, 11, 7], [1], 0), (90, [12], [], 0), (91, [12], [], 1007), (20, [11, 3], [1], 83), (0, [11], [], 344), (20, [10, 3], [1], 24), (0, [10], [], 298), (42, [8, 9], [], 0), (20, [9, 3], [1], 82), (90, [9], [], 0), (91, [9], [], 40), (5000, [0, 1, 2, 3, 4, 5, 6, 7, 8], [0, 1], 39), (0, [0], [], 285), (90, [1], [], -2147483648), (91, [1], [], 2147483647), (90, [2], [], -2147483648), (91, [2], [], 2147483647), (0, [3], [], 285), (90, [4], [], -2147483648), (91, [4], [], 2147483647), (90, [5], [], -2147483648), (91, [5], [], 2147483647), (90, [6], [], -2147483648), (91, [6], [], 2147483647), (90, [7], [], 0), (91, [7], [], 39), (90, [8], [], 0), (91, [8], [], 40)], (70, [8], [], 40)) := vOk_in fun ρ η h => by
  obtain ⟨f0, f1, f2, f3, f4, f5, f6, f7, f8, f9, f10, f11, f12, f13, f14, f15, f16, f17, f18, f19, f20, f21, f22, f23, f24, f25, f26, f27, f28, f29, f30, f31, f32, f33, f34, f35, f36, f37, f38, f39, f40, f41, f42, f43, f44, f45, f46, f47, f48, f49, f50, f51, f52, f53, f54, f55, f56, f57, f58, _⟩ := h
  exact q_300_18 (q0 := q0) (n0 := ρ 8) (n1 := ρ 7) (n2 := ρ 6) (n3 := ρ 5) (n4 := ρ 4) (n5 := ρ 3) (n6 := ρ 2) (n7 := ρ 1) (n8 := ρ 0) (n9 := ρ 9) (n10 := ρ 10) (n11 := ρ 11) (n12 := ρ 12) (n13 := ρ 13) (n14 := ρ 14) (n15 := ρ 15) (n16 := ρ 16) (n17 := ρ 17) (n18 := ρ 18) (n19 := ρ 19) (n20 := ρ 20) (n21 := ρ 21) (n22 := ρ 22) (n23 := ρ 23) (n24 := ρ 24) (n25 := ρ 25) (H0 := η 0) (H1 := η 1) f58 f57 f56 f55 f54 f53 f52 f51 f50 f49 f48 f47 f46 f45 f44 f43 f42 f41 f40 f39 f38 f37 f36 f35 f34 f33 f32 f31 f30 f29 f28 f27 f26 f25 f24 f23 f22 f21 f20 f19 f18 f17 f16 f15 f14 f13 f12 f11 f10 f9 f8 f7 f6 f5 f4 f3 f2 f1 f0
theorem q_300_19 {q0 : Nat} {n0 n1 n2 n3 n4 n5 n6 n7 n8 n9 n10 n11 n12 n13 n14 n15 n16 n17 n18 n19 n20 n21 n22 n23 n24 n25 n26 n27 : Int} {H0 H1 : gH} (f0 : n0 ≤ 40) (f1 : 0 ≤ n0) (f2 : n1 ≤ 39) (f3 : 0 ≤ n1) (f4 : n2 ≤ 2147483647) (f5 : (-2147483648) ≤ n2) (f6 : n3 ≤ 2147483647) (f7 : (-2147483648) ≤ n3) (f8 : n4 ≤ 2147483647) (f9 : (-2147483648) ≤ n4) (f10 : n5 = 285) (f11 : n6 ≤ 2147483647) (f12 : (-2147483648) ≤ n6) (f13 : n7 ≤ 2147483647) (f14 : (-2147483648) ≤ n7) (f15 : n8 = 285) (f16 : (hLe T0 H0 H1 ∧ hFr s_300.2.2.2.2 H0 H1 ∧ hWt T0 H1) ∧ (Ab_300_39 n8 n7 n6 n5 n4 n3 n2 n1 n0 H0 H1 ∧ preb_300 n8 n7 n6 H0) ∧ some q0 = some (mub_300_39 n8 n7 n6 n5 n4 n3 n2 n1 n0 H0 H1)) (f17 : n9 ≤ 40) (f18 : 0 ≤ n9) (f19 : n9 = hV H1 (n5).toNat 82) (f20 : n0 < n9) (f21 : n10 = 298) (f22 : n10 = hV H1 (n5).toNat 24) (f23 : n11 = 344) (f24 : n11 = hV H1 (n5).toNat 83) (f25 : n12 ≤ 1007) (f26 : 0 ≤ n12) (f27 : n12 = hV H1 (n11).toNat (n1).toNat) (f28 : n13 ≤ 5) (f29 : 0 ≤ n13) (f30 : n13 = hV H1 (n10).toNat (n12).toNat) (f31 : n14 = 1) (f32 : n13 = n14) (f33 : n15 = 298) (f34 : n15 = hV H1 (n5).toNat 24) (f35 : n16 = 344) (f36 : n16 = hV H1 (n5).toNat 83) (f37 : n17 ≤ 1007) (f38 : 0 ≤ n17) (f39 : n17 = hV H1 (n16).toNat (n0).toNat) (f40 : n18 ≤ 5) (f41 : 0 ≤ n18) (f42 : n18 = hV H1 (n15).toNat (n17).toNat) (f43 : n19 = 1) (f44 : n18 = n19) (f45 : n20 = 300) (f46 : n20 = hV H1 (n5).toNat 26) (f47 : n21 = 344) (f48 : n21 = hV H1 (n5).toNat 83) (f49 : n22 ≤ 1007) (f50 : 0 ≤ n22) (f51 : n22 = hV H1 (n21).toNat (n1).toNat) (f52 : n23 ≤ 9999) (f53 : (-1) ≤ n23) (f54 : n23 = hV H1 (n20).toNat (n22).toNat) (f55 : n24 = 300) (f56 : n24 = hV H1 (n5).toNat 26) (f57 : n25 = 344) (f58 : n25 = hV H1 (n5).toNat 83) (f59 : n26 ≤ 1007) (f60 : 0 ≤ n26) (f61 : n26 = hV H1 (n25).toNat (n0).toNat) (f62 : n27 ≤ 9999) (f63 : (-1) ≤ n27) (f64 : n27 = hV H1 (n24).toNat (n26).toNat) (f65 : n23 = n27) : n0 ≤ 39 := by
  have g4 := f16.2.1.1
  unfold Ab_300_39 at g4
  have g3 := f16.2.1.2
  unfold preb_300 at g3
  have e0 : n9 = hV H1 285 82 := (by rw [f10] at f19; exact f19 : n9 = hV H1 285 82)
  have e1 : n12 = hV H1 344 (n1).toNat := (by rw [f23] at f27; exact f27 : n12 = hV H1 344 (n1).toNat)
  have e2 : hV H1 298 = hV H0 298 := fRow f16.1.2.1 298 (by decide +kernel)
  have e3 : n13 = hV H0 298 (n12).toNat := (by rw [f21] at f30; exact f30 : n13 = hV H1 298 (n12).toNat).trans ((congrFun e2 _))
  have e4 : n17 = hV H1 344 (n0).toNat := (by rw [f35] at f39; exact f39 : n17 = hV H1 344 (n0).toNat)
  have e5 : n18 = hV H0 298 (n17).toNat := (by rw [f33] at f42; exact f42 : n18 = hV H1 298 (n17).toNat).trans ((congrFun e2 _))
  have e6 : n22 = hV H1 344 (n1).toNat := (by rw [f47] at f51; exact f51 : n22 = hV H1 344 (n1).toNat)
  have e7 : hV H1 300 = hV H0 300 := fRow f16.1.2.1 300 (by decide +kernel)
  have e8 : n23 = hV H0 300 (n22).toNat := (by rw [f45] at f54; exact f54 : n23 = hV H1 300 (n22).toNat).trans ((congrFun e7 _))
  have e9 : n26 = hV H1 344 (n0).toNat := (by rw [f57] at f61; exact f61 : n26 = hV H1 344 (n0).toNat)
  have e10 : n27 = hV H0 300 (n26).toNat := (by rw [f55] at f64; exact f64 : n27 = hV H1 300 (n26).toNat).trans ((congrFun e7 _))
  have e11 : hV H1 301 = hV H0 301 := fRow f16.1.2.1 301 (by decide +kernel)
  have e12 : hV H1 302 = hV H0 302 := fRow f16.1.2.1 302 (by decide +kernel)
  have e13 : hV H1 303 = hV H0 303 := fRow f16.1.2.1 303 (by decide +kernel)
  have e14 : hV H1 305 = hV H0 305 := fRow f16.1.2.1 305 (by decide +kernel)
  have e15 : (0 : Int) ≤ hV H1 285 82 ∧ hV H1 285 82 ≤ 40 := f16.1.2.2 285 82 _ _ (by decide +kernel)
  try simp only [XQ] at *
  try simp only [e2, e7, e11, e12, e13, e14] at f16
  try simp only [e2, e7, e11, e12, e13, e14] at e15
  try simp only [e2, e7, e11, e12, e13, e14] at g3
  try simp only [e2, e7, e11, e12, e13, e14] at g4
  try simp only [e2, e7, e11, e12, e13, e14]
  have k0 := g4.1
  have k1 := g4.2.1
  have y0 := g4.2.2.1
  have y1 := g4.2.2.2
  have p0 := g3
  try simp only [e2, e7, e11, e12, e13, e14] at k0
  try simp only [e2, e7, e11, e12, e13, e14] at k1
  try simp only [e2, e7, e11, e12, e13, e14] at y0
  try simp only [e2, e7, e11, e12, e13, e14] at y1
  try simp only [e2, e7, e11, e12, e13, e14] at p0
  clear g3
  clear g4
  clear f19 f22 f24 f27 f30 f34 f36 f39 f42 f46 f48 f51 f54 f56 f58 f61 f64 e2 e7 e11 e12 e13 e14
  subst e0
  subst e1
  subst e3
  subst e4
  subst e5
  subst e6
  subst e8
  subst e9
  subst e10
  try subst k1
  try subst k0
  omega
theorem c_300_39_11 {q0 : Nat} : vOkm T0 (eP e_300 L_300 A_300 mu_300 (some q0)) 3 ([(40, [23, 27], [], 0), (22, [27, 24, 26], [1], 0), (90, [27], [], -1), (91, [27], [], 9999), (22, [26, 25, 8], [1], 0), (90, [26], [], 0), (91, [26], [], 1007), (20, [25, 3], [1], 83), (0, [25], [], 344), (20, [24, 3], [1], 26), (0, [24], [], 300), (22, [23, 20, 22], [1], 0), (90, [23], [], -1), (91, [23], [], 9999), (22, [22, 21, 7], [1], 0), (90, [22], [], 0), (91, [22], [], 1007), (20, [21, 3], [1], 83), (0, [21], [], 344), (20, [20, 3], [1], 26), (0, [20], [], 300), (40, [18, 19], [], 0), (0, [19], [], 1), (22, [18, 15, 17], [1], 0), (90, [18], [], 0), (91, [18], [], 5), (22, [17, 16, 8], [1], 0), (90, [17], [], 0), (91, [17], [], 1007), (20, [16, 3], [1], 83), (0, [16], [], 344), (20, [15, 3], [1], 24), (0, [15], [], 298), (40, [13, 14], [], 0), (0, [14], [], 1), (22, [13, 10, 12], [1], 0), (90, [13], [], 0), (91, [13], [], 5), (22, [12, 11, 7], [1], 0), (90, [12], [], 0), (91, [12], [], 1007), (20, [11, 3], [1], 83), (0, [11], [], 344), (20, [10, 3], [1], 24), (0, [10], [], 298), (42, [8, 9], [], 0), (20, [9, 3], [1], 82), (90, [9], [], 0), (91, [9], [], 40), (5000, [0, 1, 2, 3, 4, 5, 6, 7, 8], [0, 1], 39), (0, [0], [], 285), (90, [1], [], -2147483648), (91, [1], [], 2147483647), (90, [2], [], -2147483648), (91, [2], [], 2147483647), (0, [3], [], 285), (90, [4], [], -2147483648), (91, [4], [], 2147483647), (90, [5], [], -2147483648), (91, [5], [], 2147483647), (90, [6], [], -2147483648), (91, [6], [], 2147483647), (90, [7], [], 0), (91, [7], [], 39), (90, [8], [], 0), (91, [8], [], 40)], (91, [8], [], 39)) := vOk_in fun ρ η h => by
  obtain ⟨f0, f1, f2, f3, f4, f5, f6, f7, f8, f9, f10, f11, f12, f13, f14, f15, f16, f17, f18, f19, f20, f21, f22, f23, f24, f25, f26, f27, f28, f29, f30, f31, f32, f33, f34, f35, f36, f37, f38, f39, f40, f41, f42, f43, f44, f45, f46, f47, f48, f49, f50, f51, f52, f53, f54, f55, f56, f57, f58, f59, f60, f61, f62, f63, f64, f65, _⟩ := h
  exact q_300_19 (q0 := q0) (n0 := ρ 8) (n1 := ρ 7) (n2 := ρ 6) (n3 := ρ 5) (n4 := ρ 4) (n5 := ρ 3) (n6 := ρ 2) (n7 := ρ 1) (n8 := ρ 0) (n9 := ρ 9) (n10 := ρ 10) (n11 := ρ 11) (n12 := ρ 12) (n13 := ρ 13) (n14 := ρ 14) (n15 := ρ 15) (n16 := ρ 16) (n17 := ρ 17) (n18 := ρ 18) (n19 := ρ 19) (n20 := ρ 20) (n21 := ρ 21) (n22 := ρ 22) (n23 := ρ 23) (n24 := ρ 24) (n25 := ρ 25) (n26 := ρ 26) (n27 := ρ 27) (H0 := η 0) (H1 := η 1) f65 f64 f63 f62 f61 f60 f59 f58 f57 f56 f55 f54 f53 f52 f51 f50 f49 f48 f47 f46 f45 f44 f43 f42 f41 f40 f39 f38 f37 f36 f35 f34 f33 f32 f31 f30 f29 f28 f27 f26 f25 f24 f23 f22 f21 f20 f19 f18 f17 f16 f15 f14 f13 f12 f11 f10 f9 f8 f7 f6 f5 f4 f3 f2 f1 f0
theorem q_300_20 {q0 : Nat} {n0 n1 n2 n3 n4 n5 n6 n7 n8 n9 n10 n11 n12 n13 n14 n15 n16 n17 n18 n19 n20 n21 n22 n23 n24 n25 n26 n27 : Int} {H0 H1 : gH} (f0 : n0 ≤ 40) (f1 : 0 ≤ n0) (f2 : n1 ≤ 39) (f3 : 0 ≤ n1) (f4 : n2 ≤ 2147483647) (f5 : (-2147483648) ≤ n2) (f6 : n3 ≤ 2147483647) (f7 : (-2147483648) ≤ n3) (f8 : n4 ≤ 2147483647) (f9 : (-2147483648) ≤ n4) (f10 : n5 = 285) (f11 : n6 ≤ 2147483647) (f12 : (-2147483648) ≤ n6) (f13 : n7 ≤ 2147483647) (f14 : (-2147483648) ≤ n7) (f15 : n8 = 285) (f16 : (hLe T0 H0 H1 ∧ hFr s_300.2.2.2.2 H0 H1 ∧ hWt T0 H1) ∧ (Ab_300_39 n8 n7 n6 n5 n4 n3 n2 n1 n0 H0 H1 ∧ preb_300 n8 n7 n6 H0) ∧ some q0 = some (mub_300_39 n8 n7 n6 n5 n4 n3 n2 n1 n0 H0 H1)) (f17 : n9 ≤ 40) (f18 : 0 ≤ n9) (f19 : n9 = hV H1 (n5).toNat 82) (f20 : n0 < n9) (f21 : n10 = 298) (f22 : n10 = hV H1 (n5).toNat 24) (f23 : n11 = 344) (f24 : n11 = hV H1 (n5).toNat 83) (f25 : n12 ≤ 1007) (f26 : 0 ≤ n12) (f27 : n12 = hV H1 (n11).toNat (n1).toNat) (f28 : n13 ≤ 5) (f29 : 0 ≤ n13) (f30 : n13 = hV H1 (n10).toNat (n12).toNat) (f31 : n14 = 1) (f32 : n13 = n14) (f33 : n15 = 298) (f34 : n15 = hV H1 (n5).toNat 24) (f35 : n16 = 344) (f36 : n16 = hV H1 (n5).toNat 83) (f37 : n17 ≤ 1007) (f38 : 0 ≤ n17) (f39 : n17 = hV H1 (n16).toNat (n0).toNat) (f40 : n18 ≤ 5) (f41 : 0 ≤ n18) (f42 : n18 = hV H1 (n15).toNat (n17).toNat) (f43 : n19 = 1) (f44 : n18 = n19) (f45 : n20 = 300) (f46 : n20 = hV H1 (n5).toNat 26) (f47 : n21 = 344) (f48 : n21 = hV H1 (n5).toNat 83) (f49 : n22 ≤ 1007) (f50 : 0 ≤ n22) (f51 : n22 = hV H1 (n21).toNat (n1).toNat) (f52 : n23 ≤ 9999) (f53 : (-1) ≤ n23) (f54 : n23 = hV H1 (n20).toNat (n22).toNat) (f55 : n24 = 300) (f56 : n24 = hV H1 (n5).toNat 26) (f57 : n25 = 344) (f58 : n25 = hV H1 (n5).toNat 83) (f59 : n26 ≤ 1007) (f60 : 0 ≤ n26) (f61 : n26 = hV H1 (n25).toNat (n0).toNat) (f62 : n27 ≤ 9999) (f63 : (-1) ≤ n27) (f64 : n27 = hV H1 (n24).toNat (n26).toNat) (f65 : n23 = n27) : preb_271 n5 n0 H1 := by
  have g4 := f16.2.1.1
  unfold Ab_300_39 at g4
  have g3 := f16.2.1.2
  unfold preb_300 at g3
  unfold preb_271
  have e0 : n9 = hV H1 285 82 := (by rw [f10] at f19; exact f19 : n9 = hV H1 285 82)
  have e1 : n12 = hV H1 344 (n1).toNat := (by rw [f23] at f27; exact f27 : n12 = hV H1 344 (n1).toNat)
  have e2 : hV H1 298 = hV H0 298 := fRow f16.1.2.1 298 (by decide +kernel)
  have e3 : n13 = hV H0 298 (n12).toNat := (by rw [f21] at f30; exact f30 : n13 = hV H1 298 (n12).toNat).trans ((congrFun e2 _))
  have e4 : n17 = hV H1 344 (n0).toNat := (by rw [f35] at f39; exact f39 : n17 = hV H1 344 (n0).toNat)
  have e5 : n18 = hV H0 298 (n17).toNat := (by rw [f33] at f42; exact f42 : n18 = hV H1 298 (n17).toNat).trans ((congrFun e2 _))
  have e6 : n22 = hV H1 344 (n1).toNat := (by rw [f47] at f51; exact f51 : n22 = hV H1 344 (n1).toNat)
  have e7 : hV H1 300 = hV H0 300 := fRow f16.1.2.1 300 (by decide +kernel)
  have e8 : n23 = hV H0 300 (n22).toNat := (by rw [f45] at f54; exact f54 : n23 = hV H1 300 (n22).toNat).trans ((congrFun e7 _))
  have e9 : n26 = hV H1 344 (n0).toNat := (by rw [f57] at f61; exact f61 : n26 = hV H1 344 (n0).toNat)
  have e10 : n27 = hV H0 300 (n26).toNat := (by rw [f55] at f64; exact f64 : n27 = hV H1 300 (n26).toNat).trans ((congrFun e7 _))
  have e11 : hV H1 301 = hV H0 301 := fRow f16.1.2.1 301 (by decide +kernel)
  have e12 : hV H1 302 = hV H0 302 := fRow f16.1.2.1 302 (by decide +kernel)
  have e13 : hV H1 303 = hV H0 303 := fRow f16.1.2.1 303 (by decide +kernel)
  have e14 : hV H1 305 = hV H0 305 := fRow f16.1.2.1 305 (by decide +kernel)
  have e15 : (0 : Int) ≤ hV H1 285 82 ∧ hV H1 285 82 ≤ 40 := f16.1.2.2 285 82 _ _ (by decide +kernel)
  try simp only [XQ] at *
  try simp only [e2, e7, e11, e12, e13, e14] at f16
  try simp only [e2, e7, e11, e12, e13, e14] at e15
  try simp only [e2, e7, e11, e12, e13, e14] at g3
  try simp only [e2, e7, e11, e12, e13, e14] at g4
  try simp only [e2, e7, e11, e12, e13, e14]
  have k0 := g4.1
  have k1 := g4.2.1
  have y0 := g4.2.2.1
  have y1 := g4.2.2.2
  have p0 := g3
  try simp only [e2, e7, e11, e12, e13, e14] at k0
  try simp only [e2, e7, e11, e12, e13, e14] at k1
  try simp only [e2, e7, e11, e12, e13, e14] at y0
  try simp only [e2, e7, e11, e12, e13, e14] at y1
  try simp only [e2, e7, e11, e12, e13, e14] at p0
  clear g3
  clear g4
  clear f19 f22 f24 f27 f30 f34 f36 f39 f42 f46 f48 f51 f54 f56 f58 f61 f64 e2 e7 e11 e12 e13 e14
  subst e0
  subst e1
  subst e3
  subst e4
  subst e5
  subst e6
  subst e8
  subst e9
  subst e10
  try subst k1
  try subst k0
  refine ⟨?_, ?_, ?_⟩ <;> first | assumption | omega | trivial
theorem c_300_39_12 {q0 : Nat} : vOkm T0 (eP e_300 L_300 A_300 mu_300 (some q0)) 3 ([(40, [23, 27], [], 0), (22, [27, 24, 26], [1], 0), (90, [27], [], -1), (91, [27], [], 9999), (22, [26, 25, 8], [1], 0), (90, [26], [], 0), (91, [26], [], 1007), (20, [25, 3], [1], 83), (0, [25], [], 344), (20, [24, 3], [1], 26), (0, [24], [], 300), (22, [23, 20, 22], [1], 0), (90, [23], [], -1), (91, [23], [], 9999), (22, [22, 21, 7], [1], 0), (90, [22], [], 0), (91, [22], [], 1007), (20, [21, 3], [1], 83), (0, [21], [], 344), (20, [20, 3], [1], 26), (0, [20], [], 300), (40, [18, 19], [], 0), (0, [19], [], 1), (22, [18, 15, 17], [1], 0), (90, [18], [], 0), (91, [18], [], 5), (22, [17, 16, 8], [1], 0), (90, [17], [], 0), (91, [17], [], 1007), (20, [16, 3], [1], 83), (0, [16], [], 344), (20, [15, 3], [1], 24), (0, [15], [], 298), (40, [13, 14], [], 0), (0, [14], [], 1), (22, [13, 10, 12], [1], 0), (90, [13], [], 0), (91, [13], [], 5), (22, [12, 11, 7], [1], 0), (90, [12], [], 0), (91, [12], [], 1007), (20, [11, 3], [1], 83), (0, [11], [], 344), (20, [10, 3], [1], 24), (0, [10], [], 298), (42, [8, 9], [], 0), (20, [9, 3], [1], 82), (90, [9], [], 0), (91, [9], [], 40), (5000, [0, 1, 2, 3, 4, 5, 6, 7, 8], [0, 1], 39), (0, [0], [], 285), (90, [1], [], -2147483648), (91, [1], [], 2147483647), (90, [2], [], -2147483648), (91, [2], [], 2147483647), (0, [3], [], 285), (90, [4], [], -2147483648), (91, [4], [], 2147483647), (90, [5], [], -2147483648), (91, [5], [], 2147483647), (90, [6], [], -2147483648), (91, [6], [], 2147483647), (90, [7], [], 0), (91, [7], [], 39), (90, [8], [], 0), (91, [8], [], 40)], (2271, [3, 8], [1], 0)) := vOk_in fun ρ η h => by
  obtain ⟨f0, f1, f2, f3, f4, f5, f6, f7, f8, f9, f10, f11, f12, f13, f14, f15, f16, f17, f18, f19, f20, f21, f22, f23, f24, f25, f26, f27, f28, f29, f30, f31, f32, f33, f34, f35, f36, f37, f38, f39, f40, f41, f42, f43, f44, f45, f46, f47, f48, f49, f50, f51, f52, f53, f54, f55, f56, f57, f58, f59, f60, f61, f62, f63, f64, f65, _⟩ := h
  exact q_300_20 (q0 := q0) (n0 := ρ 8) (n1 := ρ 7) (n2 := ρ 6) (n3 := ρ 5) (n4 := ρ 4) (n5 := ρ 3) (n6 := ρ 2) (n7 := ρ 1) (n8 := ρ 0) (n9 := ρ 9) (n10 := ρ 10) (n11 := ρ 11) (n12 := ρ 12) (n13 := ρ 13) (n14 := ρ 14) (n15 := ρ 15) (n16 := ρ 16) (n17 := ρ 17) (n18 := ρ 18) (n19 := ρ 19) (n20 := ρ 20) (n21 := ρ 21) (n22 := ρ 22) (n23 := ρ 23) (n24 := ρ 24) (n25 := ρ 25) (n26 := ρ 26) (n27 := ρ 27) (H0 := η 0) (H1 := η 1) f65 f64 f63 f62 f61 f60 f59 f58 f57 f56 f55 f54 f53 f52 f51 f50 f49 f48 f47 f46 f45 f44 f43 f42 f41 f40 f39 f38 f37 f36 f35 f34 f33 f32 f31 f30 f29 f28 f27 f26 f25 f24 f23 f22 f21 f20 f19 f18 f17 f16 f15 f14 f13 f12 f11 f10 f9 f8 f7 f6 f5 f4 f3 f2 f1 f0
theorem q_300_21 {q0 : Nat} {n0 n1 n2 n3 n4 n5 n6 n7 n8 n9 n10 n11 n12 n13 n14 n15 n16 n17 n18 n19 n20 n21 n22 n23 n24 n25 n26 n27 n28 : Int} {H0 H1 H2 : gH} (f0 : n0 ≤ 40) (f1 : 0 ≤ n0) (f2 : n1 ≤ 39) (f3 : 0 ≤ n1) (f4 : n2 ≤ 2147483647) (f5 : (-2147483648) ≤ n2) (f6 : n3 ≤ 2147483647) (f7 : (-2147483648) ≤ n3) (f8 : n4 ≤ 2147483647) (f9 : (-2147483648) ≤ n4) (f10 : n5 = 285) (f11 : n6 ≤ 2147483647) (f12 : (-2147483648) ≤ n6) (f13 : n7 ≤ 2147483647) (f14 : (-2147483648) ≤ n7) (f15 : n8 = 285) (f16 : (hLe T0 H0 H1 ∧ hFr s_300.2.2.2.2 H0 H1 ∧ hWt T0 H1) ∧ (Ab_300_39 n8 n7 n6 n5 n4 n3 n2 n1 n0 H0 H1 ∧ preb_300 n8 n7 n6 H0) ∧ some q0 = some (mub_300_39 n8 n7 n6 n5 n4 n3 n2 n1 n0 H0 H1)) (f17 : n9 ≤ 40) (f18 : 0 ≤ n9) (f19 : n9 = hV H1 (n5).toNat 82) (f20 : n0 < n9) (f21 : n10 = 298) (f22 : n10 = hV H1 (n5).toNat 24) (f23 : n11 = 344) (f24 : n11 = hV H1 (n5).toNat 83) (f25 : n12 ≤ 1007) (f26 : 0 ≤ n12) (f27 : n12 = hV H1 (n11).toNat (n1).toNat) (f28 : n13 ≤ 5) (f29 : 0 ≤ n13) (f30 : n13 = hV H1 (n10).toNat (n12).toNat) (f31 : n14 = 1) (f32 : n13 = n14) (f33 : n15 = 298) (f34 : n15 = hV H1 (n5).toNat 24) (f35 : n16 = 344) (f36 : n16 = hV H1 (n5).toNat 83) (f37 : n17 ≤ 1007) (f38 : 0 ≤ n17) (f39 : n17 = hV H1 (n16).toNat (n0).toNat) (f40 : n18 ≤ 5) (f41 : 0 ≤ n18) (f42 : n18 = hV H1 (n15).toNat (n17).toNat) (f43 : n19 = 1) (f44 : n18 = n19) (f45 : n20 = 300) (f46 : n20 = hV H1 (n5).toNat 26) (f47 : n21 = 344) (f48 : n21 = hV H1 (n5).toNat 83) (f49 : n22 ≤ 1007) (f50 : 0 ≤ n22) (f51 : n22 = hV H1 (n21).toNat (n1).toNat) (f52 : n23 ≤ 9999) (f53 : (-1) ≤ n23) (f54 : n23 = hV H1 (n20).toNat (n22).toNat) (f55 : n24 = 300) (f56 : n24 = hV H1 (n5).toNat 26) (f57 : n25 = 344) (f58 : n25 = hV H1 (n5).toNat 83) (f59 : n26 ≤ 1007) (f60 : 0 ≤ n26) (f61 : n26 = hV H1 (n25).toNat (n0).toNat) (f62 : n27 ≤ 9999) (f63 : (-1) ≤ n27) (f64 : n27 = hV H1 (n24).toNat (n26).toNat) (f65 : n23 = n27) (f66 : n28 ≤ 10999) (f67 : (-10999) ≤ n28) (f68 : (hLe T0 H1 H2 ∧ hFr s_271.2.2.2.2 H1 H2 ∧ ((0 : Int) = 0 → H2.length = H1.length) ∧ hWt T0 H2) ∧ True) : preb_271 n5 n1 H2 := by
  have g4 := f16.2.1.1
  unfold Ab_300_39 at g4
  have g3 := f16.2.1.2
  unfold preb_300 at g3
  unfold preb_271
  have e0 : n9 = hV H1 285 82 := (by rw [f10] at f19; exact f19 : n9 = hV H1 285 82)
  have e1 : n12 = hV H1 344 (n1).toNat := (by rw [f23] at f27; exact f27 : n12 = hV H1 344 (n1).toNat)
  have e2 : hV H1 298 = hV H0 298 := fRow f16.1.2.1 298 (by decide +kernel)
  have e3 : n13 = hV H0 298 (n12).toNat := (by rw [f21] at f30; exact f30 : n13 = hV H1 298 (n12).toNat).trans ((congrFun e2 _))
  have e4 : n17 = hV H1 344 (n0).toNat := (by rw [f35] at f39; exact f39 : n17 = hV H1 344 (n0).toNat)
  have e5 : n18 = hV H0 298 (n17).toNat := (by rw [f33] at f42; exact f42 : n18 = hV H1 298 (n17).toNat).trans ((congrFun e2 _))
  have e6 : n22 = hV H1 344 (n1).toNat := (by rw [f47] at f51; exact f51 : n22 = hV H1 344 (n1).toNat)
  have e7 : hV H1 300 = hV H0 300 := fRow f16.1.2.1 300 (by decide +kernel)
  have e8 : n23 = hV H0 300 (n22).toNat := (by rw [f45] at f54; exact f54 : n23 = hV H1 300 (n22).toNat).trans ((congrFun e7 _))
  have e9 : n26 = hV H1 344 (n0).toNat := (by rw [f57] at f61; exact f61 : n26 = hV H1 344 (n0).toNat)
  have e10 : n27 = hV H0 300 (n26).toNat := (by rw [f55] at f64; exact f64 : n27 = hV H1 300 (n26).toNat).trans ((congrFun e7 _))
  have e11 : hV H1 301 = hV H0 301 := fRow f16.1.2.1 301 (by decide +kernel)
  have e12 : hV H1 302 = hV H0 302 := fRow f16.1.2.1 302 (by decide +kernel)
  have e13 : hV H1 303 = hV H0 303 := fRow f16.1.2.1 303 (by decide +kernel)
  have e14 : hV H1 305 = hV H0 305 := fRow f16.1.2.1 305 (by decide +kernel)
  have e15 : hV H2 285 82 = hV H1 285 82 := f68.1.2.1.1 285 82 (by decide +kernel)
  have e16 : hV H2 285 82 = hV H1 285 82 := e15
  have e17 : hV H2 298 = hV H1 298 := fRow f68.1.2.1 298 (by decide +kernel)
  have e18 : hV H2 298 = hV H0 298 := e17.trans e2
  have e19 : hV H2 300 = hV H1 300 := fRow f68.1.2.1 300 (by decide +kernel)
  have e20 : hV H2 300 = hV H0 300 := e19.trans e7
  have e21 : hV H2 301 = hV H1 301 := fRow f68.1.2.1 301 (by decide +kernel)
  have e22 : hV H2 301 = hV H0 301 := e21.trans e11
  have e23 : hV H2 302 = hV H1 302 := fRow f68.1.2.1 302 (by decide +kernel)
  have e24 : hV H2 302 = hV H0 302 := e23.trans e12
  have e25 : hV H2 303 = hV H1 303 := fRow f68.1.2.1 303 (by decide +kernel)
  have e26 : hV H2 303 = hV H0 303 := e25.trans e13
  have e27 : hV H2 305 = hV H1 305 := fRow f68.1.2.1 305 (by decide +kernel)
  have e28 : hV H2 305 = hV H0 305 := e27.trans e14
  have e29 : hV H2 344 = hV H1 344 := fRow f68.1.2.1 344 (by decide +kernel)
  have e30 : (0 : Int) ≤ hV H1 285 82 ∧ hV H1 285 82 ≤ 40 := f16.1.2.2 285 82 _ _ (by decide +kernel)
  have e31 : (0 : Int) ≤ hV H2 285 82 ∧ hV H2 285 82 ≤ 40 := f68.1.2.2.2 285 82 _ _ (by decide +kernel)
  try simp only [XQ] at *
  try simp only [e2, e7, e11, e12, e13, e14, e16, e18, e20, e22, e24, e26, e28, e29] at f16
  try simp only [e2, e7, e11, e12, e13, e14, e16, e18, e20, e22, e24, e26, e28, e29] at e30
  try simp only [e2, e7, e11, e12, e13, e14, e16, e18, e20, e22, e24, e26, e28, e29] at e31
  try simp only [e2, e7, e11, e12, e13, e14, e16, e18, e20, e22, e24, e26, e28, e29] at g3
  try simp only [e2, e7, e11, e12, e13, e14, e16, e18, e20, e22, e24, e26, e28, e29] at g4
  try simp only [e2, e7, e11, e12, e13, e14, e16, e18, e20, e22, e24, e26, e28, e29]
  have k0 := g4.1
  have k1 := g4.2.1
  have y0 := g4.2.2.1
  have y1 := g4.2.2.2
  have p0 := g3
  try simp only [e2, e7, e11, e12, e13, e14, e16, e18, e20, e22, e24, e26, e28, e29] at k0
  try simp only [e2, e7, e11, e12, e13, e14, e16, e18, e20, e22, e24, e26, e28, e29] at k1
  try simp only [e2, e7, e11, e12, e13, e14, e16, e18, e20, e22, e24, e26, e28, e29] at y0
  try simp only [e2, e7, e11, e12, e13, e14, e16, e18, e20, e22, e24, e26, e28, e29] at y1
  try simp only [e2, e7, e11, e12, e13, e14, e16, e18, e20, e22, e24, e26, e28, e29] at p0
  clear g3
  clear g4
  clear f19 f22 f24 f27 f30 f34 f36 f39 f42 f46 f48 f51 f54 f56 f58 f61 f64 e2 e7 e11 e12 e13 e14 e15 e16 e17 e18 e19 e20 e21 e22 e23 e24 e25 e26 e27 e28 e29
  subst e0
  subst e1
  subst e3
  subst e4
  subst e5
  subst e6
  subst e8
  subst e9
  subst e10
  try subst k1
  try subst k0
  refine ⟨?_, ?_, ?_⟩ <;> first | assumption | omega | trivial
theorem c_300_39_13 {q0 : Nat} : vOkm T0 (eP e_300 L_300 A_300 mu_300 (some q0)) 3 ([(1271, [28, 3, 8], [1, 2], 0), (90, [28], [], -10999), (91, [28], [], 10999), (40, [23, 27], [], 0), (22, [27, 24, 26], [1], 0), (90, [27], [], -1), (91, [27], [], 9999), (22, [26, 25, 8], [1], 0), (90, [26], [], 0), (91, [26], [], 1007), (20, [25, 3], [1], 83), (0, [25], [], 344), (20, [24, 3], [1], 26), (0, [24], [], 300), (22, [23, 20, 22], [1], 0), (90, [23], [], -1), (91, [23], [], 9999), (22, [22, 21, 7], [1], 0), (90, [22], [], 0), (91, [22], [], 1007), (20, [21, 3], [1], 83), (0, [21], [], 344), (20, [20, 3], [1], 26), (0, [20], [], 300), (40, [18, 19], [], 0), (0, [19], [], 1), (22, [18, 15, 17], [1], 0), (90, [18], [], 0), (91, [18], [], 5), (22, [17, 16, 8], [1], 0), (90, [17], [], 0), (91, [17], [], 1007), (20, [16, 3], [1], 83), (0, [16], [], 344), (20, [15, 3], [1], 24), (0, [15], [], 298), (40, [13, 14], [], 0), (0, [14], [], 1), (22, [13, 10, 12], [1], 0), (90, [13], [], 0), (91, [13], [], 5), (22, [12, 11, 7], [1], 0), (90, [12], [], 0), (91, [12], [], 1007), (20, [11, 3], [1], 83), (0, [11], [], 344), (20, [10, 3], [1], 24), (0, [10], [], 298), (42, [8, 9], [], 0), (20, [9, 3], [1], 82), (90, [9], [], 0), (91, [9], [], 40), (5000, [0, 1, 2, 3, 4, 5, 6, 7, 8], [0, 1], 39), (0, [0], [], 285), (90, [1], [], -2147483648), (91, [1], [], 2147483647), (90, [2], [], -2147483648), (91, [2], [], 2147483647), (0, [3], [], 285), (90, [4], [], -2147483648), (91, [4], [], 2147483647), (90, [5], [], -2147483648), (91, [5], [], 2147483647), (90, [6], [], -2147483648), (91, [6], [], 2147483647), (90, [7], [], 0), (91, [7], [], 39), (90, [8], [], 0), (91, [8], [], 40)], (2271, [3, 7], [2], 0)) := vOk_in fun ρ η h => by
  obtain ⟨f0, f1, f2, f3, f4, f5, f6, f7, f8, f9, f10, f11, f12, f13, f14, f15, f16, f17, f18, f19, f20, f21, f22, f23, f24, f25, f26, f27, f28, f29, f30, f31, f32, f33, f34, f35, f36, f37, f38, f39, f40, f41, f42, f43, f44, f45, f46, f47, f48, f49, f50, f51, f52, f53, f54, f55, f56, f57, f58, f59, f60, f61, f62, f63, f64, f65, f66, f67, f68, _⟩ := h
  exact q_300_21 (q0 := q0) (n0 := ρ 8) (n1 := ρ 7) (n2 := ρ 6) (n3 := ρ 5) (n4 := ρ 4) (n5 := ρ 3) (n6 := ρ 2) (n7 := ρ 1) (n8 := ρ 0) (n9 := ρ 9) (n10 := ρ 10) (n11 := ρ 11) (n12 := ρ 12) (n13 := ρ 13) (n14 := ρ 14) (n15 := ρ 15) (n16 := ρ 16) (n17 := ρ 17) (n18 := ρ 18) (n19 := ρ 19) (n20 := ρ 20) (n21 := ρ 21) (n22 := ρ 22) (n23 := ρ 23) (n24 := ρ 24) (n25 := ρ 25) (n26 := ρ 26) (n27 := ρ 27) (n28 := ρ 28) (H0 := η 0) (H1 := η 1) (H2 := η 2) f68 f67 f66 f65 f64 f63 f62 f61 f60 f59 f58 f57 f56 f55 f54 f53 f52 f51 f50 f49 f48 f47 f46 f45 f44 f43 f42 f41 f40 f39 f38 f37 f36 f35 f34 f33 f32 f31 f30 f29 f28 f27 f26 f25 f24 f23 f22 f21 f20 f19 f18 f17 f16 f15 f14 f13 f12 f11 f10 f9 f8 f7 f6 f5 f4 f3 f2 f1 f0
theorem q_300_22 {q0 : Nat} {n0 n1 n2 n3 n4 n5 n6 n7 n8 n9 n10 n11 n12 n13 n14 n15 n16 n17 n18 n19 n20 n21 n22 n23 n24 n25 n26 n27 n28 n29 : Int} {H0 H1 H2 H3 : gH} (f0 : n0 ≤ 40) (f1 : 0 ≤ n0) (f2 : n1 ≤ 39) (f3 : 0 ≤ n1) (f4 : n2 ≤ 2147483647) (f5 : (-2147483648) ≤ n2) (f6 : n3 ≤ 2147483647) (f7 : (-2147483648) ≤ n3) (f8 : n4 ≤ 2147483647) (f9 : (-2147483648) ≤ n4) (f10 : n5 = 285) (f11 : n6 ≤ 2147483647) (f12 : (-2147483648) ≤ n6) (f13 : n7 ≤ 2147483647) (f14 : (-2147483648) ≤ n7) (f15 : n8 = 285) (f16 : (hLe T0 H0 H1 ∧ hFr s_300.2.2.2.2 H0 H1 ∧ hWt T0 H1) ∧ (Ab_300_39 n8 n7 n6 n5 n4 n3 n2 n1 n0 H0 H1 ∧ preb_300 n8 n7 n6 H0) ∧ some q0 = some (mub_300_39 n8 n7 n6 n5 n4 n3 n2 n1 n0 H0 H1)) (f17 : n9 ≤ 40) (f18 : 0 ≤ n9) (f19 : n9 = hV H1 (n5).toNat 82) (f20 : n0 < n9) (f21 : n10 = 298) (f22 : n10 = hV H1 (n5).toNat 24) (f23 : n11 = 344) (f24 : n11 = hV H1 (n5).toNat 83) (f25 : n12 ≤ 1007) (f26 : 0 ≤ n12) (f27 : n12 = hV H1 (n11).toNat (n1).toNat) (f28 : n13 ≤ 5) (f29 : 0 ≤ n13) (f30 : n13 = hV H1 (n10).toNat (n12).toNat) (f31 : n14 = 1) (f32 : n13 = n14) (f33 : n15 = 298) (f34 : n15 = hV H1 (n5).toNat 24) (f35 : n16 = 344) (f36 : n16 = hV H1 (n5).toNat 83) (f37 : n17 ≤ 1007) (f38 : 0 ≤ n17) (f39 : n17 = hV H1 (n16).toNat (n0).toNat) (f40 : n18 ≤ 5) (f41 : 0 ≤ n18) (f42 : n18 = hV H1 (n15).toNat (n17).toNat) (f43 : n19 = 1) (f44 : n18 = n19) (f45 : n20 = 300) (f46 : n20 = hV H1 (n5).toNat 26) (f47 : n21 = 344) (f48 : n21 = hV H1 (n5).toNat 83) (f49 : n22 ≤ 1007) (f50 : 0 ≤ n22) (f51 : n22 = hV H1 (n21).toNat (n1).toNat) (f52 : n23 ≤ 9999) (f53 : (-1) ≤ n23) (f54 : n23 = hV H1 (n20).toNat (n22).toNat) (f55 : n24 = 300) (f56 : n24 = hV H1 (n5).toNat 26) (f57 : n25 = 344) (f58 : n25 = hV H1 (n5).toNat 83) (f59 : n26 ≤ 1007) (f60 : 0 ≤ n26) (f61 : n26 = hV H1 (n25).toNat (n0).toNat) (f62 : n27 ≤ 9999) (f63 : (-1) ≤ n27) (f64 : n27 = hV H1 (n24).toNat (n26).toNat) (f65 : n23 = n27) (f66 : n28 ≤ 10999) (f67 : (-10999) ≤ n28) (f68 : (hLe T0 H1 H2 ∧ hFr s_271.2.2.2.2 H1 H2 ∧ ((0 : Int) = 0 → H2.length = H1.length) ∧ hWt T0 H2) ∧ True) (f69 : n29 ≤ 10999) (f70 : (-10999) ≤ n29) (f71 : (hLe T0 H2 H3 ∧ hFr s_271.2.2.2.2 H2 H3 ∧ ((0 : Int) = 0 → H3.length = H2.length) ∧ hWt T0 H3) ∧ True) (f72 : n29 ≤ n28) (f73 : n1 ≠ n1) : preb_271 n5 n1 H3 := by
  have g4 := f16.2.1.1
  unfold Ab_300_39 at g4
  have g3 := f16.2.1.2
  unfold preb_300 at g3
  unfold preb_271
  have e0 : n9 = hV H1 285 82 := (by rw [f10] at f19; exact f19 : n9 = hV H1 285 82)
  have e1 : n12 = hV H1 344 (n1).toNat := (by rw [f23] at f27; exact f27 : n12 = hV H1 344 (n1).toNat)
  have e2 : hV H1 298 = hV H0 298 := fRow f16.1.2.1 298 (by decide +kernel)
  have e3 : n13 = hV H0 298 (n12).toNat := (by rw [f21] at f30; exact f30 : n13 = hV H1 298 (n12).toNat).trans ((congrFun e2 _))
  have e4 : n17 = hV H1 344 (n0).toNat := (by rw [f35] at f39; exact f39 : n17 = hV H1 344 (n0).toNat)
  have e5 : n18 = hV H0 298 (n17).toNat := (by rw [f33] at f42; exact f42 : n18 = hV H1 298 (n17).toNat).trans ((congrFun e2 _))
  have e6 : n22 = hV H1 344 (n1).toNat := (by rw [f47] at f51; exact f51 : n22 = hV H1 344 (n1).toNat)
  have e7 : hV H1 300 = hV H0 300 := fRow f16.1.2.1 300 (by decide +kernel)
  have e8 : n23 = hV H0 300 (n22).toNat := (by rw [f45] at f54; exact f54 : n23 = hV H1 300 (n22).toNat).trans ((congrFun e7 _))
  have e9 : n26 = hV H1 344 (n0).toNat := (by rw [f57] at f61; exact f61 : n26 = hV H1 344 (n0).toNat)
  have e10 : n27 = hV H0 300 (n26).toNat := (by rw [f55] at f64; exact f64 : n27 = hV H1 300 (n26).toNat).trans ((congrFun e7 _))
  have e11 : hV H1 301 = hV H0 301 := fRow f16.1.2.1 301 (by decide +kernel)
  have e12 : hV H1 302 = hV H0 302 := fRow f16.1.2.1 302 (by decide +kernel)
  have e13 : hV H1 303 = hV H0 303 := fRow f16.1.2.1 303 (by decide +kernel)
  have e14 : hV H1 305 = hV H0 305 := fRow f16.1.2.1 305 (by decide +kernel)
  have e15 : hV H3 285 82 = hV H2 285 82 := f71.1.2.1.1 285 82 (by decide +kernel)
  have e16 : hV H2 285 82 = hV H1 285 82 := f68.1.2.1.1 285 82 (by decide +kernel)
  have e17 : hV H3 285 82 = hV H1 285 82 := (e15).trans e16
  have e18 : hV H3 298 = hV H2 298 := fRow f71.1.2.1 298 (by decide +kernel)
  have e19 : hV H2 298 = hV H1 298 := fRow f68.1.2.1 298 (by decide +kernel)
  have e20 : hV H2 298 = hV H0 298 := e19.trans e2
  have e21 : hV H3 298 = hV H0 298 := e18.trans e20
  have e22 : hV H3 300 = hV H2 300 := fRow f71.1.2.1 300 (by decide +kernel)
  have e23 : hV H2 300 = hV H1 300 := fRow f68.1.2.1 300 (by decide +kernel)
  have e24 : hV H2 300 = hV H0 300 := e23.trans e7
  have e25 : hV H3 300 = hV H0 300 := e22.trans e24
  have e26 : hV H3 301 = hV H2 301 := fRow f71.1.2.1 301 (by decide +kernel)
  have e27 : hV H2 301 = hV H1 301 := fRow f68.1.2.1 301 (by decide +kernel)
  have e28 : hV H2 301 = hV H0 301 := e27.trans e11
  have e29 : hV H3 301 = hV H0 301 := e26.trans e28
  have e30 : hV H3 302 = hV H2 302 := fRow f71.1.2.1 302 (by decide +kernel)
  have e31 : hV H2 302 = hV H1 302 := fRow f68.1.2.1 302 (by decide +kernel)
  have e32 : hV H2 302 = hV H0 302 := e31.trans e12
  have e33 : hV H3 302 = hV H0 302 := e30.trans e32
  have e34 : hV H3 303 = hV H2 303 := fRow f71.1.2.1 303 (by decide +kernel)
  have e35 : hV H2 303 = hV H1 303 := fRow f68.1.2.1 303 (by decide +kernel)
  have e36 : hV H2 303 = hV H0 303 := e35.trans e13
  have e37 : hV H3 303 = hV H0 303 := e34.trans e36
  have e38 : hV H3 305 = hV H2 305 := fRow f71.1.2.1 305 (by decide +kernel)
  have e39 : hV H2 305 = hV H1 305 := fRow f68.1.2.1 305 (by decide +kernel)
  have e40 : hV H2 305 = hV H0 305 := e39.trans e14
  have e41 : hV H3 305 = hV H0 305 := e38.trans e40
  have e42 : hV H3 344 = hV H2 344 := fRow f71.1.2.1 344 (by decide +kernel)
  have e43 : hV H2 344 = hV H1 344 := fRow f68.1.2.1 344 (by decide +kernel)
  have e44 : hV H3 344 = hV H1 344 := e42.trans e43
  have e45 : (0 : Int) ≤ hV H1 285 82 ∧ hV H1 285 82 ≤ 40 := f16.1.2.2 285 82 _ _ (by decide +kernel)
  have e46 : (0 : Int) ≤ hV H3 285 82 ∧ hV H3 285 82 ≤ 40 := f71.1.2.2.2 285 82 _ _ (by decide +kernel)
  try simp only [XQ] at *
  try simp only [e2, e7, e11, e12, e13, e14, e17, e21, e25, e29, e33, e37, e41, e44] at f16
  try simp only [e2, e7, e11, e12, e13, e14, e17, e21, e25, e29, e33, e37, e41, e44] at e45
  try simp only [e2, e7, e11, e12, e13, e14, e17, e21, e25, e29, e33, e37, e41, e44] at e46
  try simp only [e2, e7, e11, e12, e13, e14, e17, e21, e25, e29, e33, e37, e41, e44] at g3
  try simp only [e2, e7, e11, e12, e13, e14, e17, e21, e25, e29, e33, e37, e41, e44] at g4
  try simp only [e2, e7, e11, e12, e13, e14, e17, e21, e25, e29, e33, e37, e41, e44]
  have k0 := g4.1
  have k1 := g4.2.1
  have y0 := g4.2.2.1
  have y1 := g4.2.2.2
  have p0 := g3
  try simp only [e2, e7, e11, e12, e13, e14, e17, e21, e25, e29, e33, e37, e41, e44] at k0
  try simp only [e2, e7, e11, e12, e13, e14, e17, e21, e25, e29, e33, e37, e41, e44] at k1
  try simp only [e2, e7, e11, e12, e13, e14, e17, e21, e25, e29, e33, e37, e41, e44] at y0
  try simp only [e2, e7, e11, e12, e13, e14, e17, e21, e25, e29, e33, e37, e41, e44] at y1
  try simp only [e2, e7, e11, e12, e13, e14, e17, e21, e25, e29, e33, e37, e41, e44] at p0
  clear g3
  clear g4
  clear f19 f22 f24 f27 f30 f34 f36 f39 f42 f46 f48 f51 f54 f56 f58 f61 f64 e2 e7 e11 e12 e13 e14 e15 e16 e17 e18 e19 e20 e21 e22 e23 e24 e25 e26 e27 e28 e29 e30 e31 e32 e33 e34 e35 e36 e37 e38 e39 e40 e41 e42 e43 e44
  subst e0
  subst e1
  subst e3
  subst e4
  subst e5
  subst e6
  subst e8
  subst e9
  subst e10
  try subst k1
  try subst k0
  refine ⟨?_, ?_, ?_⟩ <;> first | assumption | omega | trivial
theorem c_300_39_14 {q0 : Nat} : vOkm T0 (eP e_300 L_300 A_300 mu_300 (some q0)) 3 ([(41, [7, 7], [], 0), (43, [28, 29], [], 0), (1271, [29, 3, 7], [2, 3], 0), (90, [29], [], -10999), (91, [29], [], 10999), (1271, [28, 3, 8], [1, 2], 0), (90, [28], [], -10999), (91, [28], [], 10999), (40, [23, 27], [], 0), (22, [27, 24, 26], [1], 0), (90, [27], [], -1), (91, [27], [], 9999), (22, [26, 25, 8], [1], 0), (90, [26], [], 0), (91, [26], [], 1007), (20, [25, 3], [1], 83), (0, [25], [], 344), (20, [24, 3], [1], 26), (0, [24], [], 300), (22, [23, 20, 22], [1], 0), (90, [23], [], -1), (91, [23], [], 9999), (22, [22, 21, 7], [1], 0), (90, [22], [], 0), (91, [22], [], 1007), (20, [21, 3], [1], 83), (0, [21], [], 344), (20, [20, 3], [1], 26), (0, [20], [], 300), (40, [18, 19], [], 0), (0, [19], [], 1), (22, [18, 15, 17], [1], 0), (90, [18], [], 0), (91, [18], [], 5), (22, [17, 16, 8], [1], 0), (90, [17], [], 0), (91, [17], [], 1007), (20, [16, 3], [1], 83), (0, [16], [], 344), (20, [15, 3], [1], 24), (0, [15], [], 298), (40, [13, 14], [], 0), (0, [14], [], 1), (22, [13, 10, 12], [1], 0), (90, [13], [], 0), (91, [13], [], 5), (22, [12, 11, 7], [1], 0), (90, [12], [], 0), (91, [12], [], 1007), (20, [11, 3], [1], 83), (0, [11], [], 344), (20, [10, 3], [1], 24), (0, [10], [], 298), (42, [8, 9], [], 0), (20, [9, 3], [1], 82), (90, [9], [], 0), (91, [9], [], 40), (5000, [0, 1, 2, 3, 4, 5, 6, 7, 8], [0, 1], 39), (0, [0], [], 285), (90, [1], [], -2147483648), (91, [1], [], 2147483647), (90, [2], [], -2147483648), (91, [2], [], 2147483647), (0, [3], [], 285), (90, [4], [], -2147483648), (91, [4], [], 2147483647), (90, [5], [], -2147483648), (91, [5], [], 2147483647), (90, [6], [], -2147483648), (91, [6], [], 2147483647), (90, [7], [], 0), (91, [7], [], 39), (90, [8], [], 0), (91, [8], [], 40)], (2271, [3, 7], [3], 0)) := vOk_in fun ρ η h => by
  obtain ⟨f0, f1, f2, f3, f4, f5, f6, f7, f8, f9, f10, f11, f12, f13, f14, f15, f16, f17, f18, f19, f20, f21, f22, f23, f24, f25, f26, f27, f28, f29, f30, f31, f32, f33, f34, f35, f36, f37, f38, f39, f40, f41, f42, f43, f44, f45, f46, f47, f48, f49, f50, f51, f52, f53, f54, f55, f56, f57, f58, f59, f60, f61, f62, f63, f64, f65, f66, f67, f68, f69, f70, f71, f72, f73, _⟩ := h
  exact q_300_22 (q0 := q0) (n0 := ρ 8) (n1 := ρ 7) (n2 := ρ 6) (n3 := ρ 5) (n4 := ρ 4) (n5 := ρ 3) (n6 := ρ 2) (n7 := ρ 1) (n8 := ρ 0) (n9 := ρ 9) (n10 := ρ 10) (n11 := ρ 11) (n12 := ρ 12) (n13 := ρ 13) (n14 := ρ 14) (n15 := ρ 15) (n16 := ρ 16) (n17 := ρ 17) (n18 := ρ 18) (n19 := ρ 19) (n20 := ρ 20) (n21 := ρ 21) (n22 := ρ 22) (n23 := ρ 23) (n24 := ρ 24) (n25 := ρ 25) (n26 := ρ 26) (n27 := ρ 27) (n28 := ρ 28) (n29 := ρ 29) (H0 := η 0) (H1 := η 1) (H2 := η 2) (H3 := η 3) f73 f72 f71 f70 f69 f68 f67 f66 f65 f64 f63 f62 f61 f60 f59 f58 f57 f56 f55 f54 f53 f52 f51 f50 f49 f48 f47 f46 f45 f44 f43 f42 f41 f40 f39 f38 f37 f36 f35 f34 f33 f32 f31 f30 f29 f28 f27 f26 f25 f24 f23 f22 f21 f20 f19 f18 f17 f16 f15 f14 f13 f12 f11 f10 f9 f8 f7 f6 f5 f4 f3 f2 f1 f0
theorem q_300_23 {q0 : Nat} {n0 n1 n2 n3 n4 n5 n6 n7 n8 n9 n10 n11 n12 n13 n14 n15 n16 n17 n18 n19 n20 n21 n22 n23 n24 n25 n26 n27 n28 n29 n30 : Int} {H0 H1 H2 H3 H4 : gH} (f0 : n0 ≤ 40) (f1 : 0 ≤ n0) (f2 : n1 ≤ 39) (f3 : 0 ≤ n1) (f4 : n2 ≤ 2147483647) (f5 : (-2147483648) ≤ n2) (f6 : n3 ≤ 2147483647) (f7 : (-2147483648) ≤ n3) (f8 : n4 ≤ 2147483647) (f9 : (-2147483648) ≤ n4) (f10 : n5 = 285) (f11 : n6 ≤ 2147483647) (f12 : (-2147483648) ≤ n6) (f13 : n7 ≤ 2147483647) (f14 : (-2147483648) ≤ n7) (f15 : n8 = 285) (f16 : (hLe T0 H0 H1 ∧ hFr s_300.2.2.2.2 H0 H1 ∧ hWt T0 H1) ∧ (Ab_300_39 n8 n7 n6 n5 n4 n3 n2 n1 n0 H0 H1 ∧ preb_300 n8 n7 n6 H0) ∧ some q0 = some (mub_300_39 n8 n7 n6 n5 n4 n3 n2 n1 n0 H0 H1)) (f17 : n9 ≤ 40) (f18 : 0 ≤ n9) (f19 : n9 = hV H1 (n5).toNat 82) (f20 : n0 < n9) (f21 : n10 = 298) (f22 : n10 = hV H1 (n5).toNat 24) (f23 : n11 = 344) (f24 : n11 = hV H1 (n5).toNat 83) (f25 : n12 ≤ 1007) (f26 : 0 ≤ n12) (f27 : n12 = hV H1 (n11).toNat (n1).toNat) (f28 : n13 ≤ 5) (f29 : 0 ≤ n13) (f30 : n13 = hV H1 (n10).toNat (n12).toNat) (f31 : n14 = 1) (f32 : n13 = n14) (f33 : n15 = 298) (f34 : n15 = hV H1 (n5).toNat 24) (f35 : n16 = 344) (f36 : n16 = hV H1 (n5).toNat 83) (f37 : n17 ≤ 1007) (f38 : 0 ≤ n17) (f39 : n17 = hV H1 (n16).toNat (n0).toNat) (f40 : n18 ≤ 5) (f41 : 0 ≤ n18) (f42 : n18 = hV H1 (n15).toNat (n17).toNat) (f43 : n19 = 1) (f44 : n18 = n19) (f45 : n20 = 300) (f46 : n20 = hV H1 (n5).toNat 26) (f47 : n21 = 344) (f48 : n21 = hV H1 (n5).toNat 83) (f49 : n22 ≤ 1007) (f50 : 0 ≤ n22) (f51 : n22 = hV H1 (n21).toNat (n1).toNat) (f52 : n23 ≤ 9999) (f53 : (-1) ≤ n23) (f54 : n23 = hV H1 (n20).toNat (n22).toNat) (f55 : n24 = 300) (f56 : n24 = hV H1 (n5).toNat 26) (f57 : n25 = 344) (f58 : n25 = hV H1 (n5).toNat 83) (f59 : n26 ≤ 1007) (f60 : 0 ≤ n26) (f61 : n26 = hV H1 (n25).toNat (n0).toNat) (f62 : n27 ≤ 9999) (f63 : (-1) ≤ n27) (f64 : n27 = hV H1 (n24).toNat (n26).toNat) (f65 : n23 = n27) (f66 : n28 ≤ 10999) (f67 : (-10999) ≤ n28) (f68 : (hLe T0 H1 H2 ∧ hFr s_271.2.2.2.2 H1 H2 ∧ ((0 : Int) = 0 → H2.length = H1.length) ∧ hWt T0 H2) ∧ True) (f69 : n29 ≤ 10999) (f70 : (-10999) ≤ n29) (f71 : (hLe T0 H2 H3 ∧ hFr s_271.2.2.2.2 H2 H3 ∧ ((0 : Int) = 0 → H3.length = H2.length) ∧ hWt T0 H3) ∧ True) (f72 : n29 ≤ n28) (f73 : n1 ≠ n1) (f74 : n30 ≤ 10999) (f75 : (-10999) ≤ n30) (f76 : (hLe T0 H3 H4 ∧ hFr s_271.2.2.2.2 H3 H4 ∧ ((0 : Int) = 0 → H4.length = H3.length) ∧ hWt T0 H4) ∧ True) : preb_272 n5 n1 H4 := by
  have g4 := f16.2.1.1
  unfold Ab_300_39 at g4
  have g3 := f16.2.1.2
  unfold preb_300 at g3
  unfold preb_272
  have e0 : n9 = hV H1 285 82 := (by rw [f10] at f19; exact f19 : n9 = hV H1 285 82)
  have e1 : n12 = hV H1 344 (n1).toNat := (by rw [f23] at f27; exact f27 : n12 = hV H1 344 (n1).toNat)
  have e2 : hV H1 298 = hV H0 298 := fRow f16.1.2.1 298 (by decide +kernel)
  have e3 : n13 = hV H0 298 (n12).toNat := (by rw [f21] at f30; exact f30 : n13 = hV H1 298 (n12).toNat).trans ((congrFun e2 _))
  have e4 : n17 = hV H1 344 (n0).toNat := (by rw [f35] at f39; exact f39 : n17 = hV H1 344 (n0).toNat)
  have e5 : n18 = hV H0 298 (n17).toNat := (by rw [f33] at f42; exact f42 : n18 = hV H1 298 (n17).toNat).trans ((congrFun e2 _))
  have e6 : n22 = hV H1 344 (n1).toNat := (by rw [f47] at f51; exact f51 : n22 = hV H1 344 (n1).toNat)
  have e7 : hV H1 300 = hV H0 300 := fRow f16.1.2.1 300 (by decide +kernel)
  have e8 : n23 = hV H0 300 (n22).toNat := (by rw [f45] at f54; exact f54 : n23 = hV H1 300 (n22).toNat).trans ((congrFun e7 _))
  have e9 : n26 = hV H1 344 (n0).toNat := (by rw [f57] at f61; exact f61 : n26 = hV H1 344 (n0).toNat)
  have e10 : n27 = hV H0 300 (n26).toNat := (by rw [f55] at f64; exact f64 : n27 = hV H1 300 (n26).toNat).trans ((congrFun e7 _))
  have e11 : hV H1 301 = hV H0 301 := fRow f16.1.2.1 301 (by decide +kernel)
  have e12 : hV H1 302 = hV H0 302 := fRow f16.1.2.1 302 (by decide +kernel)
  have e13 : hV H1 303 = hV H0 303 := fRow f16.1.2.1 303 (by decide +kernel)
  have e14 : hV H1 305 = hV H0 305 := fRow f16.1.2.1 305 (by decide +kernel)
  have e15 : hV H4 285 82 = hV H3 285 82 := f76.1.2.1.1 285 82 (by decide +kernel)
  have e16 : hV H3 285 82 = hV H2 285 82 := f71.1.2.1.1 285 82 (by decide +kernel)
  have e17 : hV H2 285 82 = hV H1 285 82 := f68.1.2.1.1 285 82 (by decide +kernel)
  have e18 : hV H4 285 82 = hV H1 285 82 := (e15).trans ((e16).trans e17)
  have e19 : hV H4 298 = hV H3 298 := fRow f76.1.2.1 298 (by decide +kernel)
  have e20 : hV H3 298 = hV H2 298 := fRow f71.1.2.1 298 (by decide +kernel)
  have e21 : hV H2 298 = hV H1 298 := fRow f68.1.2.1 298 (by decide +kernel)
  have e22 : hV H2 298 = hV H0 298 := e21.trans e2
  have e23 : hV H3 298 = hV H0 298 := e20.trans e22
  have e24 : hV H4 298 = hV H0 298 := e19.trans e23
  have e25 : hV H4 300 = hV H3 300 := fRow f76.1.2.1 300 (by decide +kernel)
  have e26 : hV H3 300 = hV H2 300 := fRow f71.1.2.1 300 (by decide +kernel)
  have e27 : hV H2 300 = hV H1 300 := fRow f68.1.2.1 300 (by decide +kernel)
  have e28 : hV H2 300 = hV H0 300 := e27.trans e7
  have e29 : hV H3 300 = hV H0 300 := e26.trans e28
  have e30 : hV H4 300 = hV H0 300 := e25.trans e29
  have e31 : hV H4 301 = hV H3 301 := fRow f76.1.2.1 301 (by decide +kernel)
  have e32 : hV H3 301 = hV H2 301 := fRow f71.1.2.1 301 (by decide +kernel)
  have e33 : hV H2 301 = hV H1 301 := fRow f68.1.2.1 301 (by decide +kernel)
  have e34 : hV H2 301 = hV H0 301 := e33.trans e11
  have e35 : hV H3 301 = hV H0 301 := e32.trans e34
  have e36 : hV H4 301 = hV H0 301 := e31.trans e35
  have e37 : hV H4 302 = hV H3 302 := fRow f76.1.2.1 302 (by decide +kernel)
  have e38 : hV H3 302 = hV H2 302 := fRow f71.1.2.1 302 (by decide +kernel)
  have e39 : hV H2 302 = hV H1 302 := fRow f68.1.2.1 302 (by decide +kernel)
  have e40 : hV H2 302 = hV H0 302 := e39.trans e12
  have e41 : hV H3 302 = hV H0 302 := e38.trans e40
  have e42 : hV H4 302 = hV H0 302 := e37.trans e41
  have e43 : hV H4 303 = hV H3 303 := fRow f76.1.2.1 303 (by decide +kernel)
  have e44 : hV H3 303 = hV H2 303 := fRow f71.1.2.1 303 (by decide +kernel)
  have e45 : hV H2 303 = hV H1 303 := fRow f68.1.2.1 303 (by decide +kernel)
  have e46 : hV H2 303 = hV H0 303 := e45.trans e13
  have e47 : hV H3 303 = hV H0 303 := e44.trans e46
  have e48 : hV H4 303 = hV H0 303 := e43.trans e47
  have e49 : hV H4 305 = hV H3 305 := fRow f76.1.2.1 305 (by decide +kernel)
  have e50 : hV H3 305 = hV H2 305 := fRow f71.1.2.1 305 (by decide +kernel)
  have e51 : hV H2 305 = hV H1 305 := fRow f68.1.2.1 305 (by decide +kernel)
  have e52 : hV H2 305 = hV H0 305 := e51.trans e14
  have e53 : hV H3 305 = hV H0 305 := e50.trans e52
  have e54 : hV H4 305 = hV H0 305 := e49.trans e53
  have e55 : hV H4 344 = hV H3 344 := fRow f76.1.2.1 344 (by decide +kernel)
  have e56 : hV H3 344 = hV H2 344 := fRow f71.1.2.1 344 (by decide +kernel)
  have e57 : hV H2 344 = hV H1 344 := fRow f68.1.2.1 344 (by decide +kernel)
  have e58 : hV H3 344 = hV H1 344 := e56.trans e57
  have e59 : hV H4 344 = hV H1 344 := e55.trans e58
  have e60 : (0 : Int) ≤ hV H1 285 82 ∧ hV H1 285 82 ≤ 40 := f16.1.2.2 285 82 _ _ (by decide +kernel)
  have e61 : (0 : Int) ≤ hV H4 285 82 ∧ hV H4 285 82 ≤ 40 := f76.1.2.2.2 285 82 _ _ (by decide +kernel)
  try simp only [XQ] at *
  try simp only [e2, e7, e11, e12, e13, e14, e18, e24, e30, e36, e42, e48, e54, e59] at f16
  try simp only [e2, e7, e11, e12, e13, e14, e18, e24, e30, e36, e42, e48, e54, e59] at e60
  try simp only [e2, e7, e11, e12, e13, e14, e18, e24, e30, e36, e42, e48, e54, e59] at e61
  try simp only [e2, e7, e11, e12, e13, e14, e18, e24, e30, e36, e42, e48, e54, e59] at g3
  try simp only [e2, e7, e11, e12, e13, e14, e18, e24, e30, e36, e42, e48, e54, e59] at g4
  try simp only [e2, e7, e11, e12, e13, e14, e18, e24, e30, e36, e42, e48, e54, e59]
  have k0 := g4.1
  have k1 := g4.2.1
  have y0 := g4.2.2.1
  have y1 := g4.2.2.2
  have p0 := g3
  try simp only [e2, e7, e11, e12, e13, e14, e18, e24, e30, e36, e42, e48, e54, e59] at k0
  try simp only [e2, e7, e11, e12, e13, e14, e18, e24, e30, e36, e42, e48, e54, e59] at k1
  try simp only [e2, e7, e11, e12, e13, e14, e18, e24, e30, e36, e42, e48, e54, e59] at y0
  try simp only [e2, e7, e11, e12, e13, e14, e18, e24, e30, e36, e42, e48, e54, e59] at y1
  try simp only [e2, e7, e11, e12, e13, e14, e18, e24, e30, e36, e42, e48, e54, e59] at p0
  clear g3
  clear g4
  clear f19 f22 f24 f27 f30 f34 f36 f39 f42 f46 f48 f51 f54 f56 f58 f61 f64 e2 e7 e11 e12 e13 e14 e15 e16 e17 e18 e19 e20 e21 e22 e23 e24 e25 e26 e27 e28 e29 e30 e31 e32 e33 e34 e35 e36 e37 e38 e39 e40 e41 e42 e43 e44 e45 e46 e47 e48 e49 e50 e51 e52 e53 e54 e55 e56 e57 e58 e59
  subst e0
  subst e1
  subst e3
  subst e4
  subst e5
  subst e6
  subst e8
  subst e9
  subst e10
  try subst k1
  try subst k0
  refine ⟨?_, ?_, ?_⟩ <;> first | assumption | omega | trivial
theorem c_300_39_15 {q0 : Nat} : vOkm T0 (eP e_300 L_300 A_300 mu_300 (some q0)) 3 ([(1271, [30, 3, 7], [3, 4], 0), (90, [30], [], -10999), (91, [30], [], 10999), (41, [7, 7], [], 0), (43, [28, 29], [], 0), (1271, [29, 3, 7], [2, 3], 0), (90, [29], [], -10999), (91, [29], [], 10999), (1271, [28, 3, 8], [1, 2], 0), (90, [28], [], -10999), (91, [28], [], 10999), (40, [23, 27], [], 0), (22, [27, 24, 26], [1], 0), (90, [27], [], -1), (91, [27], [], 9999), (22, [26, 25, 8], [1], 0), (90, [26], [], 0), (91, [26], [], 1007), (20, [25, 3], [1], 83), (0, [25], [], 344), (20, [24, 3], [1], 26), (0, [24], [], 300), (22, [23, 20, 22], [1], 0), (90, [23], [], -1), (91, [23], [], 9999), (22, [22, 21, 7], [1], 0), (90, [22], [], 0), (91, [22], [], 1007), (20, [21, 3], [1], 83), (0, [21], [], 344), (20, [20, 3], [1], 26), (0, [20], [], 300), (40, [18, 19], [], 0), (0, [19], [], 1), (22, [18, 15, 17], [1], 0), (90, [18], [], 0), (91, [18], [], 5), (22, [17, 16, 8], [1], 0), (90, [17], [], 0), (91, [17], [], 1007), (20, [16, 3], [1], 83), (0, [16], [], 344), (20, [15, 3], [1], 24), (0, [15], [], 298), (40, [13, 14], [], 0), (0, [14], [], 1), (22, [13, 10, 12], [1], 0), (90, [13], [], 0), (91, [13], [], 5), (22, [12, 11, 7], [1], 0), (90, [12], [], 0), (91, [12], [], 1007), (20, [11, 3], [1], 83), (0, [11], [], 344), (20, [10, 3], [1], 24), (0, [10], [], 298), (42, [8, 9], [], 0), (20, [9, 3], [1], 82), (90, [9], [], 0), (91, [9], [], 40), (5000, [0, 1, 2, 3, 4, 5, 6, 7, 8], [0, 1], 39), (0, [0], [], 285), (90, [1], [], -2147483648), (91, [1], [], 2147483647), (90, [2], [], -2147483648), (91, [2], [], 2147483647), (0, [3], [], 285), (90, [4], [], -2147483648), (91, [4], [], 2147483647), (90, [5], [], -2147483648), (91, [5], [], 2147483647), (90, [6], [], -2147483648), (91, [6], [], 2147483647), (90, [7], [], 0), (91, [7], [], 39), (90, [8], [], 0), (91, [8], [], 40)], (2272, [3, 7], [4], 0)) := vOk_in fun ρ η h => by
  obtain ⟨f0, f1, f2, f3, f4, f5, f6, f7, f8, f9, f10, f11, f12, f13, f14, f15, f16, f17, f18, f19, f20, f21, f22, f23, f24, f25, f26, f27, f28, f29, f30, f31, f32, f33, f34, f35, f36, f37, f38, f39, f40, f41, f42, f43, f44, f45, f46, f47, f48, f49, f50, f51, f52, f53, f54, f55, f56, f57, f58, f59, f60, f61, f62, f63, f64, f65, f66, f67, f68, f69, f70, f71, f72, f73, f74, f75, f76, _⟩ := h
  exact q_300_23 (q0 := q0) (n0 := ρ 8) (n1 := ρ 7) (n2 := ρ 6) (n3 := ρ 5) (n4 := ρ 4) (n5 := ρ 3) (n6 := ρ 2) (n7 := ρ 1) (n8 := ρ 0) (n9 := ρ 9) (n10 := ρ 10) (n11 := ρ 11) (n12 := ρ 12) (n13 := ρ 13) (n14 := ρ 14) (n15 := ρ 15) (n16 := ρ 16) (n17 := ρ 17) (n18 := ρ 18) (n19 := ρ 19) (n20 := ρ 20) (n21 := ρ 21) (n22 := ρ 22) (n23 := ρ 23) (n24 := ρ 24) (n25 := ρ 25) (n26 := ρ 26) (n27 := ρ 27) (n28 := ρ 28) (n29 := ρ 29) (n30 := ρ 30) (H0 := η 0) (H1 := η 1) (H2 := η 2) (H3 := η 3) (H4 := η 4) f76 f75 f74 f73 f72 f71 f70 f69 f68 f67 f66 f65 f64 f63 f62 f61 f60 f59 f58 f57 f56 f55 f54 f53 f52 f51 f50 f49 f48 f47 f46 f45 f44 f43 f42 f41 f40 f39 f38 f37 f36 f35 f34 f33 f32 f31 f30 f29 f28 f27 f26 f25 f24 f23 f22 f21 f20 f19 f18 f17 f16 f15 f14 f13 f12 f11 f10 f9 f8 f7 f6 f5 f4 f3 f2 f1 f0
theorem q_300_24 {q0 : Nat} {n0 n1 n2 n3 n4 n5 n6 n7 n8 n9 n10 n11 n12 n13 n14 n15 n16 n17 n18 n19 n20 n21 n22 n23 n24 n25 n26 n27 n28 n29 : Int} {H0 H1 : gH} (f0 : n0 ≤ 40) (f1 : 0 ≤ n0) (f2 : n1 ≤ 39) (f3 : 0 ≤ n1) (f4 : n2 ≤ 2147483647) (f5 : (-2147483648) ≤ n2) (f6 : n3 ≤ 2147483647) (f7 : (-2147483648) ≤ n3) (f8 : n4 ≤ 2147483647) (f9 : (-2147483648) ≤ n4) (f10 : n5 = 285) (f11 : n6 ≤ 2147483647) (f12 : (-2147483648) ≤ n6) (f13 : n7 ≤ 2147483647) (f14 : (-2147483648) ≤ n7) (f15 : n8 = 285) (f16 : (hLe T0 H0 H1 ∧ hFr s_300.2.2.2.2 H0 H1 ∧ hWt T0 H1) ∧ (Ab_300_39 n8 n7 n6 n5 n4 n3 n2 n1 n0 H0 H1 ∧ preb_300 n8 n7 n6 H0) ∧ some q0 = some (mub_300_39 n8 n7 n6 n5 n4 n3 n2 n1 n0 H0 H1)) (f17 : n9 ≤ 40) (f18 : 0 ≤ n9) (f19 : n9 = hV H1 (n5).toNat 82) (f20 : n0 < n9) (f21 : n10 = 298) (f22 : n10 = hV H1 (n5).toNat 24) (f23 : n11 = 344) (f24 : n11 = hV H1 (n5).toNat 83) (f25 : n12 ≤ 1007) (f26 : 0 ≤ n12) (f27 : n12 = hV H1 (n11).toNat (n1).toNat) (f28 : n13 ≤ 5) (f29 : 0 ≤ n13) (f30 : n13 = hV H1 (n10).toNat (n12).toNat) (f31 : n14 = 1) (f32 : n13 = n14) (f33 : n15 = 298) (f34 : n15 = hV H1 (n5).toNat 24) (f35 : n16 = 344) (f36 : n16 = hV H1 (n5).toNat 83) (f37 : n17 ≤ 1007) (f38 : 0 ≤ n17) (f39 : n17 = hV H1 (n16).toNat (n0).toNat) (f40 : n18 ≤ 5) (f41 : 0 ≤ n18) (f42 : n18 = hV H1 (n15).toNat (n17).toNat) (f43 : n19 = 1) (f44 : n18 = n19) (f45 : n20 = 300) (f46 : n20 = hV H1 (n5).toNat 26) (f47 : n21 = 344) (f48 : n21 = hV H1 (n5).toNat 83) (f49 : n22 ≤ 1007) (f50 : 0 ≤ n22) (f51 : n22 = hV H1 (n21).toNat (n1).toNat) (f52 : n23 ≤ 9999) (f53 : (-1) ≤ n23) (f54 : n23 = hV H1 (n20).toNat (n22).toNat) (f55 : n24 = 300) (f56 : n24 = hV H1 (n5).toNat 26) (f57 : n25 = 344) (f58 : n25 = hV H1 (n5).toNat 83) (f59 : n26 ≤ 1007) (f60 : 0 ≤ n26) (f61 : n26 = hV H1 (n25).toNat (n0).toNat) (f62 : n27 ≤ 9999) (f63 : (-1) ≤ n27) (f64 : n27 = hV H1 (n24).toNat (n26).toNat) (f65 : n23 = n27) (f66 : n1 ≠ n1) (f67 : n2 ≠ 0) (f68 : n28 = w32 (n2 + (-1))) (f69 : n29 = w32 (n0 + 1)) : 0 ≤ n29 := by
  have g4 := f16.2.1.1
  unfold Ab_300_39 at g4
  have g3 := f16.2.1.2
  unfold preb_300 at g3
  have e0 : n9 = hV H1 285 82 := (by rw [f10] at f19; exact f19 : n9 = hV H1 285 82)
  have e1 : n12 = hV H1 344 (n1).toNat := (by rw [f23] at f27; exact f27 : n12 = hV H1 344 (n1).toNat)
  have e2 : hV H1 298 = hV H0 298 := fRow f16.1.2.1 298 (by decide +kernel)
  have e3 : n13 = hV H0 298 (n12).toNat := (by rw [f21] at f30; exact f30 : n13 = hV H1 298 (n12).toNat).trans ((congrFun e2 _))
  have e4 : n17 = hV H1 344 (n0).toNat := (by rw [f35] at f39; exact f39 : n17 = hV H1 344 (n0).toNat)
  have e5 : n18 = hV H0 298 (n17).toNat := (by rw [f33] at f42; exact f42 : n18 = hV H1 298 (n17).toNat).trans ((congrFun e2 _))
  have e6 : n22 = hV H1 344 (n1).toNat := (by rw [f47] at f51; exact f51 : n22 = hV H1 344 (n1).toNat)
  have e7 : hV H1 300 = hV H0 300 := fRow f16.1.2.1 300 (by decide +kernel)
  have e8 : n23 = hV H0 300 (n22).toNat := (by rw [f45] at f54; exact f54 : n23 = hV H1 300 (n22).toNat).trans ((congrFun e7 _))
  have e9 : n26 = hV H1 344 (n0).toNat := (by rw [f57] at f61; exact f61 : n26 = hV H1 344 (n0).toNat)
  have e10 : n27 = hV H0 300 (n26).toNat := (by rw [f55] at f64; exact f64 : n27 = hV H1 300 (n26).toNat).trans ((congrFun e7 _))
  have e11 : hV H1 301 = hV H0 301 := fRow f16.1.2.1 301 (by decide +kernel)
  have e12 : hV H1 302 = hV H0 302 := fRow f16.1.2.1 302 (by decide +kernel)
  have e13 : hV H1 303 = hV H0 303 := fRow f16.1.2.1 303 (by decide +kernel)
  have e14 : hV H1 305 = hV H0 305 := fRow f16.1.2.1 305 (by decide +kernel)
  have e15 : (0 : Int) ≤ hV H1 285 82 ∧ hV H1 285 82 ≤ 40 := f16.1.2.2 285 82 _ _ (by decide +kernel)
  try simp only [XQ] at *
  try simp only [e2, e7, e11, e12, e13, e14] at f16
  try simp only [e2, e7, e11, e12, e13, e14] at e15
  try simp only [e2, e7, e11, e12, e13, e14] at g3
  try simp only [e2, e7, e11, e12, e13, e14] at g4
  try simp only [e2, e7, e11, e12, e13, e14]
  have k0 := g4.1
  have k1 := g4.2.1
  have y0 := g4.2.2.1
  have y1 := g4.2.2.2
  have p0 := g3
  try simp only [e2, e7, e11, e12, e13, e14] at k0
  try simp only [e2, e7, e11, e12, e13, e14] at k1
  try simp only [e2, e7, e11, e12, e13, e14] at y0
  try simp only [e2, e7, e11, e12, e13, e14] at y1
  try simp only [e2, e7, e11, e12, e13, e14] at p0
  clear g3
  clear g4
  clear f19 f22 f24 f27 f30 f34 f36 f39 f42 f46 f48 f51 f54 f56 f58 f61 f64 e2 e7 e11 e12 e13 e14
  subst e0
  subst e1
  subst e3
  subst e4
  subst e5
  subst e6
  subst e8
  subst e9
  subst e10
  unfold w32 at *
  try (have ix0 : n29 = n0 + 1 := (by omega); subst ix0)
  try subst k1
  try subst k0
  omega
theorem c_300_39_16 {q0 : Nat} : vOkm T0 (eP e_300 L_300 A_300 mu_300 (some q0)) 3 ([(10, [33, 8], [], 1), (10, [32, 6], [], -1), (31, [6], [], 0), (41, [7, 7], [], 0), (40, [23, 27], [], 0), (22, [27, 24, 26], [1], 0), (90, [27], [], -1), (91, [27], [], 9999), (22, [26, 25, 8], [1], 0), (90, [26], [], 0), (91, [26], [], 1007), (20, [25, 3], [1], 83), (0, [25], [], 344), (20, [24, 3], [1], 26), (0, [24], [], 300), (22, [23, 20, 22], [1], 0), (90, [23], [], -1), (91, [23], [], 9999), (22, [22, 21, 7], [1], 0), (90, [22], [], 0), (91, [22], [], 1007), (20, [21, 3], [1], 83), (0, [21], [], 344), (20, [20, 3], [1], 26), (0, [20], [], 300), (40, [18, 19], [], 0), (0, [19], [], 1), (22, [18, 15, 17], [1], 0), (90, [18], [], 0), (91, [18], [], 5), (22, [17, 16, 8], [1], 0), (90, [17], [], 0), (91, [17], [], 1007), (20, [16, 3], [1], 83), (0, [16], [], 344), (20, [15, 3], [1], 24), (0, [15], [], 298), (40, [13, 14], [], 0), (0, [14], [], 1), (22, [13, 10, 12], [1], 0), (90, [13], [], 0), (91, [13], [], 5), (22, [12, 11, 7], [1], 0), (90, [12], [], 0), (91, [12], [], 1007), (20, [11, 3], [1], 83), (0, [11], [], 344), (20, [10, 3], [1], 24), (0, [10], [], 298), (42, [8, 9], [], 0), (20, [9, 3], [1], 82), (90, [9], [], 0), (91, [9], [], 40), (5000, [0, 1, 2, 3, 4, 5, 6, 7, 8], [0, 1], 39), (0, [0], [], 285), (90, [1], [], -2147483648), (91, [1], [], 2147483647), (90, [2], [], -2147483648), (91, [2], [], 2147483647), (0, [3], [], 285), (90, [4], [], -2147483648), (91, [4], [], 2147483647), (90, [5], [], -2147483648), (91, [5], [], 2147483647), (90, [6], [], -2147483648), (91, [6], [], 2147483647), (90, [7], [], 0), (91, [7], [], 39), (90, [8], [], 0), (91, [8], [], 40)], (90, [33], [], 0)) := vOk_in fun ρ η h => by
  obtain ⟨f0, f1, f2, f3, f4, f5, f6, f7, f8, f9, f10, f11, f12, f13, f14, f15, f16, f17, f18, f19, f20, f21, f22, f23, f24, f25, f26, f27, f28, f29, f30, f31, f32, f33, f34, f35, f36, f37, f38, f39, f40, f41, f42, f43, f44, f45, f46, f47, f48, f49, f50, f51, f52, f53, f54, f55, f56, f57, f58, f59, f60, f61, f62, f63, f64, f65, f66, f67, f68, f69, _⟩ := h
  exact q_300_24 (q0 := q0) (n0 := ρ 8) (n1 := ρ 7) (n2 := ρ 6) (n3 := ρ 5) (n4 := ρ 4) (n5 := ρ 3) (n6 := ρ 2) (n7 := ρ 1) (n8 := ρ 0) (n9 := ρ 9) (n10 := ρ 10) (n11 := ρ 11) (n12 := ρ 12) (n13 := ρ 13) (n14 := ρ 14) (n15 := ρ 15) (n16 := ρ 16) (n17 := ρ 17) (n18 := ρ 18) (n19 := ρ 19) (n20 := ρ 20) (n21 := ρ 21) (n22 := ρ 22) (n23 := ρ 23) (n24 := ρ 24) (n25 := ρ 25) (n26 := ρ 26) (n27 := ρ 27) (n28 := ρ 32) (n29 := ρ 33) (H0 := η 0) (H1 := η 1) f69 f68 f67 f66 f65 f64 f63 f62 f61 f60 f59 f58 f57 f56 f55 f54 f53 f52 f51 f50 f49 f48 f47 f46 f45 f44 f43 f42 f41 f40 f39 f38 f37 f36 f35 f34 f33 f32 f31 f30 f29 f28 f27 f26 f25 f24 f23 f22 f21 f20 f19 f18 f17 f16 f15 f14 f13 f12 f11 f10 f9 f8 f7 f6 f5 f4 f3 f2 f1 f0
theorem q_300_25 {q0 : Nat} {n0 n1 n2 n3 n4 n5 n6 n7 n8 n9 n10 n11 n12 n13 n14 n15 n16 n17 n18 n19 n20 n21 n22 n23 n24 n25 n26 n27 n28 n29 : Int} {H0 H1 : gH} (f0 : n0 ≤ 40) (f1 : 0 ≤ n0) (f2 : n1 ≤ 39) (f3 : 0 ≤ n1) (f4 : n2 ≤ 2147483647) (f5 : (-2147483648) ≤ n2) (f6 : n3 ≤ 2147483647) (f7 : (-2147483648) ≤ n3) (f8 : n4 ≤ 2147483647) (f9 : (-2147483648) ≤ n4) (f10 : n5 = 285) (f11 : n6 ≤ 2147483647) (f12 : (-2147483648) ≤ n6) (f13 : n7 ≤ 2147483647) (f14 : (-2147483648) ≤ n7) (f15 : n8 = 285) (f16 : (hLe T0 H0 H1 ∧ hFr s_300.2.2.2.2 H0 H1 ∧ hWt T0 H1) ∧ (Ab_300_39 n8 n7 n6 n5 n4 n3 n2 n1 n0 H0 H1 ∧ preb_300 n8 n7 n6 H0) ∧ some q0 = some (mub_300_39 n8 n7 n6 n5 n4 n3 n2 n1 n0 H0 H1)) (f17 : n9 ≤ 40) (f18 : 0 ≤ n9) (f19 : n9 = hV H1 (n5).toNat 82) (f20 : n0 < n9) (f21 : n10 = 298) (f22 : n10 = hV H1 (n5).toNat 24) (f23 : n11 = 344) (f24 : n11 = hV H1 (n5).toNat 83) (f25 : n12 ≤ 1007) (f26 : 0 ≤ n12) (f27 : n12 = hV H1 (n11).toNat (n1).toNat) (f28 : n13 ≤ 5) (f29 : 0 ≤ n13) (f30 : n13 = hV H1 (n10).toNat (n12).toNat) (f31 : n14 = 1) (f32 : n13 = n14) (f33 : n15 = 298) (f34 : n15 = hV H1 (n5).toNat 24) (f35 : n16 = 344) (f36 : n16 = hV H1 (n5).toNat 83) (f37 : n17 ≤ 1007) (f38 : 0 ≤ n17) (f39 : n17 = hV H1 (n16).toNat (n0).toNat) (f40 : n18 ≤ 5) (f41 : 0 ≤ n18) (f42 : n18 = hV H1 (n15).toNat (n17).toNat) (f43 : n19 = 1) (f44 : n18 = n19) (f45 : n20 = 300) (f46 : n20 = hV H1 (n5).toNat 26) (f47 : n21 = 344) (f48 : n21 = hV H1 (n5).toNat 83) (f49 : n22 ≤ 1007) (f50 : 0 ≤ n22) (f51 : n22 = hV H1 (n21).toNat (n1).toNat) (f52 : n23 ≤ 9999) (f53 : (-1) ≤ n23) (f54 : n23 = hV H1 (n20).toNat (n22).toNat) (f55 : n24 = 300) (f56 : n24 = hV H1 (n5).toNat 26) (f57 : n25 = 344) (f58 : n25 = hV H1 (n5).toNat 83) (f59 : n26 ≤ 1007) (f60 : 0 ≤ n26) (f61 : n26 = hV H1 (n25).toNat (n0).toNat) (f62 : n27 ≤ 9999) (f63 : (-1) ≤ n27) (f64 : n27 = hV H1 (n24).toNat (n26).toNat) (f65 : n23 = n27) (f66 : n1 ≠ n1) (f67 : n2 ≠ 0) (f68 : n28 = w32 (n2 + (-1))) (f69 : n29 = w32 (n0 + 1)) : n29 ≤ 40 := by
  have g4 := f16.2.1.1
  unfold Ab_300_39 at g4
  have g3 := f16.2.1.2
  unfold preb_300 at g3
  have e0 : n9 = hV H1 285 82 := (by rw [f10] at f19; exact f19 : n9 = hV H1 285 82)
  have e1 : n12 = hV H1 344 (n1).toNat := (by rw [f23] at f27; exact f27 : n12 = hV H1 344 (n1).toNat)
  have e2 : hV H1 298 = hV H0 298 := fRow f16.1.2.1 298 (by decide +kernel)
  have e3 : n13 = hV H0 298 (n12).toNat := (by rw [f21] at f30; exact f30 : n13 = hV H1 298 (n12).toNat).trans ((congrFun e2 _))
  have e4 : n17 = hV H1 344 (n0).toNat := (by rw [f35] at f39; exact f39 : n17 = hV H1 344 (n0).toNat)
  have e5 : n18 = hV H0 298 (n17).toNat := (by rw [f33] at f42; exact f42 : n18 = hV H1 298 (n17).toNat).trans ((congrFun e2 _))
  have e6 : n22 = hV H1 344 (n1).toNat := (by rw [f47] at f51; exact f51 : n22 = hV H1 344 (n1).toNat)
  have e7 : hV H1 300 = hV H0 300 := fRow f16.1.2.1 300 (by decide +kernel)
  have e8 : n23 = hV H0 300 (n22).toNat := (by rw [f45] at f54; exact f54 : n23 = hV H1 300 (n22).toNat).trans ((congrFun e7 _))
  have e9 : n26 = hV H1 344 (n0).toNat := (by rw [f57] at f61; exact f61 : n26 = hV H1 344 (n0).toNat)
  have e10 : n27 = hV H0 300 (n26).toNat := (by rw [f55] at f64; exact f64 : n27 = hV H1 300 (n26).toNat).trans ((congrFun e7 _))
  have e11 : hV H1 301 = hV H0 301 := fRow f16.1.2.1 301 (by decide +kernel)
  have e12 : hV H1 302 = hV H0 302 := fRow f16.1.2.1 302 (by decide +kernel)
  have e13 : hV H1 303 = hV H0 303 := fRow f16.1.2.1 303 (by decide +kernel)
  have e14 : hV H1 305 = hV H0 305 := fRow f16.1.2.1 305 (by decide +kernel)
  have e15 : (0 : Int) ≤ hV H1 285 82 ∧ hV H1 285 82 ≤ 40 := f16.1.2.2 285 82 _ _ (by decide +kernel)
  try simp only [XQ] at *
  try simp only [e2, e7, e11, e12, e13, e14] at f16
  try simp only [e2, e7, e11, e12, e13, e14] at e15
  try simp only [e2, e7, e11, e12, e13, e14] at g3
  try simp only [e2, e7, e11, e12, e13, e14] at g4
  try simp only [e2, e7, e11, e12, e13, e14]
  have k0 := g4.1
  have k1 := g4.2.1
  have y0 := g4.2.2.1
  have y1 := g4.2.2.2
  have p0 := g3
  try simp only [e2, e7, e11, e12, e13, e14] at k0
  try simp only [e2, e7, e11, e12, e13, e14] at k1
  try simp only [e2, e7, e11, e12, e13, e14] at y0
  try simp only [e2, e7, e11, e12, e13, e14] at y1
  try simp only [e2, e7, e11, e12, e13, e14] at p0
  clear g3
  clear g4
  clear f19 f22 f24 f27 f30 f34 f36 f39 f42 f46 f48 f51 f54 f56 f58 f61 f64 e2 e7 e11 e12 e13 e14
  subst e0
  subst e1
  subst e3
  subst e4
  subst e5
  subst e6
  subst e8
  subst e9
  subst e10
  unfold w32 at *
  try (have ix0 : n29 = n0 + 1 := (by omega); subst ix0)
  try subst k1
  try subst k0
  omega
theorem c_300_39_17 {q0 : Nat} : vOkm T0 (eP e_300 L_300 A_300 mu_300 (some q0)) 3 ([(10, [33, 8], [], 1), (10, [32, 6], [], -1), (31, [6], [], 0), (41, [7, 7], [], 0), (40, [23, 27], [], 0), (22, [27, 24, 26], [1], 0), (90, [27], [], -1), (91, [27], [], 9999), (22, [26, 25, 8], [1], 0), (90, [26], [], 0), (91, [26], [], 1007), (20, [25, 3], [1], 83), (0, [25], [], 344), (20, [24, 3], [1], 26), (0, [24], [], 300), (22, [23, 20, 22], [1], 0), (90, [23], [], -1), (91, [23], [], 9999), (22, [22, 21, 7], [1], 0), (90, [22], [], 0), (91, [22], [], 1007), (20, [21, 3], [1], 83), (0, [21], [], 344), (20, [20, 3], [1], 26), (0, [20], [], 300), (40, [18, 19], [], 0), (0, [19], [], 1), (22, [18, 15, 17], [1], 0), (90, [18], [], 0), (91, [18], [], 5), (22, [17, 16, 8], [1], 0), (90, [17], [], 0), (91, [17], [], 1007), (20, [16, 3], [1], 83), (0, [16], [], 344), (20, [15, 3], [1], 24), (0, [15], [], 298), (40, [13, 14], [], 0), (0, [14], [], 1), (22, [13, 10, 12], [1], 0), (90, [13], [], 0), (91, [13], [], 5), (22, [12, 11, 7], [1], 0), (90, [12], [], 0), (91, [12], [], 1007), (20, [11, 3], [1], 83), (0, [11], [], 344), (20, [10, 3], [1], 24), (0, [10], [], 298), (42, [8, 9], [], 0), (20, [9, 3], [1], 82), (90, [9], [], 0), (91, [9], [], 40), (5000, [0, 1, 2, 3, 4, 5, 6, 7, 8], [0, 1], 39), (0, [0], [], 285), (90, [1], [], -2147483648), (91, [1], [], 2147483647), (90, [2], [], -2147483648), (91, [2], [], 2147483647), (0, [3], [], 285), (90, [4], [], -2147483648), (91, [4], [], 2147483647), (90, [5], [], -2147483648), (91, [5], [], 2147483647), (90, [6], [], -2147483648), (91, [6], [], 2147483647), (90, [7], [], 0), (91, [7], [], 39), (90, [8], [], 0), (91, [8], [], 40)], (91, [33], [], 40)) := vOk_in fun ρ η h => by
  obtain ⟨f0, f1, f2, f3, f4, f5, f6, f7, f8, f9, f10, f11, f12, f13, f14, f15, f16, f17, f18, f19, f20, f21, f22, f23, f24, f25, f26, f27, f28, f29, f30, f31, f32, f33, f34, f35, f36, f37, f38, f39, f40, f41, f42, f43, f44, f45, f46, f47, f48, f49, f50, f51, f52, f53, f54, f55, f56, f57, f58, f59, f60, f61, f62, f63, f64, f65, f66, f67, f68, f69, _⟩ := h
  exact q_300_25 (q0 := q0) (n0 := ρ 8) (n1 := ρ 7) (n2 := ρ 6) (n3 := ρ 5) (n4 := ρ 4) (n5 := ρ 3) (n6 := ρ 2) (n7 := ρ 1) (n8 := ρ 0) (n9 := ρ 9) (n10 := ρ 10) (n11 := ρ 11) (n12 := ρ 12) (n13 := ρ 13) (n14 := ρ 14) (n15 := ρ 15) (n16 := ρ 16) (n17 := ρ 17) (n18 := ρ 18) (n19 := ρ 19) (n20 := ρ 20) (n21 := ρ 21) (n22 := ρ 22) (n23 := ρ 23) (n24 := ρ 24) (n25 := ρ 25) (n26 := ρ 26) (n27 := ρ 27) (n28 := ρ 32) (n29 := ρ 33) (H0 := η 0) (H1 := η 1) f69 f68 f67 f66 f65 f64 f63 f62 f61 f60 f59 f58 f57 f56 f55 f54 f53 f52 f51 f50 f49 f48 f47 f46 f45 f44 f43 f42 f41 f40 f39 f38 f37 f36 f35 f34 f33 f32 f31 f30 f29 f28 f27 f26 f25 f24 f23 f22 f21 f20 f19 f18 f17 f16 f15 f14 f13 f12 f11 f10 f9 f8 f7 f6 f5 f4 f3 f2 f1 f0
theorem q_300_26 {q0 : Nat} {n0 n1 n2 n3 n4 n5 n6 n7 n8 n9 n10 n11 n12 n13 n14 n15 n16 n17 n18 n19 n20 n21 n22 n23 n24 n25 n26 n27 n28 n29 n30 n31 n32 n33 : Int} {H0 H1 H2 H3 H4 H5 : gH} (f0 : n0 ≤ 40) (f1 : 0 ≤ n0) (f2 : n1 ≤ 39) (f3 : 0 ≤ n1) (f4 : n2 ≤ 2147483647) (f5 : (-2147483648) ≤ n2) (f6 : n3 ≤ 2147483647) (f7 : (-2147483648) ≤ n3) (f8 : n4 ≤ 2147483647) (f9 : (-2147483648) ≤ n4) (f10 : n5 = 285) (f11 : n6 ≤ 2147483647) (f12 : (-2147483648) ≤ n6) (f13 : n7 ≤ 2147483647) (f14 : (-2147483648) ≤ n7) (f15 : n8 = 285) (f16 : (hLe T0 H0 H1 ∧ hFr s_300.2.2.2.2 H0 H1 ∧ hWt T0 H1) ∧ (Ab_300_39 n8 n7 n6 n5 n4 n3 n2 n1 n0 H0 H1 ∧ preb_300 n8 n7 n6 H0) ∧ some q0 = some (mub_300_39 n8 n7 n6 n5 n4 n3 n2 n1 n0 H0 H1)) (f17 : n9 ≤ 40) (f18 : 0 ≤ n9) (f19 : n9 = hV H1 (n5).toNat 82) (f20 : n0 < n9) (f21 : n10 = 298) (f22 : n10 = hV H1 (n5).toNat 24) (f23 : n11 = 344) (f24 : n11 = hV H1 (n5).toNat 83) (f25 : n12 ≤ 1007) (f26 : 0 ≤ n12) (f27 : n12 = hV H1 (n11).toNat (n1).toNat) (f28 : n13 ≤ 5) (f29 : 0 ≤ n13) (f30 : n13 = hV H1 (n10).toNat (n12).toNat) (f31 : n14 = 1) (f32 : n13 = n14) (f33 : n15 = 298) (f34 : n15 = hV H1 (n5).toNat 24) (f35 : n16 = 344) (f36 : n16 = hV H1 (n5).toNat 83) (f37 : n17 ≤ 1007) (f38 : 0 ≤ n17) (f39 : n17 = hV H1 (n16).toNat (n0).toNat) (f40 : n18 ≤ 5) (f41 : 0 ≤ n18) (f42 : n18 = hV H1 (n15).toNat (n17).toNat) (f43 : n19 = 1) (f44 : n18 = n19) (f45 : n20 = 300) (f46 : n20 = hV H1 (n5).toNat 26) (f47 : n21 = 344) (f48 : n21 = hV H1 (n5).toNat 83) (f49 : n22 ≤ 1007) (f50 : 0 ≤ n22) (f51 : n22 = hV H1 (n21).toNat (n1).toNat) (f52 : n23 ≤ 9999) (f53 : (-1) ≤ n23) (f54 : n23 = hV H1 (n20).toNat (n22).toNat) (f55 : n24 = 300) (f56 : n24 = hV H1 (n5).toNat 26) (f57 : n25 = 344) (f58 : n25 = hV H1 (n5).toNat 83) (f59 : n26 ≤ 1007) (f60 : 0 ≤ n26) (f61 : n26 = hV H1 (n25).toNat (n0).toNat) (f62 : n27 ≤ 9999) (f63 : (-1) ≤ n27) (f64 : n27 = hV H1 (n24).toNat (n26).toNat) (f65 : n23 = n27) (f66 : n28 ≤ 10999) (f67 : (-10999) ≤ n28) (f68 : (hLe T0 H1 H2 ∧ hFr s_271.2.2.2.2 H1 H2 ∧ ((0 : Int) = 0 → H2.length = H1.length) ∧ hWt T0 H2) ∧ True) (f69 : n29 ≤ 10999) (f70 : (-10999) ≤ n29) (f71 : (hLe T0 H2 H3 ∧ hFr s_271.2.2.2.2 H2 H3 ∧ ((0 : Int) = 0 → H3.length = H2.length) ∧ hWt T0 H3) ∧ True) (f72 : n29 ≤ n28) (f73 : n1 ≠ n1) (f74 : n30 ≤ 10999) (f75 : (-10999) ≤ n30) (f76 : (hLe T0 H3 H4 ∧ hFr s_271.2.2.2.2 H3 H4 ∧ ((0 : Int) = 0 → H4.length = H3.length) ∧ hWt T0 H4) ∧ True) (f77 : n31 ≤ 10999) (f78 : (-10999) ≤ n31) (f79 : (hLe T0 H4 H5 ∧ hFr s_272.2.2.2.2 H4 H5 ∧ ((0 : Int) = 0 → H5.length = H4.length) ∧ hWt T0 H5) ∧ True) (f80 : n30 < n31) (f81 : n2 ≠ 0) (f82 : n32 = w32 (n2 + (-1))) (f83 : n33 = w32 (n0 + 1)) : Ab_300_39 n8 n7 n6 n5 n4 n3 n32 n1 n33 H0 H5 ∧ ∀ q, some q0 = some q → mub_300_39 n8 n7 n6 n5 n4 n3 n32 n1 n33 H0 H5 < q := by
  have g4 := f16.2.1.1
  unfold Ab_300_39 at g4
  have g3 := f16.2.1.2
  unfold preb_300 at g3
  have g5 := Option.some.inj f16.2.2
  unfold mub_300_39 at g5
  unfold Ab_300_39
  unfold mub_300_39
  have e0 : n9 = hV H1 285 82 := (by rw [f10] at f19; exact f19 : n9 = hV H1 285 82)
  have e1 : n12 = hV H1 344 (n1).toNat := (by rw [f23] at f27; exact f27 : n12 = hV H1 344 (n1).toNat)
  have e2 : hV H1 298 = hV H0 298 := fRow f16.1.2.1 298 (by decide +kernel)
  have e3 : n13 = hV H0 298 (n12).toNat := (by rw [f21] at f30; exact f30 : n13 = hV H1 298 (n12).toNat).trans ((congrFun e2 _))
  have e4 : n17 = hV H1 344 (n0).toNat := (by rw [f35] at f39; exact f39 : n17 = hV H1 344 (n0).toNat)
  have e5 : n18 = hV H0 298 (n17).toNat := (by rw [f33] at f42; exact f42 : n18 = hV H1 298 (n17).toNat).trans ((congrFun e2 _))
  have e6 : n22 = hV H1 344 (n1).toNat := (by rw [f47] at f51; exact f51 : n22 = hV H1 344 (n1).toNat)
  have e7 : hV H1 300 = hV H0 300 := fRow f16.1.2.1 300 (by decide +kernel)
  have e8 : n23 = hV H0 300 (n22).toNat := (by rw [f45] at f54; exact f54 : n23 = hV H1 300 (n22).toNat).trans ((congrFun e7 _))
  have e9 : n26 = hV H1 344 (n0).toNat := (by rw [f57] at f61; exact f61 : n26 = hV H1 344 (n0).toNat)
  have e10 : n27 = hV H0 300 (n26).toNat := (by rw [f55] at f64; exact f64 : n27 = hV H1 300 (n26).toNat).trans ((congrFun e7 _))
  have e11 : hV H1 301 = hV H0 301 := fRow f16.1.2.1 301 (by decide +kernel)
  have e12 : hV H1 302 = hV H0 302 := fRow f16.1.2.1 302 (by decide +kernel)
  have e13 : hV H1 303 = hV H0 303 := fRow f16.1.2.1 303 (by decide +kernel)
  have e14 : hV H1 305 = hV H0 305 := fRow f16.1.2.1 305 (by decide +kernel)
  have e15 : hV H5 285 82 = hV H4 285 82 := f79.1.2.1.1 285 82 (by decide +kernel)
  have e16 : hV H4 285 82 = hV H3 285 82 := f76.1.2.1.1 285 82 (by decide +kernel)
  have e17 : hV H3 285 82 = hV H2 285 82 := f71.1.2.1.1 285 82 (by decide +kernel)
  have e18 : hV H2 285 82 = hV H1 285 82 := f68.1.2.1.1 285 82 (by decide +kernel)
  have e19 : hV H5 285 82 = hV H1 285 82 := (e15).trans ((e16).trans ((e17).trans e18))
  have e20 : hV H5 298 = hV H4 298 := fRow f79.1.2.1 298 (by decide +kernel)
  have e21 : hV H4 298 = hV H3 298 := fRow f76.1.2.1 298 (by decide +kernel)
  have e22 : hV H3 298 = hV H2 298 := fRow f71.1.2.1 298 (by decide +kernel)
  have e23 : hV H2 298 = hV H1 298 := fRow f68.1.2.1 298 (by decide +kernel)
  have e24 : hV H2 298 = hV H0 298 := e23.trans e2
  have e25 : hV H3 298 = hV H0 298 := e22.trans e24
  have e26 : hV H4 298 = hV H0 298 := e21.trans e25
  have e27 : hV H5 298 = hV H0 298 := e20.trans e26
  have e28 : hV H5 300 = hV H4 300 := fRow f79.1.2.1 300 (by decide +kernel)
  have e29 : hV H4 300 = hV H3 300 := fRow f76.1.2.1 300 (by decide +kernel)
  have e30 : hV H3 300 = hV H2 300 := fRow f71.1.2.1 300 (by decide +kernel)
  have e31 : hV H2 300 = hV H1 300 := fRow f68.1.2.1 300 (by decide +kernel)
  have e32 : hV H2 300 = hV H0 300 := e31.trans e7
  have e33 : hV H3 300 = hV H0 300 := e30.trans e32
  have e34 : hV H4 300 = hV H0 300 := e29.trans e33
  have e35 : hV H5 300 = hV H0 300 := e28.trans e34
  have e36 : hV H5 301 = hV H4 301 := fRow f79.1.2.1 301 (by decide +kernel)
  have e37 : hV H4 301 = hV H3 301 := fRow f76.1.2.1 301 (by decide +kernel)
  have e38 : hV H3 301 = hV H2 301 := fRow f71.1.2.1 301 (by decide +kernel)
  have e39 : hV H2 301 = hV H1 301 := fRow f68.1.2.1 301 (by decide +kernel)
  have e40 : hV H2 301 = hV H0 301 := e39.trans e11
  have e41 : hV H3 301 = hV H0 301 := e38.trans e40
  have e42 : hV H4 301 = hV H0 301 := e37.trans e41
  have e43 : hV H5 301 = hV H0 301 := e36.trans e42
  have e44 : hV H5 302 = hV H4 302 := fRow f79.1.2.1 302 (by decide +kernel)
  have e45 : hV H4 302 = hV H3 302 := fRow f76.1.2.1 302 (by decide +kernel)
  have e46 : hV H3 302 = hV H2 302 := fRow f71.1.2.1 302 (by decide +kernel)
  have e47 : hV H2 302 = hV H1 302 := fRow f68.1.2.1 302 (by decide +kernel)
  have e48 : hV H2 302 = hV H0 302 := e47.trans e12
  have e49 : hV H3 302 = hV H0 302 := e46.trans e48
  have e50 : hV H4 302 = hV H0 302 := e45.trans e49
  have e51 : hV H5 302 = hV H0 302 := e44.trans e50
  have e52 : hV H5 303 = hV H4 303 := fRow f79.1.2.1 303 (by decide +kernel)
  have e53 : hV H4 303 = hV H3 303 := fRow f76.1.2.1 303 (by decide +kernel)
  have e54 : hV H3 303 = hV H2 303 := fRow f71.1.2.1 303 (by decide +kernel)
  have e55 : hV H2 303 = hV H1 303 := fRow f68.1.2.1 303 (by decide +kernel)
  have e56 : hV H2 303 = hV H0 303 := e55.trans e13
  have e57 : hV H3 303 = hV H0 303 := e54.trans e56
  have e58 : hV H4 303 = hV H0 303 := e53.trans e57
  have e59 : hV H5 303 = hV H0 303 := e52.trans e58
  have e60 : hV H5 305 = hV H4 305 := fRow f79.1.2.1 305 (by decide +kernel)
  have e61 : hV H4 305 = hV H3 305 := fRow f76.1.2.1 305 (by decide +kernel)
  have e62 : hV H3 305 = hV H2 305 := fRow f71.1.2.1 305 (by decide +kernel)
  have e63 : hV H2 305 = hV H1 305 := fRow f68.1.2.1 305 (by decide +kernel)
  have e64 : hV H2 305 = hV H0 305 := e63.trans e14
  have e65 : hV H3 305 = hV H0 305 := e62.trans e64
  have e66 : hV H4 305 = hV H0 305 := e61.trans e65
  have e67 : hV H5 305 = hV H0 305 := e60.trans e66
  have e68 : hV H5 344 = hV H4 344 := fRow f79.1.2.1 344 (by decide +kernel)
  have e69 : hV H4 344 = hV H3 344 := fRow f76.1.2.1 344 (by decide +kernel)
  have e70 : hV H3 344 = hV H2 344 := fRow f71.1.2.1 344 (by decide +kernel)
  have e71 : hV H2 344 = hV H1 344 := fRow f68.1.2.1 344 (by decide +kernel)
  have e72 : hV H3 344 = hV H1 344 := e70.trans e71
  have e73 : hV H4 344 = hV H1 344 := e69.trans e72
  have e74 : hV H5 344 = hV H1 344 := e68.trans e73
  have e75 : (0 : Int) ≤ hV H1 285 82 ∧ hV H1 285 82 ≤ 40 := f16.1.2.2 285 82 _ _ (by decide +kernel)
  have e76 : (0 : Int) ≤ hV H5 285 82 ∧ hV H5 285 82 ≤ 40 := f79.1.2.2.2 285 82 _ _ (by decide +kernel)
  try simp only [XQ] at *
  try simp only [e2, e7, e11, e12, e13, e14, e19, e27, e35, e43, e51, e59, e67, e74] at f16
  try simp only [e2, e7, e11, e12, e13, e14, e19, e27, e35, e43, e51, e59, e67, e74] at e75
  try simp only [e2, e7, e11, e12, e13, e14, e19, e27, e35, e43, e51, e59, e67, e74] at e76
  try simp only [e2, e7, e11, e12, e13, e14, e19, e27, e35, e43, e51, e59, e67, e74] at g3
  try simp only [e2, e7, e11, e12, e13, e14, e19, e27, e35, e43, e51, e59, e67, e74] at g4
  try simp only [e2, e7, e11, e12, e13, e14, e19, e27, e35, e43, e51, e59, e67, e74] at g5
  try simp only [e2, e7, e11, e12, e13, e14, e19, e27, e35, e43, e51, e59, e67, e74]
  have k0 := g4.1
  have k1 := g4.2.1
  have y0 := g4.2.2.1
  have y1 := g4.2.2.2
  have p0 := g3
  try simp only [e2, e7, e11, e12, e13, e14, e19, e27, e35, e43, e51, e59, e67, e74] at k0
  try simp only [e2, e7, e11, e12, e13, e14, e19, e27, e35, e43, e51, e59, e67, e74] at k1
  try simp only [e2, e7, e11, e12, e13, e14, e19, e27, e35, e43, e51, e59, e67, e74] at y0
  try simp only [e2, e7, e11, e12, e13, e14, e19, e27, e35, e43, e51, e59, e67, e74] at y1
  try simp only [e2, e7, e11, e12, e13, e14, e19, e27, e35, e43, e51, e59, e67, e74] at p0
  clear g3
  clear g4
  clear f19 f22 f24 f27 f30 f34 f36 f39 f42 f46 f48 f51 f54 f56 f58 f61 f64 e2 e7 e11 e12 e13 e14 e15 e16 e17 e18 e19 e20 e21 e22 e23 e24 e25 e26 e27 e28 e29 e30 e31 e32 e33 e34 e35 e36 e37 e38 e39 e40 e41 e42 e43 e44 e45 e46 e47 e48 e49 e50 e51 e52 e53 e54 e55 e56 e57 e58 e59 e60 e61 e62 e63 e64 e65 e66 e67 e68 e69 e70 e71 e72 e73 e74
  subst e0
  subst e1
  subst e3
  subst e4
  subst e5
  subst e6
  subst e8
  subst e9
  subst e10
  unfold w32 at *
  try (have ix0 : n32 = n2 + -1 := (by omega); subst ix0)
  try (have ix1 : n33 = n0 + 1 := (by omega); subst ix1)
  try subst k1
  try subst k0
  refine ⟨?_, fun q hq => ?_⟩
  · refine ⟨?_, ?_, ?_, ?_⟩ <;> first | assumption | omega | trivial
  · have g6 := Option.some.inj hq
    subst g6
    omega
theorem c_300_39_18 {q0 : Nat} : vOkm T0 (eP e_300 L_300 A_300 mu_300 (some q0)) 3 ([(10, [33, 8], [], 1), (10, [32, 6], [], -1), (31, [6], [], 0), (42, [30, 31], [], 0), (1272, [31, 3, 7], [4, 5], 0), (90, [31], [], -10999), (91, [31], [], 10999), (1271, [30, 3, 7], [3, 4], 0), (90, [30], [], -10999), (91, [30], [], 10999), (41, [7, 7], [], 0), (43, [28, 29], [], 0), (1271, [29, 3, 7], [2, 3], 0), (90, [29], [], -10999), (91, [29], [], 10999), (1271, [28, 3, 8], [1, 2], 0), (90, [28], [], -10999), (91, [28], [], 10999), (40, [23, 27], [], 0), (22, [27, 24, 26], [1], 0), (90, [27], [], -1), (91, [27], [], 9999), (22, [26, 25, 8], [1], 0), (90, [26], [], 0), (91, [26], [], 1007), (20, [25, 3], [1], 83), (0, [25], [], 344), (20, [24, 3], [1], 26), (0, [24], [], 300), (22, [23, 20, 22], [1], 0), (90, [23], [], -1), (91, [23], [], 9999), (22, [22, 21, 7], [1], 0), (90, [22], [], 0), (91, [22], [], 1007), (20, [21, 3], [1], 83), (0, [21], [], 344), (20, [20, 3], [1], 26), (0, [20], [], 300), (40, [18, 19], [], 0), (0, [19], [], 1), (22, [18, 15, 17], [1], 0), (90, [18], [], 0), (91, [18], [], 5), (22, [17, 16, 8], [1], 0), (90, [17], [], 0), (91, [17], [], 1007), (20, [16, 3], [1], 83), (0, [16], [], 344), (20, [15, 3], [1], 24), (0, [15], [], 298), (40, [13, 14], [], 0), (0, [14], [], 1), (22, [13, 10, 12], [1], 0), (90, [13], [], 0), (91, [13], [], 5), (22, [12, 11, 7], [1], 0), (90, [12], [], 0), (91, [12], [], 1007), (20, [11, 3], [1], 83), (0, [11], [], 344), (20, [10, 3], [1], 24), (0, [10], [], 298), (42, [8, 9], [], 0), (20, [9, 3], [1], 82), (90, [9], [], 0), (91, [9], [], 40), (5000, [0, 1, 2, 3, 4, 5, 6, 7, 8], [0, 1], 39), (0, [0], [], 285), (90, [1], [], -2147483648), (91, [1], [], 2147483647), (90, [2], [], -2147483648), (91, [2], [], 2147483647), (0, [3], [], 285), (90, [4], [], -2147483648), (91, [4], [], 2147483647), (90, [5], [], -2147483648), (91, [5], [], 2147483647), (90, [6], [], -2147483648), (91, [6], [], 2147483647), (90, [7], [], 0), (91, [7], [], 39), (90, [8], [], 0), (91, [8], [], 40)], (4000, [3, 4, 5, 32, 7, 33], [5], 39)) := vOk_in fun ρ η h => by
  obtain ⟨f0, f1, f2, f3, f4, f5, f6, f7, f8, f9, f10, f11, f12, f13, f14, f15, f16, f17, f18, f19, f20, f21, f22, f23, f24, f25, f26, f27, f28, f29, f30, f31, f32, f33, f34, f35, f36, f37, f38, f39, f40, f41, f42, f43, f44, f45, f46, f47, f48, f49, f50, f51, f52, f53, f54, f55, f56, f57, f58, f59, f60, f61, f62, f63, f64, f65, f66, f67, f68, f69, f70, f71, f72, f73, f74, f75, f76, f77, f78, f79, f80, f81, f82, f83, _⟩ := h
  exact q_300_26 (q0 := q0) (n0 := ρ 8) (n1 := ρ 7) (n2 := ρ 6) (n3 := ρ 5) (n4 := ρ 4) (n5 := ρ 3) (n6 := ρ 2) (n7 := ρ 1) (n8 := ρ 0) (n9 := ρ 9) (n10 := ρ 10) (n11 := ρ 11) (n12 := ρ 12) (n13 := ρ 13) (n14 := ρ 14) (n15 := ρ 15) (n16 := ρ 16) (n17 := ρ 17) (n18 := ρ 18) (n19 := ρ 19) (n20 := ρ 20) (n21 := ρ 21) (n22 := ρ 22) (n23 := ρ 23) (n24 := ρ 24) (n25 := ρ 25) (n26 := ρ 26) (n27 := ρ 27) (n28 := ρ 28) (n29 := ρ 29) (n30 := ρ 30) (n31 := ρ 31) (n32 := ρ 32) (n33 := ρ 33) (H0 := η 0) (H1 := η 1) (H2 := η 2) (H3 := η 3) (H4 := η 4) (H5 := η 5) f83 f82 f81 f80 f79 f78 f77 f76 f75 f74 f73 f72 f71 f70 f69 f68 f67 f66 f65 f64 f63 f62 f61 f60 f59 f58 f57 f56 f55 f54 f53 f52 f51 f50 f49 f48 f47 f46 f45 f44 f43 f42 f41 f40 f39 f38 f37 f36 f35 f34 f33 f32 f31 f30 f29 f28 f27 f26 f25 f24 f23 f22 f21 f20 f19 f18 f17 f16 f15 f14 f13 f12 f11 f10 f9 f8 f7 f6 f5 f4 f3 f2 f1 f0
theorem q_300_27 {q0 : Nat} {n0 n1 n2 n3 n4 n5 n6 n7 n8 n9 n10 n11 n12 n13 n14 n15 n16 n17 n18 n19 n20 n21 n22 n23 n24 n25 n26 n27 n28 : Int} {H0 H1 : gH} (f0 : n0 ≤ 40) (f1 : 0 ≤ n0) (f2 : n1 ≤ 39) (f3 : 0 ≤ n1) (f4 : n2 ≤ 2147483647) (f5 : (-2147483648) ≤ n2) (f6 : n3 ≤ 2147483647) (f7 : (-2147483648) ≤ n3) (f8 : n4 ≤ 2147483647) (f9 : (-2147483648) ≤ n4) (f10 : n5 = 285) (f11 : n6 ≤ 2147483647) (f12 : (-2147483648) ≤ n6) (f13 : n7 ≤ 2147483647) (f14 : (-2147483648) ≤ n7) (f15 : n8 = 285) (f16 : (hLe T0 H0 H1 ∧ hFr s_300.2.2.2.2 H0 H1 ∧ hWt T0 H1) ∧ (Ab_300_39 n8 n7 n6 n5 n4 n3 n2 n1 n0 H0 H1 ∧ preb_300 n8 n7 n6 H0) ∧ some q0 = some (mub_300_39 n8 n7 n6 n5 n4 n3 n2 n1 n0 H0 H1)) (f17 : n9 ≤ 40) (f18 : 0 ≤ n9) (f19 : n9 = hV H1 (n5).toNat 82) (f20 : n0 < n9) (f21 : n10 = 298) (f22 : n10 = hV H1 (n5).toNat 24) (f23 : n11 = 344) (f24 : n11 = hV H1 (n5).toNat 83) (f25 : n12 ≤ 1007) (f26 : 0 ≤ n12) (f27 : n12 = hV H1 (n11).toNat (n1).toNat) (f28 : n13 ≤ 5) (f29 : 0 ≤ n13) (f30 : n13 = hV H1 (n10).toNat (n12).toNat) (f31 : n14 = 1) (f32 : n13 = n14) (f33 : n15 = 298) (f34 : n15 = hV H1 (n5).toNat 24) (f35 : n16 = 344) (f36 : n16 = hV H1 (n5).toNat 83) (f37 : n17 ≤ 1007) (f38 : 0 ≤ n17) (f39 : n17 = hV H1 (n16).toNat (n0).toNat) (f40 : n18 ≤ 5) (f41 : 0 ≤ n18) (f42 : n18 = hV H1 (n15).toNat (n17).toNat) (f43 : n19 = 1) (f44 : n18 = n19) (f45 : n20 = 300) (f46 : n20 = hV H1 (n5).toNat 26) (f47 : n21 = 344) (f48 : n21 = hV H1 (n5).toNat 83) (f49 : n22 ≤ 1007) (f50 : 0 ≤ n22) (f51 : n22 = hV H1 (n21).toNat (n1).toNat) (f52 : n23 ≤ 9999) (f53 : (-1) ≤ n23) (f54 : n23 = hV H1 (n20).toNat (n22).toNat) (f55 : n24 = 300) (f56 : n24 = hV H1 (n5).toNat 26) (f57 : n25 = 344) (f58 : n25 = hV H1 (n5).toNat 83) (f59 : n26 ≤ 1007) (f60 : 0 ≤ n26) (f61 : n26 = hV H1 (n25).toNat (n0).toNat) (f62 : n27 ≤ 9999) (f63 : (-1) ≤ n27) (f64 : n27 = hV H1 (n24).toNat (n26).toNat) (f65 : n23 = n27) (f66 : n1 ≠ n1) (f67 : n28 = w32 (n0 + 1)) : 0 ≤ n28 := by
  have g4 := f16.2.1.1
  unfold Ab_300_39 at g4
  have g3 := f16.2.1.2
  unfold preb_300 at g3
  have e0 : n9 = hV H1 285 82 := (by rw [f10] at f19; exact f19 : n9 = hV H1 285 82)
  have e1 : n12 = hV H1 344 (n1).toNat := (by rw [f23] at f27; exact f27 : n12 = hV H1 344 (n1).toNat)
  have e2 : hV H1 298 = hV H0 298 := fRow f16.1.2.1 298 (by decide +kernel)
  have e3 : n13 = hV H0 298 (n12).toNat := (by rw [f21] at f30; exact f30 : n13 = hV H1 298 (n12).toNat).trans ((congrFun e2 _))
  have e4 : n17 = hV H1 344 (n0).toNat := (by rw [f35] at f39; exact f39 : n17 = hV H1 344 (n0).toNat)
  have e5 : n18 = hV H0 298 (n17).toNat := (by rw [f33] at f42; exact f42 : n18 = hV H1 298 (n17).toNat).trans ((congrFun e2 _))
  have e6 : n22 = hV H1 344 (n1).toNat := (by rw [f47] at f51; exact f51 : n22 = hV H1 344 (n1).toNat)
  have e7 : hV H1 300 = hV H0 300 := fRow f16.1.2.1 300 (by decide +kernel)
  have e8 : n23 = hV H0 300 (n22).toNat := (by rw [f45] at f54; exact f54 : n23 = hV H1 300 (n22).toNat).trans ((congrFun e7 _))
  have e9 : n26 = hV H1 344 (n0).toNat := (by rw [f57] at f61; exact f61 : n26 = hV H1 344 (n0).toNat)
  have e10 : n27 = hV H0 300 (n26).toNat := (by rw [f55] at f64; exact f64 : n27 = hV H1 300 (n26).toNat).trans ((congrFun e7 _))
  have e11 : hV H1 301 = hV H0 301 := fRow f16.1.2.1 301 (by decide +kernel)
  have e12 : hV H1 302 = hV H0 302 := fRow f16.1.2.1 302 (by decide +kernel)
  have e13 : hV H1 303 = hV H0 303 := fRow f16.1.2.1 303 (by decide +kernel)
  have e14 : hV H1 305 = hV H0 305 := fRow f16.1.2.1 305 (by decide +kernel)
  have e15 : (0 : Int) ≤ hV H1 285 82 ∧ hV H1 285 82 ≤ 40 := f16.1.2.2 285 82 _ _ (by decide +kernel)
  try simp only [XQ] at *
  try simp only [e2, e7, e11, e12, e13, e14] at f16
  try simp only [e2, e7, e11, e12, e13, e14] at e15
  try simp only [e2, e7, e11, e12, e13, e14] at g3
  try simp only [e2, e7, e11, e12, e13, e14] at g4
  try simp only [e2, e7, e11, e12, e13, e14]
  have k0 := g4.1
  have k1 := g4.2.1
  have y0 := g4.2.2.1
  have y1 := g4.2.2.2
  have p0 := g3
  try simp only [e2, e7, e11, e12, e13, e14] at k0
  try simp only [e2, e7, e11, e12, e13, e14] at k1
  try simp only [e2, e7, e11, e12, e13, e14] at y0
  try simp only [e2, e7, e11, e12, e13, e14] at y1
  try simp only [e2, e7, e11, e12, e13, e14] at p0
  clear g3
  clear g4
  clear f19 f22 f24 f27 f30 f34 f36 f39 f42 f46 f48 f51 f54 f56 f58 f61 f64 e2 e7 e11 e12 e13 e14
  subst e0
  subst e1
  subst e3
  subst e4
  subst e5
  subst e6
  subst e8
  subst e9
  subst e10
  unfold w32 at *
  try (have ix0 : n28 = n0 + 1 := (by omega); subst ix0)
  try subst k1
  try subst k0
  omega
theorem c_300_39_19 {q0 : Nat} : vOkm T0 (eP e_300 L_300 A_300 mu_300 (some q0)) 3 ([(10, [32, 8], [], 1), (41, [7, 7], [], 0), (40, [23, 27], [], 0), (22, [27, 24, 26], [1], 0), (90, [27], [], -1), (91, [27], [], 9999), (22, [26, 25, 8], [1], 0), (90, [26], [], 0), (91, [26], [], 1007), (20, [25, 3], [1], 83), (0, [25], [], 344), (20, [24, 3], [1], 26), (0, [24], [], 300), (22, [23, 20, 22], [1], 0), (90, [23], [], -1), (91, [23], [], 9999), (22, [22, 21, 7], [1], 0), (90, [22], [], 0), (91, [22], [], 1007), (20, [21, 3], [1], 83), (0, [21], [], 344), (20, [20, 3], [1], 26), (0, [20], [], 300), (40, [18, 19], [], 0), (0, [19], [], 1), (22, [18, 15, 17], [1], 0), (90, [18], [], 0), (91, [18], [], 5), (22, [17, 16, 8], [1], 0), (90, [17], [], 0), (91, [17], [], 1007), (20, [16, 3], [1], 83), (0, [16], [], 344), (20, [15, 3], [1], 24), (0, [15], [], 298), (40, [13, 14], [], 0), (0, [14], [], 1), (22, [13, 10, 12], [1], 0), (90, [13], [], 0), (91, [13], [], 5), (22, [12, 11, 7], [1], 0), (90, [12], [], 0), (91, [12], [], 1007), (20, [11, 3], [1], 83), (0, [11], [], 344), (20, [10, 3], [1], 24), (0, [10], [], 298), (42, [8, 9], [], 0), (20, [9, 3], [1], 82), (90, [9], [], 0), (91, [9], [], 40), (5000, [0, 1, 2, 3, 4, 5, 6, 7, 8], [0, 1], 39), (0, [0], [], 285), (90, [1], [], -2147483648), (91, [1], [], 2147483647), (90, [2], [], -2147483648), (91, [2], [], 2147483647), (0, [3], [], 285), (90, [4], [], -2147483648), (91, [4], [], 2147483647), (90, [5], [], -2147483648), (91, [5], [], 2147483647), (90, [6], [], -2147483648), (91, [6], [], 2147483647), (90, [7], [], 0), (91, [7], [], 39), (90, [8], [], 0), (91, [8], [], 40)], (90, [32], [], 0)) := vOk_in fun ρ η h => by
  obtain ⟨f0, f1, f2, f3, f4, f5, f6, f7, f8, f9, f10, f11, f12, f13, f14, f15, f16, f17, f18, f19, f20, f21, f22, f23, f24, f25, f26, f27, f28, f29, f30, f31, f32, f33, f34, f35, f36, f37, f38, f39, f40, f41, f42, f43, f44, f45, f46, f47, f48, f49, f50, f51, f52, f53, f54, f55, f56, f57, f58, f59, f60, f61, f62, f63, f64, f65, f66, f67, _⟩ := h
  exact q_300_27 (q0 := q0) (n0 := ρ 8) (n1 := ρ 7) (n2 := ρ 6) (n3 := ρ 5) (n4 := ρ 4) (n5 := ρ 3) (n6 := ρ 2) (n7 := ρ 1) (n8 := ρ 0) (n9 := ρ 9) (n10 := ρ 10) (n11 := ρ 11) (n12 := ρ 12) (n13 := ρ 13) (n14 := ρ 14) (n15 := ρ 15) (n16 := ρ 16) (n17 := ρ 17) (n18 := ρ 18) (n19 := ρ 19) (n20 := ρ 20) (n21 := ρ 21) (n22 := ρ 22) (n23 := ρ 23) (n24 := ρ 24) (n25 := ρ 25) (n26 := ρ 26) (n27 := ρ 27) (n28 := ρ 32) (H0 := η 0) (H1 := η 1) f67 f66 f65 f64 f63 f62 f61 f60 f59 f58 f57 f56 f55 f54 f53 f52 f51 f50 f49 f48 f47 f46 f45 f44 f43 f42 f41 f40 f39 f38 f37 f36 f35 f34 f33 f32 f31 f30 f29 f28 f27 f26 f25 f24 f23 f22 f21 f20 f19 f18 f17 f16 f15 f14 f13 f12 f11 f10 f9 f8 f7 f6 f5 f4 f3 f2 f1 f0
theorem q_300_28 {q0 : Nat} {n0 n1 n2 n3 n4 n5 n6 n7 n8 n9 n10 n11 n12 n13 n14 n15 n16 n17 n18 n19 n20 n21 n22 n23 n24 n25 n26 n27 n28 : Int} {H0 H1 : gH} (f0 : n0 ≤ 40) (f1 : 0 ≤ n0) (f2 : n1 ≤ 39) (f3 : 0 ≤ n1) (f4 : n2 ≤ 2147483647) (f5 : (-2147483648) ≤ n2) (f6 : n3 ≤ 2147483647) (f7 : (-2147483648) ≤ n3) (f8 : n4 ≤ 2147483647) (f9 : (-2147483648) ≤ n4) (f10 : n5 = 285) (f11 : n6 ≤ 2147483647) (f12 : (-2147483648) ≤ n6) (f13 : n7 ≤ 2147483647) (f14 : (-2147483648) ≤ n7) (f15 : n8 = 285) (f16 : (hLe T0 H0 H1 ∧ hFr s_300.2.2.2.2 H0 H1 ∧ hWt T0 H1) ∧ (Ab_300_39 n8 n7 n6 n5 n4 n3 n2 n1 n0 H0 H1 ∧ preb_300 n8 n7 n6 H0) ∧ some q0 = some (mub_300_39 n8 n7 n6 n5 n4 n3 n2 n1 n0 H0 H1)) (f17 : n9 ≤ 40) (f18 : 0 ≤ n9) (f19 : n9 = hV H1 (n5).toNat 82) (f20 : n0 < n9) (f21 : n10 = 298) (f22 : n10 = hV H1 (n5).toNat 24) (f23 : n11 = 344) (f24 : n11 = hV H1 (n5).toNat 83) (f25 : n12 ≤ 1007) (f26 : 0 ≤ n12) (f27 : n12 = hV H1 (n11).toNat (n1).toNat) (f28 : n13 ≤ 5) (f29 : 0 ≤ n13) (f30 : n13 = hV H1 (n10).toNat (n12).toNat) (f31 : n14 = 1) (f32 : n13 = n14) (f33 : n15 = 298) (f34 : n15 = hV H1 (n5).toNat 24) (f35 : n16 = 344) (f36 : n16 = hV H1 (n5).toNat 83) (f37 : n17 ≤ 1007) (f38 : 0 ≤ n17) (f39 : n17 = hV H1 (n16).toNat (n0).toNat) (f40 : n18 ≤ 5) (f41 : 0 ≤ n18) (f42 : n18 = hV H1 (n15).toNat (n17).toNat) (f43 : n19 = 1) (f44 : n18 = n19) (f45 : n20 = 300) (f46 : n20 = hV H1 (n5).toNat 26) (f47 : n21 = 344) (f48 : n21 = hV H1 (n5).toNat 83) (f49 : n22 ≤ 1007) (f50 : 0 ≤ n22) (f51 : n22 = hV H1 (n21).toNat (n1).toNat) (f52 : n23 ≤ 9999) (f53 : (-1) ≤ n23) (f54 : n23 = hV H1 (n20).toNat (n22).toNat) (f55 : n24 = 300) (f56 : n24 = hV H1 (n5).toNat 26) (f57 : n25 = 344) (f58 : n25 = hV H1 (n5).toNat 83) (f59 : n26 ≤ 1007) (f60 : 0 ≤ n26) (f61 : n26 = hV H1 (n25).toNat (n0).toNat) (f62 : n27 ≤ 9999) (f63 : (-1) ≤ n27) (f64 : n27 = hV H1 (n24).toNat (n26).toNat) (f65 : n23 = n27) (f66 : n1 ≠ n1) (f67 : n28 = w32 (n0 + 1)) : n28 ≤ 40 := by
  have g4 := f16.2.1.1
  unfold Ab_300_39 at g4
  have g3 := f16.2.1.2
  unfold preb_300 at g3
  have e0 : n9 = hV H1 285 82 := (by rw [f10] at f19; exact f19 : n9 = hV H1 285 82)
  have e1 : n12 = hV H1 344 (n1).toNat := (by rw [f23] at f27; exact f27 : n12 = hV H1 344 (n1).toNat)
  have e2 : hV H1 298 = hV H0 298 := fRow f16.1.2.1 298 (by decide +kernel)
  have e3 : n13 = hV H0 298 (n12).toNat := (by rw [f21] at f30; exact f30 : n13 = hV H1 298 (n12).toNat).trans ((congrFun e2 _))
  have e4 : n17 = hV H1 344 (n0).toNat := (by rw [f35] at f39; exact f39 : n17 = hV H1 344 (n0).toNat)
  have e5 : n18 = hV H0 298 (n17).toNat := (by rw [f33] at f42; exact f42 : n18 = hV H1 298 (n17).toNat).trans ((congrFun e2 _))
  have e6 : n22 = hV H1 344 (n1).toNat := (by rw [f47] at f51; exact f51 : n22 = hV H1 344 (n1).toNat)
  have e7 : hV H1 300 = hV H0 300 := fRow f16.1.2.1 300 (by decide +kernel)
  have e8 : n23 = hV H0 300 (n22).toNat := (by rw [f45] at f54; exact f54 : n23 = hV H1 300 (n22).toNat).trans ((congrFun e7 _))
  have e9 : n26 = hV H1 344 (n0).toNat := (by rw [f57] at f61; exact f61 : n26 = hV H1 344 (n0).toNat)
  have e10 : n27 = hV H0 300 (n26).toNat := (by rw [f55] at f64; exact f64 : n27 = hV H1 300 (n26).toNat).trans ((congrFun e7 _))
  have e11 : hV H1 301 = hV H0 301 := fRow f16.1.2.1 301 (by decide +kernel)
  have e12 : hV H1 302 = hV H0 302 := fRow f16.1.2.1 302 (by decide +kernel)
  have e13 : hV H1 303 = hV H0 303 := fRow f16.1.2.1 303 (by decide +kernel)
  have e14 : hV H1 305 = hV H0 305 := fRow f16.1.2.1 305 (by decide +kernel)
  have e15 : (0 : Int) ≤ hV H1 285 82 ∧ hV H1 285 82 ≤ 40 := f16.1.2.2 285 82 _ _ (by decide +kernel)
  try simp only [XQ] at *
  try simp only [e2, e7, e11, e12, e13, e14] at f16
  try simp only [e2, e7, e11, e12, e13, e14] at e15
  try simp only [e2, e7, e11, e12, e13, e14] at g3
  try simp only [e2, e7, e11, e12, e13, e14] at g4
  try simp only [e2, e7, e11, e12, e13, e14]
  have k0 := g4.1
  have k1 := g4.2.1
  have y0 := g4.2.2.1
  have y1 := g4.2.2.2
  have p0 := g3
  try simp only [e2, e7, e11, e12, e13, e14] at k0
  try simp only [e2, e7, e11, e12, e13, e14] at k1
  try simp only [e2, e7, e11, e12, e13, e14] at y0
  try simp only [e2, e7, e11, e12, e13, e14] at y1
  try simp only [e2, e7, e11, e12, e13, e14] at p0
  clear g3
  clear g4
  clear f19 f22 f24 f27 f30 f34 f36 f39 f42 f46 f48 f51 f54 f56 f58 f61 f64 e2 e7 e11 e12 e13 e14
  subst e0
  subst e1
  subst e3
  subst e4
  subst e5
  subst e6
  subst e8
  subst e9
  subst e10
  unfold w32 at *
  try (have ix0 : n28 = n0 + 1 := (by omega); subst ix0)
  try subst k1
  try subst k0
  omega
theorem c_300_39_20 {q0 : Nat} : vOkm T0 (eP e_300 L_300 A_300 mu_300 (some q0)) 3 ([(10, [32, 8], [], 1), (41, [7, 7], [], 0), (40, [23, 27], [], 0), (22, [27, 24, 26], [1], 0), (90, [27], [], -1), (91, [27], [], 9999), (22, [26, 25, 8], [1], 0), (90, [26], [], 0), (91, [26], [], 1007), (20, [25, 3], [1], 83), (0, [25], [], 344), (20, [24, 3], [1], 26), (0, [24], [], 300), (22, [23, 20, 22], [1], 0), (90, [23], [], -1), (91, [23], [], 9999), (22, [22, 21, 7], [1], 0), (90, [22], [], 0), (91, [22], [], 1007), (20, [21, 3], [1], 83), (0, [21], [], 344), (20, [20, 3], [1], 26), (0, [20], [], 300), (40, [18, 19], [], 0), (0, [19], [], 1), (22, [18, 15, 17], [1], 0), (90, [18], [], 0), (91, [18], [], 5), (22, [17, 16, 8], [1], 0), (90, [17], [], 0), (91, [17], [], 1007), (20, [16, 3], [1], 83), (0, [16], [], 344), (20, [15, 3], [1], 24), (0, [15], [], 298), (40, [13, 14], [], 0), (0, [14], [], 1), (22, [13, 10, 12], [1], 0), (90, [13], [], 0), (91, [13], [], 5), (22, [12, 11, 7], [1], 0), (90, [12], [], 0), (91, [12], [], 1007), (20, [11, 3], [1], 83), (0, [11], [], 344), (20, [10, 3], [1], 24), (0, [10], [], 298), (42, [8, 9], [], 0), (20, [9, 3], [1], 82), (90, [9], [], 0), (91, [9], [], 40), (5000, [0, 1, 2, 3, 4, 5, 6, 7, 8], [0, 1], 39), (0, [0], [], 285), (90, [1], [], -2147483648), (91, [1], [], 2147483647), (90, [2], [], -2147483648), (91, [2], [], 2147483647), (0, [3], [], 285), (90, [4], [], -2147483648), (91, [4], [], 2147483647), (90, [5], [], -2147483648), (91, [5], [], 2147483647), (90, [6], [], -2147483648), (91, [6], [], 2147483647), (90, [7], [], 0), (91, [7], [], 39), (90, [8], [], 0), (91, [8], [], 40)], (91, [32], [], 40)) := vOk_in fun ρ η h => by
  obtain ⟨f0, f1, f2, f3, f4, f5, f6, f7, f8, f9, f10, f11, f12, f13, f14, f15, f16, f17, f18, f19, f20, f21, f22, f23, f24, f25, f26, f27, f28, f29, f30, f31, f32, f33, f34, f35, f36, f37, f38, f39, f40, f41, f42, f43, f44, f45, f46, f47, f48, f49, f50, f51, f52, f53, f54, f55, f56, f57, f58, f59, f60, f61, f62, f63, f64, f65, f66, f67, _⟩ := h
  exact q_300_28 (q0 := q0) (n0 := ρ 8) (n1 := ρ 7) (n2 := ρ 6) (n3 := ρ 5) (n4 := ρ 4) (n5 := ρ 3) (n6 := ρ 2) (n7 := ρ 1) (n8 := ρ 0) (n9 := ρ 9) (n10 := ρ 10) (n11 := ρ 11) (n12 := ρ 12) (n13 := ρ 13) (n14 := ρ 14) (n15 := ρ 15) (n16 := ρ 16) (n17 := ρ 17) (n18 := ρ 18) (n19 := ρ 19) (n20 := ρ 20) (n21 := ρ 21) (n22 := ρ 22) (n23 := ρ 23) (n24 := ρ 24) (n25 := ρ 25) (n26 := ρ 26) (n27 := ρ 27) (n28 := ρ 32) (H0 := η 0) (H1 := η 1) f67 f66 f65 f64 f63 f62 f61 f60 f59 f58 f57 f56 f55 f54 f53 f52 f51 f50 f49 f48 f47 f46 f45 f44 f43 f42 f41 f40 f39 f38 f37 f36 f35 f34 f33 f32 f31 f30 f29 f28 f27 f26 f25 f24 f23 f22 f21 f20 f19 f18 f17 f16 f15 f14 f13 f12 f11 f10 f9 f8 f7 f6 f5 f4 f3 f2 f1 f0
theorem q_300_29 {q0 : Nat} {n0 n1 n2 n3 n4 n5 n6 n7 n8 n9 n10 n11 n12 n13 n14 n15 n16 n17 n18 n19 n20 n21 n22 n23 n24 n25 n26 n27 n28 n29 n30 n31 n32 : Int} {H0 H1 H2 H3 H4 H5 : gH} (f0 : n0 ≤ 40) (f1 : 0 ≤ n0) (f2 : n1 ≤ 39) (f3 : 0 ≤ n1) (f4 : n2 ≤ 2147483647) (f5 : (-2147483648) ≤ n2) (f6 : n3 ≤ 2147483647) (f7 : (-2147483648) ≤ n3) (f8 : n4 ≤ 2147483647) (f9 : (-2147483648) ≤ n4) (f10 : n5 = 285) (f11 : n6 ≤ 2147483647) (f12 : (-2147483648) ≤ n6) (f13 : n7 ≤ 2147483647) (f14 : (-2147483648) ≤ n7) (f15 : n8 = 285) (f16 : (hLe T0 H0 H1 ∧ hFr s_300.2.2.2.2 H0 H1 ∧ hWt T0 H1) ∧ (Ab_300_39 n8 n7 n6 n5 n4 n3 n2 n1 n0 H0 H1 ∧ preb_300 n8 n7 n6 H0) ∧ some q0 = some (mub_300_39 n8 n7 n6 n5 n4 n3 n2 n1 n0 H0 H1)) (f17 : n9 ≤ 40) (f18 : 0 ≤ n9) (f19 : n9 = hV H1 (n5).toNat 82) (f20 : n0 < n9) (f21 : n10 = 298) (f22 : n10 = hV H1 (n5).toNat 24) (f23 : n11 = 344) (f24 : n11 = hV H1 (n5).toNat 83) (f25 : n12 ≤ 1007) (f26 : 0 ≤ n12) (f27 : n12 = hV H1 (n11).toNat (n1).toNat) (f28 : n13 ≤ 5) (f29 : 0 ≤ n13) (f30 : n13 = hV H1 (n10).toNat (n12).toNat) (f31 : n14 = 1) (f32 : n13 = n14) (f33 : n15 = 298) (f34 : n15 = hV H1 (n5).toNat 24) (f35 : n16 = 344) (f36 : n16 = hV H1 (n5).toNat 83) (f37 : n17 ≤ 1007) (f38 : 0 ≤ n17) (f39 : n17 = hV H1 (n16).toNat (n0).toNat) (f40 : n18 ≤ 5) (f41 : 0 ≤ n18) (f42 : n18 = hV H1 (n15).toNat (n17).toNat) (f43 : n19 = 1) (f44 : n18 = n19) (f45 : n20 = 300) (f46 : n20 = hV H1 (n5).toNat 26) (f47 : n21 = 344) (f48 : n21 = hV H1 (n5).toNat 83) (f49 : n22 ≤ 1007) (f50 : 0 ≤ n22) (f51 : n22 = hV H1 (n21).toNat (n1).toNat) (f52 : n23 ≤ 9999) (f53 : (-1) ≤ n23) (f54 : n23 = hV H1 (n20).toNat (n22).toNat) (f55 : n24 = 300) (f56 : n24 = hV H1 (n5).toNat 26) (f57 : n25 = 344) (f58 : n25 = hV H1 (n5).toNat 83) (f59 : n26 ≤ 1007) (f60 : 0 ≤ n26) (f61 : n26 = hV H1 (n25).toNat (n0).toNat) (f62 : n27 ≤ 9999) (f63 : (-1) ≤ n27) (f64 : n27 = hV H1 (n24).toNat (n26).toNat) (f65 : n23 = n27) (f66 : n28 ≤ 10999) (f67 : (-10999) ≤ n28) (f68 : (hLe T0 H1 H2 ∧ hFr s_271.2.2.2.2 H1 H2 ∧ ((0 : Int) = 0 → H2.length = H1.length) ∧ hWt T0 H2) ∧ True) (f69 : n29 ≤ 10999) (f70 : (-10999) ≤ n29) (f71 : (hLe T0 H2 H3 ∧ hFr s_271.2.2.2.2 H2 H3 ∧ ((0 : Int) = 0 → H3.length = H2.length) ∧ hWt T0 H3) ∧ True) (f72 : n29 ≤ n28) (f73 : n1 ≠ n1) (f74 : n30 ≤ 10999) (f75 : (-10999) ≤ n30) (f76 : (hLe T0 H3 H4 ∧ hFr s_271.2.2.2.2 H3 H4 ∧ ((0 : Int) = 0 → H4.length = H3.length) ∧ hWt T0 H4) ∧ True) (f77 : n31 ≤ 10999) (f78 : (-10999) ≤ n31) (f79 : (hLe T0 H4 H5 ∧ hFr s_272.2.2.2.2 H4 H5 ∧ ((0 : Int) = 0 → H5.length = H4.length) ∧ hWt T0 H5) ∧ True) (f80 : n31 ≤ n30) (f81 : n32 = w32 (n0 + 1)) : Ab_300_39 n8 n7 n6 n5 n4 n3 n2 n1 n32 H0 H5 ∧ ∀ q, some q0 = some q → mub_300_39 n8 n7 n6 n5 n4 n3 n2 n1 n32 H0 H5 < q := by
  have g4 := f16.2.1.1
  unfold Ab_300_39 at g4
  have g3 := f16.2.1.2
  unfold preb_300 at g3
  have g5 := Option.some.inj f16.2.2
  unfold mub_300_39 at g5
  unfold Ab_300_39
  unfold mub_300_39
  have e0 : n9 = hV H1 285 82 := (by rw [f10] at f19; exact f19 : n9 = hV H1 285 82)
  have e1 : n12 = hV H1 344 (n1).toNat := (by rw [f23] at f27; exact f27 : n12 = hV H1 344 (n1).toNat)
  have e2 : hV H1 298 = hV H0 298 := fRow f16.1.2.1 298 (by decide +kernel)
  have e3 : n13 = hV H0 298 (n12).toNat := (by rw [f21] at f30; exact f30 : n13 = hV H1 298 (n12).toNat).trans ((congrFun e2 _))
  have e4 : n17 = hV H1 344 (n0).toNat := (by rw [f35] at f39; exact f39 : n17 = hV H1 344 (n0).toNat)
  have e5 : n18 = hV H0 298 (n17).toNat := (by rw [f33] at f42; exact f42 : n18 = hV H1 298 (n17).toNat).trans ((congrFun e2 _))
  have e6 : n22 = hV H1 344 (n1).toNat := (by rw [f47] at f51; exact f51 : n22 = hV H1 344 (n1).toNat)
  have e7 : hV H1 300 = hV H0 300 := fRow f16.1.2.1 300 (by decide +kernel)
  have e8 : n23 = hV H0 300 (n22).toNat := (by rw [f45] at f54; exact f54 : n23 = hV H1 300 (n22).toNat).trans ((congrFun e7 _))
  have e9 : n26 = hV H1 344 (n0).toNat := (by rw [f57] at f61; exact f61 : n26 = hV H1 344 (n0).toNat)
  have e10 : n27 = hV H0 300 (n26).toNat := (by rw [f55] at f64; exact f64 : n27 = hV H1 300 (n26).toNat).trans ((congrFun e7 _))
  have e11 : hV H1 301 = hV H0 301 := fRow f16.1.2.1 301 (by decide +kernel)
  have e12 : hV H1 302 = hV H0 302 := fRow f16.1.2.1 302 (by decide +kernel)
  have e13 : hV H1 303 = hV H0 303 := fRow f16.1.2.1 303 (by decide +kernel)
  have e14 : hV H1 305 = hV H0 305 := fRow f16.1.2.1 305 (by decide +kernel)
  have e15 : hV H5 285 82 = hV H4 285 82 := f79.1.2.1.1 285 82 (by decide +kernel)
  have e16 : hV H4 285 82 = hV H3 285 82 := f76.1.2.1.1 285 82 (by decide +kernel)
  have e17 : hV H3 285 82 = hV H2 285 82 := f71.1.2.1.1 285 82 (by decide +kernel)
  have e18 : hV H2 285 82 = hV H1 285 82 := f68.1.2.1.1 285 82 (by decide +kernel)
  have e19 : hV H5 285 82 = hV H1 285 82 := (e15).trans ((e16).trans ((e17).trans e18))
  have e20 : hV H5 298 = hV H4 298 := fRow f79.1.2.1 298 (by decide +kernel)
  have e21 : hV H4 298 = hV H3 298 := fRow f76.1.2.1 298 (by decide +kernel)
  have e22 : hV H3 298 = hV H2 298 := fRow f71.1.2.1 298 (by decide +kernel)
  have e23 : hV H2 298 = hV H1 298 := fRow f68.1.2.1 298 (by decide +kernel)
  have e24 : hV H2 298 = hV H0 298 := e23.trans e2
  have e25 : hV H3 298 = hV H0 298 := e22.trans e24
  have e26 : hV H4 298 = hV H0 298 := e21.trans e25
  have e27 : hV H5 298 = hV H0 298 := e20.trans e26
  have e28 : hV H5 300 = hV H4 300 := fRow f79.1.2.1 300 (by decide +kernel)
  have e29 : hV H4 300 = hV H3 300 := fRow f76.1.2.1 300 (by decide +kernel)
  have e30 : hV H3 300 = hV H2 300 := fRow f71.1.2.1 300 (by decide +kernel)
  have e31 : hV H2 300 = hV H1 300 := fRow f68.1.2.1 300 (by decide +kernel)
  have e32 : hV H2 300 = hV H0 300 := e31.trans e7
  have e33 : hV H3 300 = hV H0 300 := e30.trans e32
  have e34 : hV H4 300 = hV H0 300 := e29.trans e33
  have e35 : hV H5 300 = hV H0 300 := e28.trans e34
  have e36 : hV H5 301 = hV H4 301 := fRow f79.1.2.1 301 (by decide +kernel)
  have e37 : hV H4 301 = hV H3 301 := fRow f76.1.2.1 301 (by decide +kernel)
  have e38 : hV H3 301 = hV H2 301 := fRow f71.1.2.1 301 (by decide +kernel)
  have e39 : hV H2 301 = hV H1 301 := fRow f68.1.2.1 301 (by decide +kernel)
  have e40 : hV H2 301 = hV H0 301 := e39.trans e11
  have e41 : hV H3 301 = hV H0 301 := e38.trans e40
  have e42 : hV H4 301 = hV H0 301 := e37.trans e41
  have e43 : hV H5 301 = hV H0 301 := e36.trans e42
  have e44 : hV H5 302 = hV H4 302 := fRow f79.1.2.1 302 (by decide +kernel)
  have e45 : hV H4 302 = hV H3 302 := fRow f76.1.2.1 302 (by decide +kernel)
  have e46 : hV H3 302 = hV H2 302 := fRow f71.1.2.1 302 (by decide +kernel)
  have e47 : hV H2 302 = hV H1 302 := fRow f68.1.2.1 302 (by decide +kernel)
  have e48 : hV H2 302 = hV H0 302 := e47.trans e12
  have e49 : hV H3 302 = hV H0 302 := e46.trans e48
  have e50 : hV H4 302 = hV H0 302 := e45.trans e49
  have e51 : hV H5 302 = hV H0 302 := e44.trans e50
  have e52 : hV H5 303 = hV H4 303 := fRow f79.1.2.1 303 (by decide +kernel)
  have e53 : hV H4 303 = hV H3 303 := fRow f76.1.2.1 303 (by decide +kernel)
  have e54 : hV H3 303 = hV H2 303 := fRow f71.1.2.1 303 (by decide +kernel)
  have e55 : hV H2 303 = hV H1 303 := fRow f68.1.2.1 303 (by decide +kernel)
  have e56 : hV H2 303 = hV H0 303 := e55.trans e13
  have e57 : hV H3 303 = hV H0 303 := e54.trans e56
  have e58 : hV H4 303 = hV H0 303 := e53.trans e57
  have e59 : hV H5 303 = hV H0 303 := e52.trans e58
  have e60 : hV H5 305 = hV H4 305 := fRow f79.1.2.1 305 (by decide +kernel)
  have e61 : hV H4 305 = hV H3 305 := fRow f76.1.2.1 305 (by decide +kernel)
  have e62 : hV H3 305 = hV H2 305 := fRow f71.1.2.1 305 (by decide +kernel)
  have e63 : hV H2 305 = hV H1 305 := fRow f68.1.2.1 305 (by decide +kernel)
  have e64 : hV H2 305 = hV H0 305 := e63.trans e14
  have e65 : hV H3 305 = hV H0 305 := e62.trans e64
  have e66 : hV H4 305 = hV H0 305 := e61.trans e65
  have e67 : hV H5 305 = hV H0 305 := e60.trans e66
  have e68 : hV H5 344 = hV H4 344 := fRow f79.1.2.1 344 (by decide +kernel)
  have e69 : hV H4 344 = hV H3 344 := fRow f76.1.2.1 344 (by decide +kernel)
  have e70 : hV H3 344 = hV H2 344 := fRow f71.1.2.1 344 (by decide +kernel)
  have e71 : hV H2 344 = hV H1 344 := fRow f68.1.2.1 344 (by decide +kernel)
  have e72 : hV H3 344 = hV H1 344 := e70.trans e71
  have e73 : hV H4 344 = hV H1 344 := e69.trans e72
  have e74 : hV H5 344 = hV H1 344 := e68.trans e73
  have e75 : (0 : Int) ≤ hV H1 285 82 ∧ hV H1 285 82 ≤ 40 := f16.1.2.2 285 82 _ _ (by decide +kernel)
  have e76 : (0 : Int) ≤ hV H5 285 82 ∧ hV H5 285 82 ≤ 40 := f79.1.2.2.2 285 82 _ _ (by decide +kernel)
  try simp only [XQ] at *
  try simp only [e2, e7, e11, e12, e13, e14, e19, e27, e35, e43, e51, e59, e67, e74] at f16
  try simp only [e2, e7, e11, e12, e13, e14, e19, e27, e35, e43, e51, e59, e67, e74] at e75
  try simp only [e2, e7, e11, e12, e13, e14, e19, e27, e35, e43, e51, e59, e67, e74] at e76
  try simp only [e2, e7, e11, e12, e13, e14, e19, e27, e35, e43, e51, e59, e67, e74] at g3
  try simp only [e2, e7, e11, e12, e13, e14, e19, e27, e35, e43, e51, e59, e67, e74] at g4
  try simp only [e2, e7, e11, e12, e13, e14, e19, e27, e35, e43, e51, e59, e67, e74] at g5
  try simp only [e2, e7, e11, e12, e13, e14, e19, e27, e35, e43, e51, e59, e67, e74]
  have k0 := g4.1
  have k1 := g4.2.1
  have y0 := g4.2.2.1
  have y1 := g4.2.2.2
  have p0 := g3
  try simp only [e2, e7, e11, e12, e13, e14, e19, e27, e35, e43, e51, e59, e67, e74] at k0
  try simp only [e2, e7, e11, e12, e13, e14, e19, e27, e35, e43, e51, e59, e67, e74] at k1
  try simp only [e2, e7, e11, e12, e13, e14, e19, e27, e35, e43, e51, e59, e67, e74] at y0
  try simp only [e2, e7, e11, e12, e13, e14, e19, e27, e35, e43, e51, e59, e67, e74] at y1
  try simp only [e2, e7, e11, e12, e13, e14, e19, e27, e35, e43, e51, e59, e67, e74] at p0
  clear g3
  clear g4
  clear f19 f22 f24 f27 f30 f34 f36 f39 f42 f46 f48 f51 f54 f56 f58 f61 f64 e2 e7 e11 e12 e13 e14 e15 e16 e17 e18 e19 e20 e21 e22 e23 e24 e25 e26 e27 e28 e29 e30 e31 e32 e33 e34 e35 e36 e37 e38 e39 e40 e41 e42 e43 e44 e45 e46 e47 e48 e49 e50 e51 e52 e53 e54 e55 e56 e57 e58 e59 e60 e61 e62 e63 e64 e65 e66 e67 e68 e69 e70 e71 e72 e73 e74
  subst e0
  subst e1
  subst e3
  subst e4
  subst e5
  subst e6
  subst e8
  subst e9
  subst e10
  unfold w32 at *
  try (have ix0 : n32 = n0 + 1 := (by omega); subst ix0)
  try subst k1
  try subst k0
  refine ⟨?_, fun q hq => ?_⟩
  · refine ⟨?_, ?_, ?_, ?_⟩ <;> first | assumption | omega | trivial
  · have g6 := Option.some.inj hq
    subst g6
    omega
theorem c_300_39_21 {q0 : Nat} : vOkm T0 (eP e_300 L_300 A_300 mu_300 (some q0)) 3 ([(10, [32, 8], [], 1), (43, [30, 31], [], 0), (1272, [31, 3, 7], [4, 5], 0), (90, [31], [], -10999), (91, [31], [], 10999), (1271, [30, 3, 7], [3, 4], 0), (90, [30], [], -10999), (91, [30], [], 10999), (41, [7, 7], [], 0), (43, [28, 29], [], 0), (1271, [29, 3, 7], [2, 3], 0), (90, [29], [], -10999), (91, [29], [], 10999), (1271, [28, 3, 8], [1, 2], 0), (90, [28], [], -10999), (91, [28], [], 10999), (40, [23, 27], [], 0), (22, [27, 24, 26], [1], 0), (90, [27], [], -1), (91, [27], [], 9999), (22, [26, 25, 8], [1], 0), (90, [26], [], 0), (91, [26], [], 1007), (20, [25, 3], [1], 83), (0, [25], [], 344), (20, [24, 3], [1], 26), (0, [24], [], 300), (22, [23, 20, 22], [1], 0), (90, [23], [], -1), (91, [23], [], 9999), (22, [22, 21, 7], [1], 0), (90, [22], [], 0), (91, [22], [], 1007), (20, [21, 3], [1], 83), (0, [21], [], 344), (20, [20, 3], [1], 26), (0, [20], [], 300), (40, [18, 19], [], 0), (0, [19], [], 1), (22, [18, 15, 17], [1], 0), (90, [18], [], 0), (91, [18], [], 5), (22, [17, 16, 8], [1], 0), (90, [17], [], 0), (91, [17], [], 1007), (20, [16, 3], [1], 83), (0, [16], [], 344), (20, [15, 3], [1], 24), (0, [15], [], 298), (40, [13, 14], [], 0), (0, [14], [], 1), (22, [13, 10, 12], [1], 0), (90, [13], [], 0), (91, [13], [], 5), (22, [12, 11, 7], [1], 0), (90, [12], [], 0), (91, [12], [], 1007), (20, [11, 3], [1], 83), (0, [11], [], 344), (20, [10, 3], [1], 24), (0, [10], [], 298), (42, [8, 9], [], 0), (20, [9, 3], [1], 82), (90, [9], [], 0), (91, [9], [], 40), (5000, [0, 1, 2, 3, 4, 5, 6, 7, 8], [0, 1], 39), (0, [0], [], 285), (90, [1], [], -2147483648), (91, [1], [], 2147483647), (90, [2], [], -2147483648), (91, [2], [], 2147483647), (0, [3], [], 285), (90, [4], [], -2147483648), (91, [4], [], 2147483647), (90, [5], [], -2147483648), (91, [5], [], 2147483647), (90, [6], [], -2147483648), (91, [6], [], 2147483647), (90, [7], [], 0), (91, [7], [], 39), (90, [8], [], 0), (91, [8], [], 40)], (4000, [3, 4, 5, 6, 7, 32], [5], 39)) := vOk_in fun ρ η h => by
  obtain ⟨f0, f1, f2, f3, f4, f5, f6, f7, f8, f9, f10, f11, f12, f13, f14, f15, f16, f17, f18, f19, f20, f21, f22, f23, f24, f25, f26, f27, f28, f29, f30, f31, f32, f33, f34, f35, f36, f37, f38, f39, f40, f41, f42, f43, f44, f45, f46, f47, f48, f49, f50, f51, f52, f53, f54, f55, f56, f57, f58, f59, f60, f61, f62, f63, f64, f65, f66, f67, f68, f69, f70, f71, f72, f73, f74, f75, f76, f77, f78, f79, f80, f81, _⟩ := h
  exact q_300_29 (q0 := q0) (n0 := ρ 8) (n1 := ρ 7) (n2 := ρ 6) (n3 := ρ 5) (n4 := ρ 4) (n5 := ρ 3) (n6 := ρ 2) (n7 := ρ 1) (n8 := ρ 0) (n9 := ρ 9) (n10 := ρ 10) (n11 := ρ 11) (n12 := ρ 12) (n13 := ρ 13) (n14 := ρ 14) (n15 := ρ 15) (n16 := ρ 16) (n17 := ρ 17) (n18 := ρ 18) (n19 := ρ 19) (n20 := ρ 20) (n21 := ρ 21) (n22 := ρ 22) (n23 := ρ 23) (n24 := ρ 24) (n25 := ρ 25) (n26 := ρ 26) (n27 := ρ 27) (n28 := ρ 28) (n29 := ρ 29) (n30 := ρ 30) (n31 := ρ 31) (n32 := ρ 32) (H0 := η 0) (H1 := η 1) (H2 := η 2) (H3 := η 3) (H4 := η 4) (H5 := η 5) f81 f80 f79 f78 f77 f76 f75 f74 f73 f72 f71 f70 f69 f68 f67 f66 f65 f64 f63 f62 f61 f60 f59 f58 f57 f56 f55 f54 f53 f52 f51 f50 f49 f48 f47 f46 f45 f44 f43 f42 f41 f40 f39 f38 f37 f36 f35 f34 f33 f32 f31 f30 f29 f28 f27 f26 f25 f24 f23 f22 f21 f20 f19 f18 f17 f16 f15 f14 f13 f12 f11 f10 f9 f8 f7 f6 f5 f4 f3 f2 f1 f0
theorem q_300_30 {q0 : Nat} {n0 n1 n2 n3 n4 n5 n6 n7 n8 n9 n10 n11 n12 n13 n14 n15 n16 n17 n18 n19 n20 n21 n22 n23 n24 n25 n26 n27 : Int} {H0 H1 : gH} (f0 : n0 ≤ 40) (f1 : 0 ≤ n0) (f2 : n1 ≤ 39) (f3 : 0 ≤ n1) (f4 : n2 ≤ 2147483647) (f5 : (-2147483648) ≤ n2) (f6 : n3 ≤ 2147483647) (f7 : (-2147483648) ≤ n3) (f8 : n4 ≤ 2147483647) (f9 : (-2147483648) ≤ n4) (f10 : n5 = 285) (f11 : n6 ≤ 2147483647) (f12 : (-2147483648) ≤ n6) (f13 : n7 ≤ 2147483647) (f14 : (-2147483648) ≤ n7) (f15 : n8 = 285) (f16 : (hLe T0 H0 H1 ∧ hFr s_300.2.2.2.2 H0 H1 ∧ hWt T0 H1) ∧ (Ab_300_39 n8 n7 n6 n5 n4 n3 n2 n1 n0 H0 H1 ∧ preb_300 n8 n7 n6 H0) ∧ some q0 = some (mub_300_39 n8 n7 n6 n5 n4 n3 n2 n1 n0 H0 H1)) (f17 : n9 ≤ 40) (f18 : 0 ≤ n9) (f19 : n9 = hV H1 (n5).toNat 82) (f20 : n0 < n9) (f21 : n10 = 298) (f22 : n10 = hV H1 (n5).toNat 24) (f23 : n11 = 344) (f24 : n11 = hV H1 (n5).toNat 83) (f25 : n12 ≤ 1007) (f26 : 0 ≤ n12) (f27 : n12 = hV H1 (n11).toNat (n1).toNat) (f28 : n13 ≤ 5) (f29 : 0 ≤ n13) (f30 : n13 = hV H1 (n10).toNat (n12).toNat) (f31 : n14 = 1) (f32 : n13 = n14) (f33 : n15 = 298) (f34 : n15 = hV H1 (n5).toNat 24) (f35 : n16 = 344) (f36 : n16 = hV H1 (n5).toNat 83) (f37 : n17 ≤ 1007) (f38 : 0 ≤ n17) (f39 : n17 = hV H1 (n16).toNat (n0).toNat) (f40 : n18 ≤ 5) (f41 : 0 ≤ n18) (f42 : n18 = hV H1 (n15).toNat (n17).toNat) (f43 : n19 = 1) (f44 : n18 = n19) (f45 : n20 = 300) (f46 : n20 = hV H1 (n5).toNat 26) (f47 : n21 = 344) (f48 : n21 = hV H1 (n5).toNat 83) (f49 : n22 ≤ 1007) (f50 : 0 ≤ n22) (f51 : n22 = hV H1 (n21).toNat (n1).toNat) (f52 : n23 ≤ 9999) (f53 : (-1) ≤ n23) (f54 : n23 = hV H1 (n20).toNat (n22).toNat) (f55 : n24 = 300) (f56 : n24 = hV H1 (n5).toNat 26) (f57 : n25 = 344) (f58 : n25 = hV H1 (n5).toNat 83) (f59 : n26 ≤ 1007) (f60 : 0 ≤ n26) (f61 : n26 = hV H1 (n25).toNat (n0).toNat) (f62 : n27 ≤ 9999) (f63 : (-1) ≤ n27) (f64 : n27 = hV H1 (n24).toNat (n26).toNat) (f65 : n23 = n27) (f66 : n1 = n1) : n0 ≤ 39 := by
  have g4 := f16.2.1.1
  unfold Ab_300_39 at g4
  have g3 := f16.2.1.2
  unfold preb_300 at g3
  have e0 : n9 = hV H1 285 82 := (by rw [f10] at f19; exact f19 : n9 = hV H1 285 82)
  have e1 : n12 = hV H1 344 (n1).toNat := (by rw [f23] at f27; exact f27 : n12 = hV H1 344 (n1).toNat)
  have e2 : hV H1 298 = hV H0 298 := fRow f16.1.2.1 298 (by decide +kernel)
  have e3 : n13 = hV H0 298 (n12).toNat := (by rw [f21] at f30; exact f30 : n13 = hV H1 298 (n12).toNat).trans ((congrFun e2 _))
  have e4 : n17 = hV H1 344 (n0).toNat := (by rw [f35] at f39; exact f39 : n17 = hV H1 344 (n0).toNat)
  have e5 : n18 = hV H0 298 (n17).toNat := (by rw [f33] at f42; exact f42 : n18 = hV H1 298 (n17).toNat).trans ((congrFun e2 _))
  have e6 : n22 = hV H1 344 (n1).toNat := (by rw [f47] at f51; exact f51 : n22 = hV H1 344 (n1).toNat)
  have e7 : hV H1 300 = hV H0 300 := fRow f16.1.2.1 300 (by decide +kernel)
  have e8 : n23 = hV H0 300 (n22).toNat := (by rw [f45] at f54; exact f54 : n23 = hV H1 300 (n22).toNat).trans ((congrFun e7 _))
  have e9 : n26 = hV H1 344 (n0).toNat := (by rw [f57] at f61; exact f61 : n26 = hV H1 344 (n0).toNat)
  have e10 : n27 = hV H0 300 (n26).toNat := (by rw [f55] at f64; exact f64 : n27 = hV H1 300 (n26).toNat).trans ((congrFun e7 _))
  have e11 : hV H1 301 = hV H0 301 := fRow f16.1.2.1 301 (by decide +kernel)
  have e12 : hV H1 302 = hV H0 302 := fRow f16.1.2.1 302 (by decide +kernel)
  have e13 : hV H1 303 = hV H0 303 := fRow f16.1.2.1 303 (by decide +kernel)
  have e14 : hV H1 305 = hV H0 305 := fRow f16.1.2.1 305 (by decide +kernel)
  have e15 : (0 : Int) ≤ hV H1 285 82 ∧ hV H1 285 82 ≤ 40 := f16.1.2.2 285 82 _ _ (by decide +kernel)
  try simp only [XQ] at *
  try simp only [e2, e7, e11, e12, e13, e14] at f16
  try simp only [e2, e7, e11, e12, e13, e14] at e15
  try simp only [e2, e7, e11, e12, e13, e14] at g3
  try simp only [e2, e7, e11, e12, e13, e14] at g4
  try simp only [e2, e7, e11, e12, e13, e14]
  have k0 := g4.1
  have k1 := g4.2.1
  have y0 := g4.2.2.1
  have y1 := g4.2.2.2
  have p0 := g3
  try simp only [e2, e7, e11, e12, e13, e14] at k0
  try simp only [e2, e7, e11, e12, e13, e14] at k1
  try simp only [e2, e7, e11, e12, e13, e14] at y0
  try simp only [e2, e7, e11, e12, e13, e14] at y1
  try simp only [e2, e7, e11, e12, e13, e14] at p0
  clear g3
  clear g4
  clear f19 f22 f24 f27 f30 f34 f36 f39 f42 f46 f48 f51 f54 f56 f58 f61 f64 e2 e7 e11 e12 e13 e14
  subst e0
  subst e1
  subst e3
  subst e4
  subst e5
  subst e6
  subst e8
  subst e9
  subst e10
  try subst k1
  try subst k0
  omega
theorem c_300_39_22 {q0 : Nat} : vOkm T0 (eP e_300 L_300 A_300 mu_300 (some q0)) 3 ([(40, [7, 7], [], 0), (40, [23, 27], [], 0), (22, [27, 24, 26], [1], 0), (90, [27], [], -1), (91, [27], [], 9999), (22, [26, 25, 8], [1], 0), (90, [26], [], 0), (91, [26], [], 1007), (20, [25, 3], [1], 83), (0, [25], [], 344), (20, [24, 3], [1], 26), (0, [24], [], 300), (22, [23, 20, 22], [1], 0), (90, [23], [], -1), (91, [23], [], 9999), (22, [22, 21, 7], [1], 0), (90, [22], [], 0), (91, [22], [], 1007), (20, [21, 3], [1], 83), (0, [21], [], 344), (20, [20, 3], [1], 26), (0, [20], [], 300), (40, [18, 19], [], 0), (0, [19], [], 1), (22, [18, 15, 17], [1], 0), (90, [18], [], 0), (91, [18], [], 5), (22, [17, 16, 8], [1], 0), (90, [17], [], 0), (91, [17], [], 1007), (20, [16, 3], [1], 83), (0, [16], [], 344), (20, [15, 3], [1], 24), (0, [15], [], 298), (40, [13, 14], [], 0), (0, [14], [], 1), (22, [13, 10, 12], [1], 0), (90, [13], [], 0), (91, [13], [], 5), (22, [12, 11, 7], [1], 0), (90, [12], [], 0), (91, [12], [], 1007), (20, [11, 3], [1], 83), (0, [11], [], 344), (20, [10, 3], [1], 24), (0, [10], [], 298), (42, [8, 9], [], 0), (20, [9, 3], [1], 82), (90, [9], [], 0), (91, [9], [], 40), (5000, [0, 1, 2, 3, 4, 5, 6, 7, 8], [0, 1], 39), (0, [0], [], 285), (90, [1], [], -2147483648), (91, [1], [], 2147483647), (90, [2], [], -2147483648), (91, [2], [], 2147483647), (0, [3], [], 285), (90, [4], [], -2147483648), (91, [4], [], 2147483647), (90, [5], [], -2147483648), (91, [5], [], 2147483647), (90, [6], [], -2147483648), (91, [6], [], 2147483647), (90, [7], [], 0), (91, [7], [], 39), (90, [8], [], 0), (91, [8], [], 40)], (91, [8], [], 39)) := vOk_in fun ρ η h => by
  obtain ⟨f0, f1, f2, f3, f4, f5, f6, f7, f8, f9, f10, f11, f12, f13, f14, f15, f16, f17, f18, f19, f20, f21, f22, f23, f24, f25, f26, f27, f28, f29, f30, f31, f32, f33, f34, f35, f36, f37, f38, f39, f40, f41, f42, f43, f44, f45, f46, f47, f48, f49, f50, f51, f52, f53, f54, f55, f56, f57, f58, f59, f60, f61, f62, f63, f64, f65, f66, _⟩ := h
  exact q_300_30 (q0 := q0) (n0 := ρ 8) (n1 := ρ 7) (n2 := ρ 6) (n3 := ρ 5) (n4 := ρ 4) (n5 := ρ 3) (n6 := ρ 2) (n7 := ρ 1) (n8 := ρ 0) (n9 := ρ 9) (n10 := ρ 10) (n11 := ρ 11) (n12 := ρ 12) (n13 := ρ 13) (n14 := ρ 14) (n15 := ρ 15) (n16 := ρ 16) (n17 := ρ 17) (n18 := ρ 18) (n19 := ρ 19) (n20 := ρ 20) (n21 := ρ 21) (n22 := ρ 22) (n23 := ρ 23) (n24 := ρ 24) (n25 := ρ 25) (n26 := ρ 26) (n27 := ρ 27) (H0 := η 0) (H1 := η 1) f66 f65 f64 f63 f62 f61 f60 f59 f58 f57 f56 f55 f54 f53 f52 f51 f50 f49 f48 f47 f46 f45 f44 f43 f42 f41 f40 f39 f38 f37 f36 f35 f34 f33 f32 f31 f30 f29 f28 f27 f26 f25 f24 f23 f22 f21 f20 f19 f18 f17 f16 f15 f14 f13 f12 f11 f10 f9 f8 f7 f6 f5 f4 f3 f2 f1 f0
theorem q_300_31 {q0 : Nat} {n0 n1 n2 n3 n4 n5 n6 n7 n8 n9 n10 n11 n12 n13 n14 n15 n16 n17 n18 n19 n20 n21 n22 n23 n24 n25 n26 n27 n28 n29 : Int} {H0 H1 H2 H3 : gH} (f0 : n0 ≤ 40) (f1 : 0 ≤ n0) (f2 : n1 ≤ 39) (f3 : 0 ≤ n1) (f4 : n2 ≤ 2147483647) (f5 : (-2147483648) ≤ n2) (f6 : n3 ≤ 2147483647) (f7 : (-2147483648) ≤ n3) (f8 : n4 ≤ 2147483647) (f9 : (-2147483648) ≤ n4) (f10 : n5 = 285) (f11 : n6 ≤ 2147483647) (f12 : (-2147483648) ≤ n6) (f13 : n7 ≤ 2147483647) (f14 : (-2147483648) ≤ n7) (f15 : n8 = 285) (f16 : (hLe T0 H0 H1 ∧ hFr s_300.2.2.2.2 H0 H1 ∧ hWt T0 H1) ∧ (Ab_300_39 n8 n7 n6 n5 n4 n3 n2 n1 n0 H0 H1 ∧ preb_300 n8 n7 n6 H0) ∧ some q0 = some (mub_300_39 n8 n7 n6 n5 n4 n3 n2 n1 n0 H0 H1)) (f17 : n9 ≤ 40) (f18 : 0 ≤ n9) (f19 : n9 = hV H1 (n5).toNat 82) (f20 : n0 < n9) (f21 : n10 = 298) (f22 : n10 = hV H1 (n5).toNat 24) (f23 : n11 = 344) (f24 : n11 = hV H1 (n5).toNat 83) (f25 : n12 ≤ 1007) (f26 : 0 ≤ n12) (f27 : n12 = hV H1 (n11).toNat (n1).toNat) (f28 : n13 ≤ 5) (f29 : 0 ≤ n13) (f30 : n13 = hV H1 (n10).toNat (n12).toNat) (f31 : n14 = 1) (f32 : n13 = n14) (f33 : n15 = 298) (f34 : n15 = hV H1 (n5).toNat 24) (f35 : n16 = 344) (f36 : n16 = hV H1 (n5).toNat 83) (f37 : n17 ≤ 1007) (f38 : 0 ≤ n17) (f39 : n17 = hV H1 (n16).toNat (n0).toNat) (f40 : n18 ≤ 5) (f41 : 0 ≤ n18) (f42 : n18 = hV H1 (n15).toNat (n17).toNat) (f43 : n19 = 1) (f44 : n18 = n19) (f45 : n20 = 300) (f46 : n20 = hV H1 (n5).toNat 26) (f47 : n21 = 344) (f48 : n21 = hV H1 (n5).toNat 83) (f49 : n22 ≤ 1007) (f50 : 0 ≤ n22) (f51 : n22 = hV H1 (n21).toNat (n1).toNat) (f52 : n23 ≤ 9999) (f53 : (-1) ≤ n23) (f54 : n23 = hV H1 (n20).toNat (n22).toNat) (f55 : n24 = 300) (f56 : n24 = hV H1 (n5).toNat 26) (f57 : n25 = 344) (f58 : n25 = hV H1 (n5).toNat 83) (f59 : n26 ≤ 1007) (f60 : 0 ≤ n26) (f61 : n26 = hV H1 (n25).toNat (n0).toNat) (f62 : n27 ≤ 9999) (f63 : (-1) ≤ n27) (f64 : n27 = hV H1 (n24).toNat (n26).toNat) (f65 : n23 = n27) (f66 : n28 ≤ 10999) (f67 : (-10999) ≤ n28) (f68 : (hLe T0 H1 H2 ∧ hFr s_271.2.2.2.2 H1 H2 ∧ ((0 : Int) = 0 → H2.length = H1.length) ∧ hWt T0 H2) ∧ True) (f69 : n29 ≤ 10999) (f70 : (-10999) ≤ n29) (f71 : (hLe T0 H2 H3 ∧ hFr s_271.2.2.2.2 H2 H3 ∧ ((0 : Int) = 0 → H3.length = H2.length) ∧ hWt T0 H3) ∧ True) (f72 : n29 ≤ n28) (f73 : n1 = n1) : preb_271 n5 n0 H3 := by
  have g4 := f16.2.1.1
  unfold Ab_300_39 at g4
  have g3 := f16.2.1.2
  unfold preb_300 at g3
  unfold preb_271
  have e0 : n9 = hV H1 285 82 := (by rw [f10] at f19; exact f19 : n9 = hV H1 285 82)
  have e1 : n12 = hV H1 344 (n1).toNat := (by rw [f23] at f27; exact f27 : n12 = hV H1 344 (n1).toNat)
  have e2 : hV H1 298 = hV H0 298 := fRow f16.1.2.1 298 (by decide +kernel)
  have e3 : n13 = hV H0 298 (n12).toNat := (by rw [f21] at f30; exact f30 : n13 = hV H1 298 (n12).toNat).trans ((congrFun e2 _))
  have e4 : n17 = hV H1 344 (n0).toNat := (by rw [f35] at f39; exact f39 : n17 = hV H1 344 (n0).toNat)
  have e5 : n18 = hV H0 298 (n17).toNat := (by rw [f33] at f42; exact f42 : n18 = hV H1 298 (n17).toNat).trans ((congrFun e2 _))
  have e6 : n22 = hV H1 344 (n1).toNat := (by rw [f47] at f51; exact f51 : n22 = hV H1 344 (n1).toNat)
  have e7 : hV H1 300 = hV H0 300 := fRow f16.1.2.1 300 (by decide +kernel)
  have e8 : n23 = hV H0 300 (n22).toNat := (by rw [f45] at f54; exact f54 : n23 = hV H1 300 (n22).toNat).trans ((congrFun e7 _))
  have e9 : n26 = hV H1 344 (n0).toNat := (by rw [f57] at f61; exact f61 : n26 = hV H1 344 (n0).toNat)
  have e10 : n27 = hV H0 300 (n26).toNat := (by rw [f55] at f64; exact f64 : n27 = hV H1 300 (n26).toNat).trans ((congrFun e7 _))
  have e11 : hV H1 301 = hV H0 301 := fRow f16.1.2.1 301 (by decide +kernel)
  have e12 : hV H1 302 = hV H0 302 := fRow f16.1.2.1 302 (by decide +kernel)
  have e13 : hV H1 303 = hV H0 303 := fRow f16.1.2.1 303 (by decide +kernel)
  have e14 : hV H1 305 = hV H0 305 := fRow f16.1.2.1 305 (by decide +kernel)
  have e15 : hV H3 285 82 = hV H2 285 82 := f71.1.2.1.1 285 82 (by decide +kernel)
  have e16 : hV H2 285 82 = hV H1 285 82 := f68.1.2.1.1 285 82 (by decide +kernel)
  have e17 : hV H3 285 82 = hV H1 285 82 := (e15).trans e16
  have e18 : hV H3 298 = hV H2 298 := fRow f71.1.2.1 298 (by decide +kernel)
  have e19 : hV H2 298 = hV H1 298 := fRow f68.1.2.1 298 (by decide +kernel)
  have e20 : hV H2 298 = hV H0 298 := e19.trans e2
  have e21 : hV H3 298 = hV H0 298 := e18.trans e20
  have e22 : hV H3 300 = hV H2 300 := fRow f71.1.2.1 300 (by decide +kernel)
  have e23 : hV H2 300 = hV H1 300 := fRow f68.1.2.1 300 (by decide +kernel)
  have e24 : hV H2 300 = hV H0 300 := e23.trans e7
  have e25 : hV H3 300 = hV H0 300 := e22.trans e24
  have e26 : hV H3 301 = hV H2 301 := fRow f71.1.2.1 301 (by decide +kernel)
  have e27 : hV H2 301 = hV H1 301 := fRow f68.1.2.1 301 (by decide +kernel)
  have e28 : hV H2 301 = hV H0 301 := e27.trans e11
  have e29 : hV H3 301 = hV H0 301 := e26.trans e28
  have e30 : hV H3 302 = hV H2 302 := fRow f71.1.2.1 302 (by decide +kernel)
  have e31 : hV H2 302 = hV H1 302 := fRow f68.1.2.1 302 (by decide +kernel)
  have e32 : hV H2 302 = hV H0 302 := e31.trans e12
  have e33 : hV H3 302 = hV H0 302 := e30.trans e32
  have e34 : hV H3 303 = hV H2 303 := fRow f71.1.2.1 303 (by decide +kernel)
  have e35 : hV H2 303 = hV H1 303 := fRow f68.1.2.1 303 (by decide +kernel)
  have e36 : hV H2 303 = hV H0 303 := e35.trans e13
  have e37 : hV H3 303 = hV H0 303 := e34.trans e36
  have e38 : hV H3 305 = hV H2 305 := fRow f71.1.2.1 305 (by decide +kernel)
  have e39 : hV H2 305 = hV H1 305 := fRow f68.1.2.1 305 (by decide +kernel)
  have e40 : hV H2 305 = hV H0 305 := e39.trans e14
  have e41 : hV H3 305 = hV H0 305 := e38.trans e40
  have e42 : hV H3 344 = hV H2 344 := fRow f71.1.2.1 344 (by decide +kernel)
  have e43 : hV H2 344 = hV H1 344 := fRow f68.1.2.1 344 (by decide +kernel)
  have e44 : hV H3 344 = hV H1 344 := e42.trans e43
  have e45 : (0 : Int) ≤ hV H1 285 82 ∧ hV H1 285 82 ≤ 40 := f16.1.2.2 285 82 _ _ (by decide +kernel)
  have e46 : (0 : Int) ≤ hV H3 285 82 ∧ hV H3 285 82 ≤ 40 := f71.1.2.2.2 285 82 _ _ (by decide +kernel)
  try simp only [XQ] at *
  try simp only [e2, e7, e11, e12, e13, e14, e17, e21, e25, e29, e33, e37, e41, e44] at f16
  try simp only [e2, e7, e11, e12, e13, e14, e17, e21, e25, e29, e33, e37, e41, e44] at e45
  try simp only [e2, e7, e11, e12, e13, e14, e17, e21, e25, e29, e33, e37, e41, e44] at e46
  try simp only [e2, e7, e11, e12, e13, e14, e17, e21, e25, e29, e33, e37, e41, e44] at g3
  try simp only [e2, e7, e11, e12, e13, e14, e17, e21, e25, e29, e33, e37, e41, e44] at g4
  try simp only [e2, e7, e11, e12, e13, e14, e17, e21, e25, e29, e33, e37, e41, e44]
  have k0 := g4.1
  have k1 := g4.2.1
  have y0 := g4.2.2.1
  have y1 := g4.2.2.2
  have p0 := g3
  try simp only [e2, e7, e11, e12, e13, e14, e17, e21, e25, e29, e33, e37, e41, e44] at k0
  try simp only [e2, e7, e11, e12, e13, e14, e17, e21, e25, e29, e33, e37, e41, e44] at k1
  try simp only [e2, e7, e11, e12, e13, e14, e17, e21, e25, e29, e33, e37, e41, e44] at y0
  try simp only [e2, e7, e11, e12, e13, e14, e17, e21, e25, e29, e33, e37, e41, e44] at y1
  try simp only [e2, e7, e11, e12, e13, e14, e17, e21, e25, e29, e33, e37, e41, e44] at p0
  clear g3
  clear g4
  clear f19 f22 f24 f27 f30 f34 f36 f39 f42 f46 f48 f51 f54 f56 f58 f61 f64 e2 e7 e11 e12 e13 e14 e15 e16 e17 e18 e19 e20 e21 e22 e23 e24 e25 e26 e27 e28 e29 e30 e31 e32 e33 e34 e35 e36 e37 e38 e39 e40 e41 e42 e43 e44
  subst e0
  subst e1
  subst e3
  subst e4
  subst e5
  subst e6
  subst e8
  subst e9
  subst e10
  try subst k1
  try subst k0
  refine ⟨?_, ?_, ?_⟩ <;> first | assumption | omega | trivial
theorem c_300_39_23 {q0 : Nat} : vOkm T0 (eP e_300 L_300 A_300 mu_300 (some q0)) 3 ([(40, [7, 7], [], 0), (43, [28, 29], [], 0), (1271, [29, 3, 7], [2, 3], 0), (90, [29], [], -10999), (91, [29], [], 10999), (1271, [28, 3, 8], [1, 2], 0), (90, [28], [], -10999), (91, [28], [], 10999), (40, [23, 27], [], 0), (22, [27, 24, 26], [1], 0), (90, [27], [], -1), (91, [27], [], 9999), (22, [26, 25, 8], [1], 0), (90, [26], [], 0), (91, [26], [], 1007), (20, [25, 3], [1], 83), (0, [25], [], 344), (20, [24, 3], [1], 26), (0, [24], [], 300), (22, [23, 20, 22], [1], 0), (90, [23], [], -1), (91, [23], [], 9999), (22, [22, 21, 7], [1], 0), (90, [22], [], 0), (91, [22], [], 1007), (20, [21, 3], [1], 83), (0, [21], [], 344), (20, [20, 3], [1], 26), (0, [20], [], 300), (40, [18, 19], [], 0), (0, [19], [], 1), (22, [18, 15, 17], [1], 0), (90, [18], [], 0), (91, [18], [], 5), (22, [17, 16, 8], [1], 0), (90, [17], [], 0), (91, [17], [], 1007), (20, [16, 3], [1], 83), (0, [16], [], 344), (20, [15, 3], [1], 24), (0, [15], [], 298), (40, [13, 14], [], 0), (0, [14], [], 1), (22, [13, 10, 12], [1], 0), (90, [13], [], 0), (91, [13], [], 5), (22, [12, 11, 7], [1], 0), (90, [12], [], 0), (91, [12], [], 1007), (20, [11, 3], [1], 83), (0, [11], [], 344), (20, [10, 3], [1], 24), (0, [10], [], 298), (42, [8, 9], [], 0), (20, [9, 3], [1], 82), (90, [9], [], 0), (91, [9], [], 40), (5000, [0, 1, 2, 3, 4, 5, 6, 7, 8], [0, 1], 39), (0, [0], [], 285), (90, [1], [], -2147483648), (91, [1], [], 2147483647), (90, [2], [], -2147483648), (91, [2], [], 2147483647), (0, [3], [], 285), (90, [4], [], -2147483648), (91, [4], [], 2147483647), (90, [5], [], -2147483648), (91, [5], [], 2147483647), (90, [6], [], -2147483648), (91, [6], [], 2147483647), (90, [7], [], 0), (91, [7], [], 39), (90, [8], [], 0), (91, [8], [], 40)], (2271, [3, 8], [3], 0)) := vOk_in fun ρ η h => by
  obtain ⟨f0, f1, f2, f3, f4, f5, f6, f7, f8, f9, f10, f11, f12, f13, f14, f15, f16, f17, f18, f19, f20, f21, f22, f23, f24, f25, f26, f27, f28, f29, f30, f31, f32, f33, f34, f35, f36, f37, f38, f39, f40, f41, f42, f43, f44, f45, f46, f47, f48, f49, f50, f51, f52, f53, f54, f55, f56, f57, f58, f59, f60, f61, f62, f63, f64, f65, f66, f67, f68, f69, f70, f71, f72, f73, _⟩ := h
  exact q_300_31 (q0 := q0) (n0 := ρ 8) (n1 := ρ 7) (n2 := ρ 6) (n3 := ρ 5) (n4 := ρ 4) (n5 := ρ 3) (n6 := ρ 2) (n7 := ρ 1) (n8 := ρ 0) (n9 := ρ 9) (n10 := ρ 10) (n11 := ρ 11) (n12 := ρ 12) (n13 := ρ 13) (n14 := ρ 14) (n15 := ρ 15) (n16 := ρ 16) (n17 := ρ 17) (n18 := ρ 18) (n19 := ρ 19) (n20 := ρ 20) (n21 := ρ 21) (n22 := ρ 22) (n23 := ρ 23) (n24 := ρ 24) (n25 := ρ 25) (n26 := ρ 26) (n27 := ρ 27) (n28 := ρ 28) (n29 := ρ 29) (H0 := η 0) (H1 := η 1) (H2 := η 2) (H3 := η 3) f73 f72 f71 f70 f69 f68 f67 f66 f65 f64 f63 f62 f61 f60 f59 f58 f57 f56 f55 f54 f53 f52 f51 f50 f49 f48 f47 f46 f45 f44 f43 f42 f41 f40 f39 f38 f37 f36 f35 f34 f33 f32 f31 f30 f29 f28 f27 f26 f25 f24 f23 f22 f21 f20 f19 f18 f17 f16 f15 f14 f13 f12 f11 f10 f9 f8 f7 f6 f5 f4 f3 f2 f1 f0
theorem q_300_32 {q0 : Nat} {n0 n1 n2 n3 n4 n5 n6 n7 n8 n9 n10 n11 n12 n13 n14 n15 n16 n17 n18 n19 n20 n21 n22 n23 n24 n25 n26 n27 n28 n29 n30 : Int} {H0 H1 H2 H3 H4 : gH} (f0 : n0 ≤ 40) (f1 : 0 ≤ n0) (f2 : n1 ≤ 39) (f3 : 0 ≤ n1) (f4 : n2 ≤ 2147483647) (f5 : (-2147483648) ≤ n2) (f6 : n3 ≤ 2147483647) (f7 : (-2147483648) ≤ n3) (f8 : n4 ≤ 2147483647) (f9 : (-2147483648) ≤ n4) (f10 : n5 = 285) (f11 : n6 ≤ 2147483647) (f12 : (-2147483648) ≤ n6) (f13 : n7 ≤ 2147483647) (f14 : (-2147483648) ≤ n7) (f15 : n8 = 285) (f16 : (hLe T0 H0 H1 ∧ hFr s_300.2.2.2.2 H0 H1 ∧ hWt T0 H1) ∧ (Ab_300_39 n8 n7 n6 n5 n4 n3 n2 n1 n0 H0 H1 ∧ preb_300 n8 n7 n6 H0) ∧ some q0 = some (mub_300_39 n8 n7 n6 n5 n4 n3 n2 n1 n0 H0 H1)) (f17 : n9 ≤ 40) (f18 : 0 ≤ n9) (f19 : n9 = hV H1 (n5).toNat 82) (f20 : n0 < n9) (f21 : n10 = 298) (f22 : n10 = hV H1 (n5).toNat 24) (f23 : n11 = 344) (f24 : n11 = hV H1 (n5).toNat 83) (f25 : n12 ≤ 1007) (f26 : 0 ≤ n12) (f27 : n12 = hV H1 (n11).toNat (n1).toNat) (f28 : n13 ≤ 5) (f29 : 0 ≤ n13) (f30 : n13 = hV H1 (n10).toNat (n12).toNat) (f31 : n14 = 1) (f32 : n13 = n14) (f33 : n15 = 298) (f34 : n15 = hV H1 (n5).toNat 24) (f35 : n16 = 344) (f36 : n16 = hV H1 (n5).toNat 83) (f37 : n17 ≤ 1007) (f38 : 0 ≤ n17) (f39 : n17 = hV H1 (n16).toNat (n0).toNat) (f40 : n18 ≤ 5) (f41 : 0 ≤ n18) (f42 : n18 = hV H1 (n15).toNat (n17).toNat) (f43 : n19 = 1) (f44 : n18 = n19) (f45 : n20 = 300) (f46 : n20 = hV H1 (n5).toNat 26) (f47 : n21 = 344) (f48 : n21 = hV H1 (n5).toNat 83) (f49 : n22 ≤ 1007) (f50 : 0 ≤ n22) (f51 : n22 = hV H1 (n21).toNat (n1).toNat) (f52 : n23 ≤ 9999) (f53 : (-1) ≤ n23) (f54 : n23 = hV H1 (n20).toNat (n22).toNat) (f55 : n24 = 300) (f56 : n24 = hV H1 (n5).toNat 26) (f57 : n25 = 344) (f58 : n25 = hV H1 (n5).toNat 83) (f59 : n26 ≤ 1007) (f60 : 0 ≤ n26) (f61 : n26 = hV H1 (n25).toNat (n0).toNat) (f62 : n27 ≤ 9999) (f63 : (-1) ≤ n27) (f64 : n27 = hV H1 (n24).toNat (n26).toNat) (f65 : n23 = n27) (f66 : n28 ≤ 10999) (f67 : (-10999) ≤ n28) (f68 : (hLe T0 H1 H2 ∧ hFr s_271.2.2.2.2 H1 H2 ∧ ((0 : Int) = 0 → H2.length = H1.length) ∧ hWt T0 H2) ∧ True) (f69 : n29 ≤ 10999) (f70 : (-10999) ≤ n29) (f71 : (hLe T0 H2 H3 ∧ hFr s_271.2.2.2.2 H2 H3 ∧ ((0 : Int) = 0 → H3.length = H2.length) ∧ hWt T0 H3) ∧ True) (f72 : n29 ≤ n28) (f73 : n1 = n1) (f74 : n30 ≤ 10999) (f75 : (-10999) ≤ n30) (f76 : (hLe T0 H3 H4 ∧ hFr s_271.2.2.2.2 H3 H4 ∧ ((0 : Int) = 0 → H4.length = H3.length) ∧ hWt T0 H4) ∧ True) : preb_272 n5 n1 H4 := by
  have g4 := f16.2.1.1
  unfold Ab_300_39 at g4
  have g3 := f16.2.1.2
  unfold preb_300 at g3
  unfold preb_272
  have e0 : n9 = hV H1 285 82 := (by rw [f10] at f19; exact f19 : n9 = hV H1 285 82)
  have e1 : n12 = hV H1 344 (n1).toNat := (by rw [f23] at f27; exact f27 : n12 = hV H1 344 (n1).toNat)
  have e2 : hV H1 298 = hV H0 298 := fRow f16.1.2.1 298 (by decide +kernel)
  have e3 : n13 = hV H0 298 (n12).toNat := (by rw [f21] at f30; exact f30 : n13 = hV H1 298 (n12).toNat).trans ((congrFun e2 _))
  have e4 : n17 = hV H1 344 (n0).toNat := (by rw [f35] at f39; exact f39 : n17 = hV H1 344 (n0).toNat)
  have e5 : n18 = hV H0 298 (n17).toNat := (by rw [f33] at f42; exact f42 : n18 = hV H1 298 (n17).toNat).trans ((congrFun e2 _))
  have e6 : n22 = hV H1 344 (n1).toNat := (by rw [f47] at f51; exact f51 : n22 = hV H1 344 (n1).toNat)
  have e7 : hV H1 300 = hV H0 300 := fRow f16.1.2.1 300 (by decide +kernel)
  have e8 : n23 = hV H0 300 (n22).toNat := (by rw [f45] at f54; exact f54 : n23 = hV H1 300 (n22).toNat).trans ((congrFun e7 _))
  have e9 : n26 = hV H1 344 (n0).toNat := (by rw [f57] at f61; exact f61 : n26 = hV H1 344 (n0).toNat)
  have e10 : n27 = hV H0 300 (n26).toNat := (by rw [f55] at f64; exact f64 : n27 = hV H1 300 (n26).toNat).trans ((congrFun e7 _))
  have e11 : hV H1 301 = hV H0 301 := fRow f16.1.2.1 301 (by decide +kernel)
  have e12 : hV H1 302 = hV H0 302 := fRow f16.1.2.1 302 (by decide +kernel)
  have e13 : hV H1 303 = hV H0 303 := fRow f16.1.2.1 303 (by decide +kernel)
  have e14 : hV H1 305 = hV H0 305 := fRow f16.1.2.1 305 (by decide +kernel)
  have e15 : hV H4 285 82 = hV H3 285 82 := f76.1.2.1.1 285 82 (by decide +kernel)
  have e16 : hV H3 285 82 = hV H2 285 82 := f71.1.2.1.1 285 82 (by decide +kernel)
  have e17 : hV H2 285 82 = hV H1 285 82 := f68.1.2.1.1 285 82 (by decide +kernel)
  have e18 : hV H4 285 82 = hV H1 285 82 := (e15).trans ((e16).trans e17)
  have e19 : hV H4 298 = hV H3 298 := fRow f76.1.2.1 298 (by decide +kernel)
  have e20 : hV H3 298 = hV H2 298 := fRow f71.1.2.1 298 (by decide +kernel)
  have e21 : hV H2 298 = hV H1 298 := fRow f68.1.2.1 298 (by decide +kernel)
  have e22 : hV H2 298 = hV H0 298 := e21.trans e2
  have e23 : hV H3 298 = hV H0 298 := e20.trans e22
  have e24 : hV H4 298 = hV H0 298 := e19.trans e23
  have e25 : hV H4 300 = hV H3 300 := fRow f76.1.2.1 300 (by decide +kernel)
  have e26 : hV H3 300 = hV H2 300 := fRow f71.1.2.1 300 (by decide +kernel)
  have e27 : hV H2 300 = hV H1 300 := fRow f68.1.2.1 300 (by decide +kernel)
  have e28 : hV H2 300 = hV H0 300 := e27.trans e7
  have e29 : hV H3 300 = hV H0 300 := e26.trans e28
  have e30 : hV H4 300 = hV H0 300 := e25.trans e29
  have e31 : hV H4 301 = hV H3 301 := fRow f76.1.2.1 301 (by decide +kernel)
  have e32 : hV H3 301 = hV H2 301 := fRow f71.1.2.1 301 (by decide +kernel)
  have e33 : hV H2 301 = hV H1 301 := fRow f68.1.2.1 301 (by decide +kernel)
  have e34 : hV H2 301 = hV H0 301 := e33.trans e11
  have e35 : hV H3 301 = hV H0 301 := e32.trans e34
  have e36 : hV H4 301 = hV H0 301 := e31.trans e35
  have e37 : hV H4 302 = hV H3 302 := fRow f76.1.2.1 302 (by decide +kernel)
  have e38 : hV H3 302 = hV H2 302 := fRow f71.1.2.1 302 (by decide +kernel)
  have e39 : hV H2 302 = hV H1 302 := fRow f68.1.2.1 302 (by decide +kernel)
  have e40 : hV H2 302 = hV H0 302 := e39.trans e12
  have e41 : hV H3 302 = hV H0 302 := e38.trans e40
  have e42 : hV H4 302 = hV H0 302 := e37.trans e41
  have e43 : hV H4 303 = hV H3 303 := fRow f76.1.2.1 303 (by decide +kernel)
  have e44 : hV H3 303 = hV H2 303 := fRow f71.1.2.1 303 (by decide +kernel)
  have e45 : hV H2 303 = hV H1 303 := fRow f68.1.2.1 303 (by decide +kernel)
  have e46 : hV H2 303 = hV H0 303 := e45.trans e13
  have e47 : hV H3 303 = hV H0 303 := e44.trans e46
  have e48 : hV H4 303 = hV H0 303 := e43.trans e47
  have e49 : hV H4 305 = hV H3 305 := fRow f76.1.2.1 305 (by decide +kernel)
  have e50 : hV H3 305 = hV H2 305 := fRow f71.1.2.1 305 (by decide +kernel)
  have e51 : hV H2 305 = hV H1 305 := fRow f68.1.2.1 305 (by decide +kernel)
  have e52 : hV H2 305 = hV H0 305 := e51.trans e14
  have e53 : hV H3 305 = hV H0 305 := e50.trans e52
  have e54 : hV H4 305 = hV H0 305 := e49.trans e53
  have e55 : hV H4 344 = hV H3 344 := fRow f76.1.2.1 344 (by decide +kernel)
  have e56 : hV H3 344 = hV H2 344 := fRow f71.1.2.1 344 (by decide +kernel)
  have e57 : hV H2 344 = hV H1 344 := fRow f68.1.2.1 344 (by decide +kernel)
  have e58 : hV H3 344 = hV H1 344 := e56.trans e57
  have e59 : hV H4 344 = hV H1 344 := e55.trans e58
  have e60 : (0 : Int) ≤ hV H1 285 82 ∧ hV H1 285 82 ≤ 40 := f16.1.2.2 285 82 _ _ (by decide +kernel)
  have e61 : (0 : Int) ≤ hV H4 285 82 ∧ hV H4 285 82 ≤ 40 := f76.1.2.2.2 285 82 _ _ (by decide +kernel)
  try simp only [XQ] at *
  try simp only [e2, e7, e11, e12, e13, e14, e18, e24, e30, e36, e42, e48, e54, e59] at f16
  try simp only [e2, e7, e11, e12, e13, e14, e18, e24, e30, e36, e42, e48, e54, e59] at e60
  try simp only [e2, e7, e11, e12, e13, e14, e18, e24, e30, e36, e42, e48, e54, e59] at e61
  try simp only [e2, e7, e11, e12, e13, e14, e18, e24, e30, e36, e42, e48, e54, e59] at g3
  try simp only [e2, e7, e11, e12, e13, e14, e18, e24, e30, e36, e42, e48, e54, e59] at g4
  try simp only [e2, e7, e11, e12, e13, e14, e18, e24, e30, e36, e42, e48, e54, e59]
  have k0 := g4.1
  have k1 := g4.2.1
  have y0 := g4.2.2.1
  have y1 := g4.2.2.2
  have p0 := g3
  try simp only [e2, e7, e11, e12, e13, e14, e18, e24, e30, e36, e42, e48, e54, e59] at k0
  try simp only [e2, e7, e11, e12, e13, e14, e18, e24, e30, e36, e42, e48, e54, e59] at k1
  try simp only [e2, e7, e11, e12, e13, e14, e18, e24, e30, e36, e42, e48, e54, e59] at y0
  try simp only [e2, e7, e11, e12, e13, e14, e18, e24, e30, e36, e42, e48, e54, e59] at y1
  try simp only [e2, e7, e11, e12, e13, e14, e18, e24, e30, e36, e42, e48, e54, e59] at p0
  clear g3
  clear g4
  clear f19 f22 f24 f27 f30 f34 f36 f39 f42 f46 f48 f51 f54 f56 f58 f61 f64 e2 e7 e11 e12 e13 e14 e15 e16 e17 e18 e19 e20 e21 e22 e23 e24 e25 e26 e27 e28 e29 e30 e31 e32 e33 e34 e35 e36 e37 e38 e39 e40 e41 e42 e43 e44 e45 e46 e47 e48 e49 e50 e51 e52 e53 e54 e55 e56 e57 e58 e59
  subst e0
  subst e1
  subst e3
  subst e4
  subst e5
  subst e6
  subst e8
  subst e9
  subst e10
  try subst k1
  try subst k0
  refine ⟨?_, ?_, ?_⟩ <;> first | assumption | omega | trivial
theorem c_300_39_24 {q0 : Nat} : vOkm T0 (eP e_300 L_300 A_300 mu_300 (some q0)) 3 ([(1271, [30, 3, 8], [3, 4], 0), (90, [30], [], -10999), (91, [30], [], 10999), (40, [7, 7], [], 0), (43, [28, 29], [], 0), (1271, [29, 3, 7], [2, 3], 0), (90, [29], [], -10999), (91, [29], [], 10999), (1271, [28, 3, 8], [1, 2], 0), (90, [28], [], -10999), (91, [28], [], 10999), (40, [23, 27], [], 0), (22, [27, 24, 26], [1], 0), (90, [27], [], -1), (91, [27], [], 9999), (22, [26, 25, 8], [1], 0), (90, [26], [], 0), (91, [26], [], 1007), (20, [25, 3], [1], 83), (0, [25], [], 344), (20, [24, 3], [1], 26), (0, [24], [], 300), (22, [23, 20, 22], [1], 0), (90, [23], [], -1), (91, [23], [], 9999), (22, [22, 21, 7], [1], 0), (90, [22], [], 0), (91, [22], [], 1007), (20, [21, 3], [1], 83), (0, [21], [], 344), (20, [20, 3], [1], 26), (0, [20], [], 300), (40, [18, 19], [], 0), (0, [19], [], 1), (22, [18, 15, 17], [1], 0), (90, [18], [], 0), (91, [18], [], 5), (22, [17, 16, 8], [1], 0), (90, [17], [], 0), (91, [17], [], 1007), (20, [16, 3], [1], 83), (0, [16], [], 344), (20, [15, 3], [1], 24), (0, [15], [], 298), (40, [13, 14], [], 0), (0, [14], [], 1), (22, [13, 10, 12], [1], 0), (90, [13], [], 0), (91, [13], [], 5), (22, [12, 11, 7], [1], 0), (90, [12], [], 0), (91, [12], [], 1007), (20, [11, 3], [1], 83), (0, [11], [], 344), (20, [10, 3], [1], 24), (0, [10], [], 298), (42, [8, 9], [], 0), (20, [9, 3], [1], 82), (90, [9], [], 0), (91, [9], [], 40), (5000, [0, 1, 2, 3, 4, 5, 6, 7, 8], [0, 1], 39), (0, [0], [], 285), (90, [1], [], -2147483648), (91, [1], [], 2147483647), (90, [2], [], -2147483648), (91, [2], [], 2147483647), (0, [3], [], 285), (90, [4], [], -2147483648), (91, [4], [], 2147483647), (90, [5], [], -2147483648), (91, [5], [], 2147483647), (90, [6], [], -2147483648), (91, [6], [], 2147483647), (90, [7], [], 0), (91, [7], [], 39), (90, [8], [], 0), (91, [8], [], 40)], (2272, [3, 7], [4], 0)) := vOk_in fun ρ η h => by
  obtain ⟨f0, f1, f2, f3, f4, f5, f6, f7, f8, f9, f10, f11, f12, f13, f14, f15, f16, f17, f18, f19, f20, f21, f22, f23, f24, f25, f26, f27, f28, f29, f30, f31, f32, f33, f34, f35, f36, f37, f38, f39, f40, f41, f42, f43, f44, f45, f46, f47, f48, f49, f50, f51, f52, f53, f54, f55, f56, f57, f58, f59, f60, f61, f62, f63, f64, f65, f66, f67, f68, f69, f70, f71, f72, f73, f74, f75, f76, _⟩ := h
  exact q_300_32 (q0 := q0) (n0 := ρ 8) (n1 := ρ 7) (n2 := ρ 6) (n3 := ρ 5) (n4 := ρ 4) (n5 := ρ 3) (n6 := ρ 2) (n7 := ρ 1) (n8 := ρ 0) (n9 := ρ 9) (n10 := ρ 10) (n11 := ρ 11) (n12 := ρ 12) (n13 := ρ 13) (n14 := ρ 14) (n15 := ρ 15) (n16 := ρ 16) (n17 := ρ 17) (n18 := ρ 18) (n19 := ρ 19) (n20 := ρ 20) (n21 := ρ 21) (n22 := ρ 22) (n23 := ρ 23) (n24 := ρ 24) (n25 := ρ 25) (n26 := ρ 26) (n27 := ρ 27) (n28 := ρ 28) (n29 := ρ 29) (n30 := ρ 30) (H0 := η 0) (H1 := η 1) (H2 := η 2) (H3 := η 3) (H4 := η 4) f76 f75 f74 f73 f72 f71 f70 f69 f68 f67 f66 f65 f64 f63 f62 f61 f60 f59 f58 f57 f56 f55 f54 f53 f52 f51 f50 f49 f48 f47 f46 f45 f44 f43 f42 f41 f40 f39 f38 f37 f36 f35 f34 f33 f32 f31 f30 f29 f28 f27 f26 f25 f24 f23 f22 f21 f20 f19 f18 f17 f16 f15 f14 f13 f12 f11 f10 f9 f8 f7 f6 f5 f4 f3 f2 f1 f0
theorem q_300_33 {q0 : Nat} {n0 n1 n2 n3 n4 n5 n6 n7 n8 n9 n10 n11 n12 n13 n14 n15 n16 n17 n18 n19 n20 n21 n22 n23 n24 n25 n26 n27 n28 n29 : Int} {H0 H1 : gH} (f0 : n0 ≤ 40) (f1 : 0 ≤ n0) (f2 : n1 ≤ 39) (f3 : 0 ≤ n1) (f4 : n2 ≤ 2147483647) (f5 : (-2147483648) ≤ n2) (f6 : n3 ≤ 2147483647) (f7 : (-2147483648) ≤ n3) (f8 : n4 ≤ 2147483647) (f9 : (-2147483648) ≤ n4) (f10 : n5 = 285) (f11 : n6 ≤ 2147483647) (f12 : (-2147483648) ≤ n6) (f13 : n7 ≤ 2147483647) (f14 : (-2147483648) ≤ n7) (f15 : n8 = 285) (f16 : (hLe T0 H0 H1 ∧ hFr s_300.2.2.2.2 H0 H1 ∧ hWt T0 H1) ∧ (Ab_300_39 n8 n7 n6 n5 n4 n3 n2 n1 n0 H0 H1 ∧ preb_300 n8 n7 n6 H0) ∧ some q0 = some (mub_300_39 n8 n7 n6 n5 n4 n3 n2 n1 n0 H0 H1)) (f17 : n9 ≤ 40) (f18 : 0 ≤ n9) (f19 : n9 = hV H1 (n5).toNat 82) (f20 : n0 < n9) (f21 : n10 = 298) (f22 : n10 = hV H1 (n5).toNat 24) (f23 : n11 = 344) (f24 : n11 = hV H1 (n5).toNat 83) (f25 : n12 ≤ 1007) (f26 : 0 ≤ n12) (f27 : n12 = hV H1 (n11).toNat (n1).toNat) (f28 : n13 ≤ 5) (f29 : 0 ≤ n13) (f30 : n13 = hV H1 (n10).toNat (n12).toNat) (f31 : n14 = 1) (f32 : n13 = n14) (f33 : n15 = 298) (f34 : n15 = hV H1 (n5).toNat 24) (f35 : n16 = 344) (f36 : n16 = hV H1 (n5).toNat 83) (f37 : n17 ≤ 1007) (f38 : 0 ≤ n17) (f39 : n17 = hV H1 (n16).toNat (n0).toNat) (f40 : n18 ≤ 5) (f41 : 0 ≤ n18) (f42 : n18 = hV H1 (n15).toNat (n17).toNat) (f43 : n19 = 1) (f44 : n18 = n19) (f45 : n20 = 300) (f46 : n20 = hV H1 (n5).toNat 26) (f47 : n21 = 344) (f48 : n21 = hV H1 (n5).toNat 83) (f49 : n22 ≤ 1007) (f50 : 0 ≤ n22) (f51 : n22 = hV H1 (n21).toNat (n1).toNat) (f52 : n23 ≤ 9999) (f53 : (-1) ≤ n23) (f54 : n23 = hV H1 (n20).toNat (n22).toNat) (f55 : n24 = 300) (f56 : n24 = hV H1 (n5).toNat 26) (f57 : n25 = 344) (f58 : n25 = hV H1 (n5).toNat 83) (f59 : n26 ≤ 1007) (f60 : 0 ≤ n26) (f61 : n26 = hV H1 (n25).toNat (n0).toNat) (f62 : n27 ≤ 9999) (f63 : (-1) ≤ n27) (f64 : n27 = hV H1 (n24).toNat (n26).toNat) (f65 : n23 = n27) (f66 : n1 = n1) (f67 : n2 ≠ 0) (f68 : n28 = w32 (n2 + (-1))) (f69 : n29 = w32 (n0 + 1)) : 0 ≤ n29 := by
  have g4 := f16.2.1.1
  unfold Ab_300_39 at g4
  have g3 := f16.2.1.2
  unfold preb_300 at g3
  have e0 : n9 = hV H1 285 82 := (by rw [f10] at f19; exact f19 : n9 = hV H1 285 82)
  have e1 : n12 = hV H1 344 (n1).toNat := (by rw [f23] at f27; exact f27 : n12 = hV H1 344 (n1).toNat)
  have e2 : hV H1 298 = hV H0 298 := fRow f16.1.2.1 298 (by decide +kernel)
  have e3 : n13 = hV H0 298 (n12).toNat := (by rw [f21] at f30; exact f30 : n13 = hV H1 298 (n12).toNat).trans ((congrFun e2 _))
  have e4 : n17 = hV H1 344 (n0).toNat := (by rw [f35] at f39; exact f39 : n17 = hV H1 344 (n0).toNat)
  have e5 : n18 = hV H0 298 (n17).toNat := (by rw [f33] at f42; exact f42 : n18 = hV H1 298 (n17).toNat).trans ((congrFun e2 _))
  have e6 : n22 = hV H1 344 (n1).toNat := (by rw [f47] at f51; exact f51 : n22 = hV H1 344 (n1).toNat)
  have e7 : hV H1 300 = hV H0 300 := fRow f16.1.2.1 300 (by decide +kernel)
  have e8 : n23 = hV H0 300 (n22).toNat := (by rw [f45] at f54; exact f54 : n23 = hV H1 300 (n22).toNat).trans ((congrFun e7 _))
  have e9 : n26 = hV H1 344 (n0).toNat := (by rw [f57] at f61; exact f61 : n26 = hV H1 344 (n0).toNat)
  have e10 : n27 = hV H0 300 (n26).toNat := (by rw [f55] at f64; exact f64 : n27 = hV H1 300 (n26).toNat).trans ((congrFun e7 _))
  have e11 : hV H1 301 = hV H0 301 := fRow f16.1.2.1 301 (by decide +kernel)
  have e12 : hV H1 302 = hV H0 302 := fRow f16.1.2.1 302 (by decide +kernel)
  have e13 : hV H1 303 = hV H0 303 := fRow f16.1.2.1 303 (by decide +kernel)
  have e14 : hV H1 305 = hV H0 305 := fRow f16.1.2.1 305 (by decide +kernel)
  have e15 : (0 : Int) ≤ hV H1 285 82 ∧ hV H1 285 82 ≤ 40 := f16.1.2.2 285 82 _ _ (by decide +kernel)
  try simp only [XQ] at *
  try simp only [e2, e7, e11, e12, e13, e14] at f16
  try simp only [e2, e7, e11, e12, e13, e14] at e15
  try simp only [e2, e7, e11, e12, e13, e14] at g3
  try simp only [e2, e7, e11, e12, e13, e14] at g4
  try simp only [e2, e7, e11, e12, e13, e14]
  have k0 := g4.1
  have k1 := g4.2.1
  have y0 := g4.2.2.1
  have y1 := g4.2.2.2
  have p0 := g3
  try simp only [e2, e7, e11, e12, e13, e14] at k0
  try simp only [e2, e7, e11, e12, e13, e14] at k1
  try simp only [e2, e7, e11, e12, e13, e14] at y0
  try simp only [e2, e7, e11, e12, e13, e14] at y1
  try simp only [e2, e7, e11, e12, e13, e14] at p0
  clear g3
  clear g4
  clear f19 f22 f24 f27 f30 f34 f36 f39 f42 f46 f48 f51 f54 f56 f58 f61 f64 e2 e7 e11 e12 e13 e14
  subst e0
  subst e1
  subst e3
  subst e4
  subst e5
  subst e6
  subst e8
  subst e9
  subst e10
  unfold w32 at *
  try (have ix0 : n29 = n0 + 1 := (by omega); subst ix0)
  try subst k1
  try subst k0
  omega
theorem c_300_39_25 {q0 : Nat} : vOkm T0 (eP e_300 L_300 A_300 mu_300 (some q0)) 3 ([(10, [33, 8], [], 1), (10, [32, 6], [], -1), (31, [6], [], 0), (40, [7, 7], [], 0), (40, [23, 27], [], 0), (22, [27, 24, 26], [1], 0), (90, [27], [], -1), (91, [27], [], 9999), (22, [26, 25, 8], [1], 0), (90, [26], [], 0), (91, [26], [], 1007), (20, [25, 3], [1], 83), (0, [25], [], 344), (20, [24, 3], [1], 26), (0, [24], [], 300), (22, [23, 20, 22], [1], 0), (90, [23], [], -1), (91, [23], [], 9999), (22, [22, 21, 7], [1], 0), (90, [22], [], 0), (91, [22], [], 1007), (20, [21, 3], [1], 83), (0, [21], [], 344), (20, [20, 3], [1], 26), (0, [20], [], 300), (40, [18, 19], [], 0), (0, [19], [], 1), (22, [18, 15, 17], [1], 0), (90, [18], [], 0), (91, [18], [], 5), (22, [17, 16, 8], [1], 0), (90, [17], [], 0), (91, [17], [], 1007), (20, [16, 3], [1], 83), (0, [16], [], 344), (20, [15, 3], [1], 24), (0, [15], [], 298), (40, [13, 14], [], 0), (0, [14], [], 1), (22, [13, 10, 12], [1], 0), (90, [13], [], 0), (91, [13], [], 5), (22, [12, 11, 7], [1], 0), (90, [12], [], 0), (91, [12], [], 1007), (20, [11, 3], [1], 83), (0, [11], [], 344), (20, [10, 3], [1], 24), (0, [10], [], 298), (42, [8, 9], [], 0), (20, [9, 3], [1], 82), (90, [9], [], 0), (91, [9], [], 40), (5000, [0, 1, 2, 3, 4, 5, 6, 7, 8], [0, 1], 39), (0, [0], [], 285), (90, [1], [], -2147483648), (91, [1], [], 2147483647), (90, [2], [], -2147483648), (91, [2], [], 2147483647), (0, [3], [], 285), (90, [4], [], -2147483648), (91, [4], [], 2147483647), (90, [5], [], -2147483648), (91, [5], [], 2147483647), (90, [6], [], -2147483648), (91, [6], [], 2147483647), (90, [7], [], 0), (91, [7], [], 39), (90, [8], [], 0), (91, [8], [], 40)], (90, [33], [], 0)) := vOk_in fun ρ η h => by
  obtain ⟨f0, f1, f2, f3, f4, f5, f6, f7, f8, f9, f10, f11, f12, f13, f14, f15, f16, f17, f18, f19, f20, f21, f22, f23, f24, f25, f26, f27, f28, f29, f30, f31, f32, f33, f34, f35, f36, f37, f38, f39, f40, f41, f42, f43, f44, f45, f46, f47, f48, f49, f50, f51, f52, f53, f54, f55, f56, f57, f58, f59, f60, f61, f62, f63, f64, f65, f66, f67, f68, f69, _⟩ := h
  exact q_300_33 (q0 := q0) (n0 := ρ 8) (n1 := ρ 7) (n2 := ρ 6) (n3 := ρ 5) (n4 := ρ 4) (n5 := ρ 3) (n6 := ρ 2) (n7 := ρ 1) (n8 := ρ 0) (n9 := ρ 9) (n10 := ρ 10) (n11 := ρ 11) (n12 := ρ 12) (n13 := ρ 13) (n14 := ρ 14) (n15 := ρ 15) (n16 := ρ 16) (n17 := ρ 17) (n18 := ρ 18) (n19 := ρ 19) (n20 := ρ 20) (n21 := ρ 21) (n22 := ρ 22) (n23 := ρ 23) (n24 := ρ 24) (n25 := ρ 25) (n26 := ρ 26) (n27 := ρ 27) (n28 := ρ 32) (n29 := ρ 33) (H0 := η 0) (H1 := η 1) f69 f68 f67 f66 f65 f64 f63 f62 f61 f60 f59 f58 f57 f56 f55 f54 f53 f52 f51 f50 f49 f48 f47 f46 f45 f44 f43 f42 f41 f40 f39 f38 f37 f36 f35 f34 f33 f32 f31 f30 f29 f28 f27 f26 f25 f24 f23 f22 f21 f20 f19 f18 f17 f16 f15 f14 f13 f12 f11 f10 f9 f8 f7 f6 f5 f4 f3 f2 f1 f0
theorem q_300_34 {q0 : Nat} {n0 n1 n2 n3 n4 n5 n6 n7 n8 n9 n10 n11 n12 n13 n14 n15 n16 n17 n18 n19 n20 n21 n22 n23 n24 n25 n26 n27 n28 n29 : Int} {H0 H1 : gH} (f0 : n0 ≤ 40) (f1 : 0 ≤ n0) (f2 : n1 ≤ 39) (f3 : 0 ≤ n1) (f4 : n2 ≤ 2147483647) (f5 : (-2147483648) ≤ n2) (f6 : n3 ≤ 2147483647) (f7 : (-2147483648) ≤ n3) (f8 : n4 ≤ 2147483647) (f9 : (-2147483648) ≤ n4) (f10 : n5 = 285) (f11 : n6 ≤ 2147483647) (f12 : (-2147483648) ≤ n6) (f13 : n7 ≤ 2147483647) (f14 : (-2147483648) ≤ n7) (f15 : n8 = 285) (f16 : (hLe T0 H0 H1 ∧ hFr s_300.2.2.2.2 H0 H1 ∧ hWt T0 H1) ∧ (Ab_300_39 n8 n7 n6 n5 n4 n3 n2 n1 n0 H0 H1 ∧ preb_300 n8 n7 n6 H0) ∧ some q0 = some (mub_300_39 n8 n7 n6 n5 n4 n3 n2 n1 n0 H0 H1)) (f17 : n9 ≤ 40) (f18 : 0 ≤ n9) (f19 : n9 = hV H1 (n5).toNat 82) (f20 : n0 < n9) (f21 : n10 = 298) (f22 : n10 = hV H1 (n5).toNat 24) (f23 : n11 = 344) (f24 : n11 = hV H1 (n5).toNat 83) (f25 : n12 ≤ 1007) (f26 : 0 ≤ n12) (f27 : n12 = hV H1 (n11).toNat (n1).toNat) (f28 : n13 ≤ 5) (f29 : 0 ≤ n13) (f30 : n13 = hV H1 (n10).toNat (n12).toNat) (f31 : n14 = 1) (f32 : n13 = n14) (f33 : n15 = 298) (f34 : n15 = hV H1 (n5).toNat 24) (f35 : n16 = 344) (f36 : n16 = hV H1 (n5).toNat 83) (f37 : n17 ≤ 1007) (f38 : 0 ≤ n17) (f39 : n17 = hV H1 (n16).toNat (n0).toNat) (f40 : n18 ≤ 5) (f41 : 0 ≤ n18) (f42 : n18 = hV H1 (n15).toNat (n17).toNat) (f43 : n19 = 1) (f44 : n18 = n19) (f45 : n20 = 300) (f46 : n20 = hV H1 (n5).toNat 26) (f47 : n21 = 344) (f48 : n21 = hV H1 (n5).toNat 83) (f49 : n22 ≤ 1007) (f50 : 0 ≤ n22) (f51 : n22 = hV H1 (n21).toNat (n1).toNat) (f52 : n23 ≤ 9999) (f53 : (-1) ≤ n23) (f54 : n23 = hV H1 (n20).toNat (n22).toNat) (f55 : n24 = 300) (f56 : n24 = hV H1 (n5).toNat 26) (f57 : n25 = 344) (f58 : n25 = hV H1 (n5).toNat 83) (f59 : n26 ≤ 1007) (f60 : 0 ≤ n26) (f61 : n26 = hV H1 (n25).toNat (n0).toNat) (f62 : n27 ≤ 9999) (f63 : (-1) ≤ n27) (f64 : n27 = hV H1 (n24).toNat (n26).toNat) (f65 : n23 = n27) (f66 : n1 = n1) (f67 : n2 ≠ 0) (f68 : n28 = w32 (n2 + (-1))) (f69 : n29 = w32 (n0 + 1)) : n29 ≤ 40 := by
  have g4 := f16.2.1.1
  unfold Ab_300_39 at g4
  have g3 := f16.2.1.2
  unfold preb_300 at g3
  have e0 : n9 = hV H1 285 82 := (by rw [f10] at f19; exact f19 : n9 = hV H1 285 82)
  have e1 : n12 = hV H1 344 (n1).toNat := (by rw [f23] at f27; exact f27 : n12 = hV H1 344 (n1).toNat)
  have e2 : hV H1 298 = hV H0 298 := fRow f16.1.2.1 298 (by decide +kernel)
  have e3 : n13 = hV H0 298 (n12).toNat := (by rw [f21] at f30; exact f30 : n13 = hV H1 298 (n12).toNat).trans ((congrFun e2 _))
  have e4 : n17 = hV H1 344 (n0).toNat := (by rw [f35] at f39; exact f39 : n17 = hV H1 344 (n0).toNat)
  have e5 : n18 = hV H0 298 (n17).toNat := (by rw [f33] at f42; exact f42 : n18 = hV H1 298 (n17).toNat).trans ((congrFun e2 _))
  have e6 : n22 = hV H1 344 (n1).toNat := (by rw [f47] at f51; exact f51 : n22 = hV H1 344 (n1).toNat)
  have e7 : hV H1 300 = hV H0 300 := fRow f16.1.2.1 300 (by decide +kernel)
  have e8 : n23 = hV H0 300 (n22).toNat := (by rw [f45] at f54; exact f54 : n23 = hV H1 300 (n22).toNat).trans ((congrFun e7 _))
  have e9 : n26 = hV H1 344 (n0).toNat := (by rw [f57] at f61; exact f61 : n26 = hV H1 344 (n0).toNat)
  have e10 : n27 = hV H0 300 (n26).toNat := (by rw [f55] at f64; exact f64 : n27 = hV H1 300 (n26).toNat).trans ((congrFun e7 _))
  have e11 : hV H1 301 = hV H0 301 := fRow f16.1.2.1 301 (by decide +kernel)
  have e12 : hV H1 302 = hV H0 302 := fRow f16.1.2.1 302 (by decide +kernel)
  have e13 : hV H1 303 = hV H0 303 := fRow f16.1.2.1 303 (by decide +kernel)
  have e14 : hV H1 305 = hV H0 305 := fRow f16.1.2.1 305 (by decide +kernel)
  have e15 : (0 : Int) ≤ hV H1 285 82 ∧ hV H1 285 82 ≤ 40 := f16.1.2.2 285 82 _ _ (by decide +kernel)
  try simp only [XQ] at *
  try simp only [e2, e7, e11, e12, e13, e14] at f16
  try simp only [e2, e7, e11, e12, e13, e14] at e15
  try simp only [e2, e7, e11, e12, e13, e14] at g3
  try simp only [e2, e7, e11, e12, e13, e14] at g4
  try simp only [e2, e7, e11, e12, e13, e14]
  have k0 := g4.1
  have k1 := g4.2.1
  have y0 := g4.2.2.1
  have y1 := g4.2.2.2
  have p0 := g3
  try simp only [e2, e7, e11, e12, e13, e14] at k0
  try simp only [e2, e7, e11, e12, e13, e14] at k1
  try simp only [e2, e7, e11, e12, e13, e14] at y0
  try simp only [e2, e7, e11, e12, e13, e14] at y1
  try simp only [e2, e7, e11, e12, e13, e14] at p0
  clear g3
  clear g4
  clear f19 f22 f24 f27 f30 f34 f36 f39 f42 f46 f48 f51 f54 f56 f58 f61 f64 e2 e7 e11 e12 e13 e14
  subst e0
  subst e1
  subst e3
  subst e4
  subst e5
  subst e6
  subst e8
  subst e9
  subst e10
  unfold w32 at *
  try (have ix0 : n29 = n0 + 1 := (by omega); subst ix0)
  try subst k1
  try subst k0
  omega
theorem c_300_39_26 {q0 : Nat} : vOkm T0 (eP e_300 L_300 A_300 mu_300 (some q0)) 3 ([(10, [33, 8], [], 1), (10, [32, 6], [], -1), (31, [6], [], 0), (40, [7, 7], [], 0), (40, [23, 27], [], 0), (22, [27, 24, 26], [1], 0), (90, [27], [], -1), (91, [27], [], 9999), (22, [26, 25, 8], [1], 0), (90, [26], [], 0), (91, [26], [], 1007), (20, [25, 3], [1], 83), (0, [25], [], 344), (20, [24, 3], [1], 26), (0, [24], [], 300), (22, [23, 20, 22], [1], 0), (90, [23], [], -1), (91, [23], [], 9999), (22, [22, 21, 7], [1], 0), (90, [22], [], 0), (91, [22], [], 1007), (20, [21, 3], [1], 83), (0, [21], [], 344), (20, [20, 3], [1], 26), (0, [20], [], 300), (40, [18, 19], [], 0), (0, [19], [], 1), (22, [18, 15, 17], [1], 0), (90, [18], [], 0), (91, [18], [], 5), (22, [17, 16, 8], [1], 0), (90, [17], [], 0), (91, [17], [], 1007), (20, [16, 3], [1], 83), (0, [16], [], 344), (20, [15, 3], [1], 24), (0, [15], [], 298), (40, [13, 14], [], 0), (0, [14], [], 1), (22, [13, 10, 12], [1], 0), (90, [13], [], 0), (91, [13], [], 5), (22, [12, 11, 7], [1], 0), (90, [12], [], 0), (91, [12], [], 1007), (20, [11, 3], [1], 83), (0, [11], [], 344), (20, [10, 3], [1], 24), (0, [10], [], 298), (42, [8, 9], [], 0), (20, [9, 3], [1], 82), (90, [9], [], 0), (91, [9], [], 40), (5000, [0, 1, 2, 3, 4, 5, 6, 7, 8], [0, 1], 39), (0, [0], [], 285), (90, [1], [], -2147483648), (91, [1], [], 2147483647), (90, [2], [], -2147483648), (91, [2], [], 2147483647), (0, [3], [], 285), (90, [4], [], -2147483648), (91, [4], [], 2147483647), (90, [5], [], -2147483648), (91, [5], [], 2147483647), (90, [6], [], -2147483648), (91, [6], [], 2147483647), (90, [7], [], 0), (91, [7], [], 39), (90, [8], [], 0), (91, [8], [], 40)], (91, [33], [], 40)) := vOk_in fun ρ η h => by
  obtain ⟨f0, f1, f2, f3, f4, f5, f6, f7, f8, f9, f10, f11, f12, f13, f14, f15, f16, f17, f18, f19, f20, f21, f22, f23, f24, f25, f26, f27, f28, f29, f30, f31, f32, f33, f34, f35, f36, f37, f38, f39, f40, f41, f42, f43, f44, f45, f46, f47, f48, f49, f50, f51, f52, f53, f54, f55, f56, f57, f58, f59, f60, f61, f62, f63, f64, f65, f66, f67, f68, f69, _⟩ := h
  exact q_300_34 (q0 := q0) (n0 := ρ 8) (n1 := ρ 7) (n2 := ρ 6) (n3 := ρ 5) (n4 := ρ 4) (n5 := ρ 3) (n6 := ρ 2) (n7 := ρ 1) (n8 := ρ 0) (n9 := ρ 9) (n10 := ρ 10) (n11 := ρ 11) (n12 := ρ 12) (n13 := ρ 13) (n14 := ρ 14) (n15 := ρ 15) (n16 := ρ 16) (n17 := ρ 17) (n18 := ρ 18) (n19 := ρ 19) (n20 := ρ 20) (n21 := ρ 21) (n22 := ρ 22) (n23 := ρ 23) (n24 := ρ 24) (n25 := ρ 25) (n26 := ρ 26) (n27 := ρ 27) (n28 := ρ 32) (n29 := ρ 33) (H0 := η 0) (H1 := η 1) f69 f68 f67 f66 f65 f64 f63 f62 f61 f60 f59 f58 f57 f56 f55 f54 f53 f52 f51 f50 f49 f48 f47 f46 f45 f44 f43 f42 f41 f40 f39 f38 f37 f36 f35 f34 f33 f32 f31 f30 f29 f28 f27 f26 f25 f24 f23 f22 f21 f20 f19 f18 f17 f16 f15 f14 f13 f12 f11 f10 f9 f8 f7 f6 f5 f4 f3 f2 f1 f0
theorem q_300_35 {q0 : Nat} {n0 n1 n2 n3 n4 n5 n6 n7 n8 n9 n10 n11 n12 n13 n14 n15 n16 n17 n18 n19 n20 n21 n22 n23 n24 n25 n26 n27 n28 n29 n30 n31 n32 n33 : Int} {H0 H1 H2 H3 H4 H5 : gH} (f0 : n0 ≤ 40) (f1 : 0 ≤ n0) (f2 : n1 ≤ 39) (f3 : 0 ≤ n1) (f4 : n2 ≤ 2147483647) (f5 : (-2147483648) ≤ n2) (f6 : n3 ≤ 2147483647) (f7 : (-2147483648) ≤ n3) (f8 : n4 ≤ 2147483647) (f9 : (-2147483648) ≤ n4) (f10 : n5 = 285) (f11 : n6 ≤ 2147483647) (f12 : (-2147483648) ≤ n6) (f13 : n7 ≤ 2147483647) (f14 : (-2147483648) ≤ n7) (f15 : n8 = 285) (f16 : (hLe T0 H0 H1 ∧ hFr s_300.2.2.2.2 H0 H1 ∧ hWt T0 H1) ∧ (Ab_300_39 n8 n7 n6 n5 n4 n3 n2 n1 n0 H0 H1 ∧ preb_300 n8 n7 n6 H0) ∧ some q0 = some (mub_300_39 n8 n7 n6 n5 n4 n3 n2 n1 n0 H0 H1)) (f17 : n9 ≤ 40) (f18 : 0 ≤ n9) (f19 : n9 = hV H1 (n5).toNat 82) (f20 : n0 < n9) (f21 : n10 = 298) (f22 : n10 = hV H1 (n5).toNat 24) (f23 : n11 = 344) (f24 : n11 = hV H1 (n5).toNat 83) (f25 : n12 ≤ 1007) (f26 : 0 ≤ n12) (f27 : n12 = hV H1 (n11).toNat (n1).toNat) (f28 : n13 ≤ 5) (f29 : 0 ≤ n13) (f30 : n13 = hV H1 (n10).toNat (n12).toNat) (f31 : n14 = 1) (f32 : n13 = n14) (f33 : n15 = 298) (f34 : n15 = hV H1 (n5).toNat 24) (f35 : n16 = 344) (f36 : n16 = hV H1 (n5).toNat 83) (f37 : n17 ≤ 1007) (f38 : 0 ≤ n17) (f39 : n17 = hV H1 (n16).toNat (n0).toNat) (f40 : n18 ≤ 5) (f41 : 0 ≤ n18) (f42 : n18 = hV H1 (n15).toNat (n17).toNat) (f43 : n19 = 1) (f44 : n18 = n19) (f45 : n20 = 300) (f46 : n20 = hV H1 (n5).toNat 26) (f47 : n21 = 344) (f48 : n21 = hV H1 (n5).toNat 83) (f49 : n22 ≤ 1007) (f50 : 0 ≤ n22) (f51 : n22 = hV H1 (n21).toNat (n1).toNat) (f52 : n23 ≤ 9999) (f53 : (-1) ≤ n23) (f54 : n23 = hV H1 (n20).toNat (n22).toNat) (f55 : n24 = 300) (f56 : n24 = hV H1 (n5).toNat 26) (f57 : n25 = 344) (f58 : n25 = hV H1 (n5).toNat 83) (f59 : n26 ≤ 1007) (f60 : 0 ≤ n26) (f61 : n26 = hV H1 (n25).toNat (n0).toNat) (f62 : n27 ≤ 9999) (f63 : (-1) ≤ n27) (f64 : n27 = hV H1 (n24).toNat (n26).toNat) (f65 : n23 = n27) (f66 : n28 ≤ 10999) (f67 : (-10999) ≤ n28) (f68 : (hLe T0 H1 H2 ∧ hFr s_271.2.2.2.2 H1 H2 ∧ ((0 : Int) = 0 → H2.length = H1.length) ∧ hWt T0 H2) ∧ True) (f69 : n29 ≤ 10999) (f70 : (-10999) ≤ n29) (f71 : (hLe T0 H2 H3 ∧ hFr s_271.2.2.2.2 H2 H3 ∧ ((0 : Int) = 0 → H3.length = H2.length) ∧ hWt T0 H3) ∧ True) (f72 : n29 ≤ n28) (f73 : n1 = n1) (f74 : n30 ≤ 10999) (f75 : (-10999) ≤ n30) (f76 : (hLe T0 H3 H4 ∧ hFr s_271.2.2.2.2 H3 H4 ∧ ((0 : Int) = 0 → H4.length = H3.length) ∧ hWt T0 H4) ∧ True) (f77 : n31 ≤ 10999) (f78 : (-10999) ≤ n31) (f79 : (hLe T0 H4 H5 ∧ hFr s_272.2.2.2.2 H4 H5 ∧ ((0 : Int) = 0 → H5.length = H4.length) ∧ hWt T0 H5) ∧ True) (f80 : n30 < n31) (f81 : n2 ≠ 0) (f82 : n32 = w32 (n2 + (-1))) (f83 : n33 = w32 (n0 + 1)) : Ab_300_39 n8 n7 n6 n5 n4 n3 n32 n1 n33 H0 H5 ∧ ∀ q, some q0 = some q → mub_300_39 n8 n7 n6 n5 n4 n3 n32 n1 n33 H0 H5 < q := by
  have g4 := f16.2.1.1
  unfold Ab_300_39 at g4
  have g3 := f16.2.1.2
  unfold preb_300 at g3
  have g5 := Option.some.inj f16.2.2
  unfold mub_300_39 at g5
  unfold Ab_300_39
  unfold mub_300_39
  have e0 : n9 = hV H1 285 82 := (by rw [f10] at f19; exact f19 : n9 = hV H1 285 82)
  have e1 : n12 = hV H1 344 (n1).toNat := (by rw [f23] at f27; exact f27 : n12 = hV H1 344 (n1).toNat)
  have e2 : hV H1 298 = hV H0 298 := fRow f16.1.2.1 298 (by decide +kernel)
  have e3 : n13 = hV H0 298 (n12).toNat := (by rw [f21] at f30; exact f30 : n13 = hV H1 298 (n12).toNat).trans ((congrFun e2 _))
  have e4 : n17 = hV H1 344 (n0).toNat := (by rw [f35] at f39; exact f39 : n17 = hV H1 344 (n0).toNat)
  have e5 : n18 = hV H0 298 (n17).toNat := (by rw [f33] at f42; exact f42 : n18 = hV H1 298 (n17).toNat).trans ((congrFun e2 _))
  have e6 : n22 = hV H1 344 (n1).toNat := (by rw [f47] at f51; exact f51 : n22 = hV H1 344 (n1).toNat)
  have e7 : hV H1 300 = hV H0 300 := fRow f16.1.2.1 300 (by decide +kernel)
  have e8 : n23 = hV H0 300 (n22).toNat := (by rw [f45] at f54; exact f54 : n23 = hV H1 300 (n22).toNat).trans ((congrFun e7 _))
  have e9 : n26 = hV H1 344 (n0).toNat := (by rw [f57] at f61; exact f61 : n26 = hV H1 344 (n0).toNat)
  have e10 : n27 = hV H0 300 (n26).toNat := (by rw [f55] at f64; exact f64 : n27 = hV H1 300 (n26).toNat).trans ((congrFun e7 _))
  have e11 : hV H1 301 = hV H0 301 := fRow f16.1.2.1 301 (by decide +kernel)
  have e12 : hV H1 302 = hV H0 302 := fRow f16.1.2.1 302 (by decide +kernel)
  have e13 : hV H1 303 = hV H0 303 := fRow f16.1.2.1 303 (by decide +kernel)
  have e14 : hV H1 305 = hV H0 305 := fRow f16.1.2.1 305 (by decide +kernel)
  have e15 : hV H5 285 82 = hV H4 285 82 := f79.1.2.1.1 285 82 (by decide +kernel)
  have e16 : hV H4 285 82 = hV H3 285 82 := f76.1.2.1.1 285 82 (by decide +kernel)
  have e17 : hV H3 285 82 = hV H2 285 82 := f71.1.2.1.1 285 82 (by decide +kernel)
  have e18 : hV H2 285 82 = hV H1 285 82 := f68.1.2.1.1 285 82 (by decide +kernel)
  have e19 : hV H5 285 82 = hV H1 285 82 := (e15).trans ((e16).trans ((e17).trans e18))
  have e20 : hV H5 298 = hV H4 298 := fRow f79.1.2.1 298 (by decide +kernel)
  have e21 : hV H4 298 = hV H3 298 := fRow f76.1.2.1 298 (by decide +kernel)
  have e22 : hV H3 298 = hV H2 298 := fRow f71.1.2.1 298 (by decide +kernel)
  have e23 : hV H2 298 = hV H1 298 := fRow f68.1.2.1 298 (by decide +kernel)
  have e24 : hV H2 298 = hV H0 298 := e23.trans e2
  have e25 : hV H3 298 = hV H0 298 := e22.trans e24
  have e26 : hV H4 298 = hV H0 298 := e21.trans e25
  have e27 : hV H5 298 = hV H0 298 := e20.trans e26
  have e28 : hV H5 300 = hV H4 300 := fRow f79.1.2.1 300 (by decide +kernel)
  have e29 : hV H4 300 = hV H3 300 := fRow f76.1.2.1 300 (by decide +kernel)
  have e30 : hV H3 300 = hV H2 300 := fRow f71.1.2.1 300 (by decide +kernel)
  have e31 : hV H2 300 = hV H1 300 := fRow f68.1.2.1 300 (by decide +kernel)
  have e32 : hV H2 300 = hV H0 300 := e31.trans e7
  have e33 : hV H3 300 = hV H0 300 := e30.trans e32
  have e34 : hV H4 300 = hV H0 300 := e29.trans e33
  have e35 : hV H5 300 = hV H0 300 := e28.trans e34
  have e36 : hV H5 301 = hV H4 301 := fRow f79.1.2.1 301 (by decide +kernel)
  have e37 : hV H4 301 = hV H3 301 := fRow f76.1.2.1 301 (by decide +kernel)
  have e38 : hV H3 301 = hV H2 301 := fRow f71.1.2.1 301 (by decide +kernel)
  have e39 : hV H2 301 = hV H1 301 := fRow f68.1.2.1 301 (by decide +kernel)
  have e40 : hV H2 301 = hV H0 301 := e39.trans e11
  have e41 : hV H3 301 = hV H0 301 := e38.trans e40
  have e42 : hV H4 301 = hV H0 301 := e37.trans e41
  have e43 : hV H5 301 = hV H0 301 := e36.trans e42
  have e44 : hV H5 302 = hV H4 302 := fRow f79.1.2.1 302 (by decide +kernel)
  have e45 : hV H4 302 = hV H3 302 := fRow f76.1.2.1 302 (by decide +kernel)
  have e46 : hV H3 302 = hV H2 302 := fRow f71.1.2.1 302 (by decide +kernel)
  have e47 : hV H2 302 = hV H1 302 := fRow f68.1.2.1 302 (by decide +kernel)
  have e48 : hV H2 302 = hV H0 302 := e47.trans e12
  have e49 : hV H3 302 = hV H0 302 := e46.trans e48
  have e50 : hV H4 302 = hV H0 302 := e45.trans e49
  have e51 : hV H5 302 = hV H0 302 := e44.trans e50
  have e52 : hV H5 303 = hV H4 303 := fRow f79.1.2.1 303 (by decide +kernel)
  have e53 : hV H4 303 = hV H3 303 := fRow f76.1.2.1 303 (by decide +kernel)
  have e54 : hV H3 303 = hV H2 303 := fRow f71.1.2.1 303 (by decide +kernel)
  have e55 : hV H2 303 = hV H1 303 := fRow f68.1.2.1 303 (by decide +kernel)
  have e56 : hV H2 303 = hV H0 303 := e55.trans e13
  have e57 : hV H3 303 = hV H0 303 := e54.trans e56
  have e58 : hV H4 303 = hV H0 303 := e53.trans e57
  have e59 : hV H5 303 = hV H0 303 := e52.trans e58
  have e60 : hV H5 305 = hV H4 305 := fRow f79.1.2.1 305 (by decide +kernel)
  have e61 : hV H4 305 = hV H3 305 := fRow f76.1.2.1 305 (by decide +kernel)
  have e62 : hV H3 305 = hV H2 305 := fRow f71.1.2.1 305 (by decide +kernel)
  have e63 : hV H2 305 = hV H1 305 := fRow f68.1.2.1 305 (by decide +kernel)
  have e64 : hV H2 305 = hV H0 305 := e63.trans e14
  have e65 : hV H3 305 = hV H0 305 := e62.trans e64
  have e66 : hV H4 305 = hV H0 305 := e61.trans e65
  have e67 : hV H5 305 = hV H0 305 := e60.trans e66
  have e68 : hV H5 344 = hV H4 344 := fRow f79.1.2.1 344 (by decide +kernel)
  have e69 : hV H4 344 = hV H3 344 := fRow f76.1.2.1 344 (by decide +kernel)
  have e70 : hV H3 344 = hV H2 344 := fRow f71.1.2.1 344 (by decide +kernel)
  have e71 : hV H2 344 = hV H1 344 := fRow f68.1.2.1 344 (by decide +kernel)
  have e72 : hV H3 344 = hV H1 344 := e70.trans e71
  have e73 : hV H4 344 = hV H1 344 := e69.trans e72
  have e74 : hV H5 344 = hV H1 344 := e68.trans e73
  have e75 : (0 : Int) ≤ hV H1 285 82 ∧ hV H1 285 82 ≤ 40 := f16.1.2.2 285 82 _ _ (by decide +kernel)
  have e76 : (0 : Int) ≤ hV H5 285 82 ∧ hV H5 285 82 ≤ 40 := f79.1.2.2.2 285 82 _ _ (by decide +kernel)
  try simp only [XQ] at *
  try simp only [e2, e7, e11, e12, e13, e14, e19, e27, e35, e43, e51, e59, e67, e74] at f16
  try simp only [e2, e7, e11, e12, e13, e14, e19, e27, e35, e43, e51, e59, e67, e74] at e75
  try simp only [e2, e7, e11, e12, e13, e14, e19, e27, e35, e43, e51, e59, e67, e74] at e76
  try simp only [e2, e7, e11, e12, e13, e14, e19, e27, e35, e43, e51, e59, e67, e74] at g3
  try simp only [e2, e7, e11, e12, e13, e14, e19, e27, e35, e43, e51, e59, e67, e74] at g4
  try simp only [e2, e7, e11, e12, e13, e14, e19, e27, e35, e43, e51, e59, e67, e74] at g5
  try simp only [e2, e7, e11, e12, e13, e14, e19, e27, e35, e43, e51, e59, e67, e74]
  have k0 := g4.1
  have k1 := g4.2.1
  have y0 := g4.2.2.1
  have y1 := g4.2.2.2
  have p0 := g3
  try simp only [e2, e7, e11, e12, e13, e14, e19, e27, e35, e43, e51, e59, e67, e74] at k0
  try simp only [e2, e7, e11, e12, e13, e14, e19, e27, e35, e43, e51, e59, e67, e74] at k1
  try simp only [e2, e7, e11, e12, e13, e14, e19, e27, e35, e43, e51, e59, e67, e74] at y0
  try simp only [e2, e7, e11, e12, e13, e14, e19, e27, e35, e43, e51, e59, e67, e74] at y1
  try simp only [e2, e7, e11, e12, e13, e14, e19, e27, e35, e43, e51, e59, e67, e74] at p0
  clear g3
  clear g4
  clear f19 f22 f24 f27 f30 f34 f36 f39 f42 f46 f48 f51 f54 f56 f58 f61 f64 e2 e7 e11 e12 e13 e14 e15 e16 e17 e18 e19 e20 e21 e22 e23 e24 e25 e26 e27 e28 e29 e30 e31 e32 e33 e34 e35 e36 e37 e38 e39 e40 e41 e42 e43 e44 e45 e46 e47 e48 e49 e50 e51 e52 e53 e54 e55 e56 e57 e58 e59 e60 e61 e62 e63 e64 e65 e66 e67 e68 e69 e70 e71 e72 e73 e74
  subst e0
  subst e1
  subst e3
  subst e4
  subst e5
  subst e6
  subst e8
  subst e9
  subst e10
  unfold w32 at *
  try (have ix0 : n32 = n2 + -1 := (by omega); subst ix0)
  try (have ix1 : n33 = n0 + 1 := (by omega); subst ix1)
  try subst k1
  try subst k0
  refine ⟨?_, fun q hq => ?_⟩
  · refine ⟨?_, ?_, ?_, ?_⟩ <;> first | assumption | omega | trivial
  · have g6 := Option.some.inj hq
    subst g6
    omega
theorem c_300_39_27 {q0 : Nat} : vOkm T0 (eP e_300 L_300 A_300 mu_300 (some q0)) 3 ([(10, [33, 8], [], 1), (10, [32, 6], [], -1), (31, [6], [], 0), (42, [30, 31], [], 0), (1272, [31, 3, 7], [4, 5], 0), (90, [31], [], -10999), (91, [31], [], 10999), (1271, [30, 3, 8], [3, 4], 0), (90, [30], [], -10999), (91, [30], [], 10999), (40, [7, 7], [], 0), (43, [28, 29], [], 0), (1271, [29, 3, 7], [2, 3], 0), (90, [29], [], -10999), (91, [29], [], 10999), (1271, [28, 3, 8], [1, 2], 0), (90, [28], [], -10999), (91, [28], [], 10999), (40, [23, 27], [], 0), (22, [27, 24, 26], [1], 0), (90, [27], [], -1), (91, [27], [], 9999), (22, [26, 25, 8], [1], 0), (90, [26], [], 0), (91, [26], [], 1007), (20, [25, 3], [1], 83), (0, [25], [], 344), (20, [24, 3], [1], 26), (0, [24], [], 300), (22, [23, 20, 22], [1], 0), (90, [23], [], -1), (91, [23], [], 9999), (22, [22, 21, 7], [1], 0), (90, [22], [], 0), (91, [22], [], 1007), (20, [21, 3], [1], 83), (0, [21], [], 344), (20, [20, 3], [1], 26), (0, [20], [], 300), (40, [18, 19], [], 0), (0, [19], [], 1), (22, [18, 15, 17], [1], 0), (90, [18], [], 0), (91, [18], [], 5), (22, [17, 16, 8], [1], 0), (90, [17], [], 0), (91, [17], [], 1007), (20, [16, 3], [1], 83), (0, [16], [], 344), (20, [15, 3], [1], 24), (0, [15], [], 298), (40, [13, 14], [], 0), (0, [14], [], 1), (22, [13, 10, 12], [1], 0), (90, [13], [], 0), (91, [13], [], 5), (22, [12, 11, 7], [1], 0), (90, [12], [], 0), (91, [12], [], 1007), (20, [11, 3], [1], 83), (0, [11], [], 344), (20, [10, 3], [1], 24), (0, [10], [], 298), (42, [8, 9], [], 0), (20, [9, 3], [1], 82), (90, [9], [], 0), (91, [9], [], 40), (5000, [0, 1, 2, 3, 4, 5, 6, 7, 8], [0, 1], 39), (0, [0], [], 285), (90, [1], [], -2147483648), (91, [1], [], 2147483647), (90, [2], [], -2147483648), (91, [2], [], 2147483647), (0, [3], [], 285), (90, [4], [], -2147483648), (91, [4], [], 2147483647), (90, [5], [], -2147483648), (91, [5], [], 2147483647), (90, [6], [], -2147483648), (91, [6], [], 2147483647), (90, [7], [], 0), (91, [7], [], 39), (90, [8], [], 0), (91, [8], [], 40)], (4000, [3, 4, 5, 32, 7, 33], [5], 39)) := vOk_in fun ρ η h => by
  obtain ⟨f0, f1, f2, f3, f4, f5, f6, f7, f8, f9, f10, f11, f12, f13, f14, f15, f16, f17, f18, f19, f20, f21, f22, f23, f24, f25, f26, f27, f28, f29, f30, f31, f32, f33, f34, f35, f36, f37, f38, f39, f40, f41, f42, f43, f44, f45, f46, f47, f48, f49, f50, f51, f52, f53, f54, f55, f56, f57, f58, f59, f60, f61, f62, f63, f64, f65, f66, f67, f68, f69, f70, f71, f72, f73, f74, f75, f76, f77, f78, f79, f80, f81, f82, f83, _⟩ := h
  exact q_300_35 (q0 := q0) (n0 := ρ 8) (n1 := ρ 7) (n2 := ρ 6) (n3 := ρ 5) (n4 := ρ 4) (n5 := ρ 3) (n6 := ρ 2) (n7 := ρ 1) (n8 := ρ 0) (n9 := ρ 9) (n10 := ρ 10) (n11 := ρ 11) (n12 := ρ 12) (n13 := ρ 13) (n14 := ρ 14) (n15 := ρ 15) (n16 := ρ 16) (n17 := ρ 17) (n18 := ρ 18) (n19 := ρ 19) (n20 := ρ 20) (n21 := ρ 21) (n22 := ρ 22) (n23 := ρ 23) (n24 := ρ 24) (n25 := ρ 25) (n26 := ρ 26) (n27 := ρ 27) (n28 := ρ 28) (n29 := ρ 29) (n30 := ρ 30) (n31 := ρ 31) (n32 := ρ 32) (n33 := ρ 33) (H0 := η 0) (H1 := η 1) (H2 := η 2) (H3 := η 3) (H4 := η 4) (H5 := η 5) f83 f82 f81 f80 f79 f78 f77 f76 f75 f74 f73 f72 f71 f70 f69 f68 f67 f66 f65 f64 f63 f62 f61 f60 f59 f58 f57 f56 f55 f54 f53 f52 f51 f50 f49 f48 f47 f46 f45 f44 f43 f42 f41 f40 f39 f38 f37 f36 f35 f34 f33 f32 f31 f30 f29 f28 f27 f26 f25 f24 f23 f22 f21 f20 f19 f18 f17 f16 f15 f14 f13 f12 f11 f10 f9 f8 f7 f6 f5 f4 f3 f2 f1 f0
theorem q_300_36 {q0 : Nat} {n0 n1 n2 n3 n4 n5 n6 n7 n8 n9 n10 n11 n12 n13 n14 n15 n16 n17 n18 n19 n20 n21 n22 n23 n24 n25 n26 n27 n28 : Int} {H0 H1 : gH} (f0 : n0 ≤ 40) (f1 : 0 ≤ n0) (f2 : n1 ≤ 39) (f3 : 0 ≤ n1) (f4 : n2 ≤ 2147483647) (f5 : (-2147483648) ≤ n2) (f6 : n3 ≤ 2147483647) (f7 : (-2147483648) ≤ n3) (f8 : n4 ≤ 2147483647) (f9 : (-2147483648) ≤ n4) (f10 : n5 = 285) (f11 : n6 ≤ 2147483647) (f12 : (-2147483648) ≤ n6) (f13 : n7 ≤ 2147483647) (f14 : (-2147483648) ≤ n7) (f15 : n8 = 285) (f16 : (hLe T0 H0 H1 ∧ hFr s_300.2.2.2.2 H0 H1 ∧ hWt T0 H1) ∧ (Ab_300_39 n8 n7 n6 n5 n4 n3 n2 n1 n0 H0 H1 ∧ preb_300 n8 n7 n6 H0) ∧ some q0 = some (mub_300_39 n8 n7 n6 n5 n4 n3 n2 n1 n0 H0 H1)) (f17 : n9 ≤ 40) (f18 : 0 ≤ n9) (f19 : n9 = hV H1 (n5).toNat 82) (f20 : n0 < n9) (f21 : n10 = 298) (f22 : n10 = hV H1 (n5).toNat 24) (f23 : n11 = 344) (f24 : n11 = hV H1 (n5).toNat 83) (f25 : n12 ≤ 1007) (f26 : 0 ≤ n12) (f27 : n12 = hV H1 (n11).toNat (n1).toNat) (f28 : n13 ≤ 5) (f29 : 0 ≤ n13) (f30 : n13 = hV H1 (n10).toNat (n12).toNat) (f31 : n14 = 1) (f32 : n13 = n14) (f33 : n15 = 298) (f34 : n15 = hV H1 (n5).toNat 24) (f35 : n16 = 344) (f36 : n16 = hV H1 (n5).toNat 83) (f37 : n17 ≤ 1007) (f38 : 0 ≤ n17) (f39 : n17 = hV H1 (n16).toNat (n0).toNat) (f40 : n18 ≤ 5) (f41 : 0 ≤ n18) (f42 : n18 = hV H1 (n15).toNat (n17).toNat) (f43 : n19 = 1) (f44 : n18 = n19) (f45 : n20 = 300) (f46 : n20 = hV H1 (n5).toNat 26) (f47 : n21 = 344) (f48 : n21 = hV H1 (n5).toNat 83) (f49 : n22 ≤ 1007) (f50 : 0 ≤ n22) (f51 : n22 = hV H1 (n21).toNat (n1).toNat) (f52 : n23 ≤ 9999) (f53 : (-1) ≤ n23) (f54 : n23 = hV H1 (n20).toNat (n22).toNat) (f55 : n24 = 300) (f56 : n24 = hV H1 (n5).toNat 26) (f57 : n25 = 344) (f58 : n25 = hV H1 (n5).toNat 83) (f59 : n26 ≤ 1007) (f60 : 0 ≤ n26) (f61 : n26 = hV H1 (n25).toNat (n0).toNat) (f62 : n27 ≤ 9999) (f63 : (-1) ≤ n27) (f64 : n27 = hV H1 (n24).toNat (n26).toNat) (f65 : n23 = n27) (f66 : n1 = n1) (f67 : n28 = w32 (n0 + 1)) : 0 ≤ n28 := by
  have g4 := f16.2.1.1
  unfold Ab_300_39 at g4
  have g3 := f16.2.1.2
  unfold preb_300 at g3
  have e0 : n9 = hV H1 285 82 := (by rw [f10] at f19; exact f19 : n9 = hV H1 285 82)
  have e1 : n12 = hV H1 344 (n1).toNat := (by rw [f23] at f27; exact f27 : n12 = hV H1 344 (n1).toNat)
  have e2 : hV H1 298 = hV H0 298 := fRow f16.1.2.1 298 (by decide +kernel)
  have e3 : n13 = hV H0 298 (n12).toNat := (by rw [f21] at f30; exact f30 : n13 = hV H1 298 (n12).toNat).trans ((congrFun e2 _))
  have e4 : n17 = hV H1 344 (n0).toNat := (by rw [f35] at f39; exact f39 : n17 = hV H1 344 (n0).toNat)
  have e5 : n18 = hV H0 298 (n17).toNat := (by rw [f33] at f42; exact f42 : n18 = hV H1 298 (n17).toNat).trans ((congrFun e2 _))
  have e6 : n22 = hV H1 344 (n1).toNat := (by rw [f47] at f51; exact f51 : n22 = hV H1 344 (n1).toNat)
  have e7 : hV H1 300 = hV H0 300 := fRow f16.1.2.1 300 (by decide +kernel)
  have e8 : n23 = hV H0 300 (n22).toNat := (by rw [f45] at f54; exact f54 : n23 = hV H1 300 (n22).toNat).trans ((congrFun e7 _))
  have e9 : n26 = hV H1 344 (n0).toNat := (by rw [f57] at f61; exact f61 : n26 = hV H1 344 (n0).toNat)
  have e10 : n27 = hV H0 300 (n26).toNat := (by rw [f55] at f64; exact f64 : n27 = hV H1 300 (n26).toNat).trans ((congrFun e7 _))
  have e11 : hV H1 301 = hV H0 301 := fRow f16.1.2.1 301 (by decide +kernel)
  have e12 : hV H1 302 = hV H0 302 := fRow f16.1.2.1 302 (by decide +kernel)
  have e13 : hV H1 303 = hV H0 303 := fRow f16.1.2.1 303 (by decide +kernel)
  have e14 : hV H1 305 = hV H0 305 := fRow f16.1.2.1 305 (by decide +kernel)
  have e15 : (0 : Int) ≤ hV H1 285 82 ∧ hV H1 285 82 ≤ 40 := f16.1.2.2 285 82 _ _ (by decide +kernel)
  try simp only [XQ] at *
  try simp only [e2, e7, e11, e12, e13, e14] at f16
  try simp only [e2, e7, e11, e12, e13, e14] at e15
  try simp only [e2, e7, e11, e12, e13, e14] at g3
  try simp only [e2, e7, e11, e12, e13, e14] at g4
  try simp only [e2, e7, e11, e12, e13, e14]
  have k0 := g4.1
  have k1 := g4.2.1
  have y0 := g4.2.2.1
  have y1 := g4.2.2.2
  have p0 := g3
  try simp only [e2, e7, e11, e12, e13, e14] at k0
  try simp only [e2, e7, e11, e12, e13, e14] at k1
  try simp only [e2, e7, e11, e12, e13, e14] at y0
  try simp only [e2, e7, e11, e12, e13, e14] at y1
  try simp only [e2, e7, e11, e12, e13, e14] at p0
  clear g3
  clear g4
  clear f19 f22 f24 f27 f30 f34 f36 f39 f42 f46 f48 f51 f54 f56 f58 f61 f64 e2 e7 e11 e12 e13 e14
  subst e0
  subst e1
  subst e3
  subst e4
  subst e5
  subst e6
  subst e8
  subst e9
  subst e10
  unfold w32 at *
  try (have ix0 : n28 = n0 + 1 := (by omega); subst ix0)
  try subst k1
  try subst k0
  omega
theorem c_300_39_28 {q0 : Nat} : vOkm T0 (eP e_300 L_300 A_300 mu_300 (some q0)) 3 ([(10, [32, 8], [], 1), (40, [7, 7], [], 0), (40, [23, 27], [], 0), (22, [27, 24, 26], [1], 0), (90, [27], [], -1), (91, [27], [], 9999), (22, [26, 25, 8], [1], 0), (90, [26], [], 0), (91, [26], [], 1007), (20, [25, 3], [1], 83), (0, [25], [], 344), (20, [24, 3], [1], 26), (0, [24], [], 300), (22, [23, 20, 22], [1], 0), (90, [23], [], -1), (91, [23], [], 9999), (22, [22, 21, 7], [1], 0), (90, [22], [], 0), (91, [22], [], 1007), (20, [21, 3], [1], 83), (0, [21], [], 344), (20, [20, 3], [1], 26), (0, [20], [], 300), (40, [18, 19], [], 0), (0, [19], [], 1), (22, [18, 15, 17], [1], 0), (90, [18], [], 0), (91, [18], [], 5), (22, [17, 16, 8], [1], 0), (90, [17], [], 0), (91, [17], [], 1007), (20, [16, 3], [1], 83), (0, [16], [], 344), (20, [15, 3], [1], 24), (0, [15], [], 298), (40, [13, 14], [], 0), (0, [14], [], 1), (22, [13, 10, 12], [1], 0), (90, [13], [], 0), (91, [13], [], 5), (22, [12, 11, 7], [1], 0), (90, [12], [], 0), (91, [12], [], 1007), (20, [11, 3], [1], 83), (0, [11], [], 344), (20, [10, 3], [1], 24), (0, [10], [], 298), (42, [8, 9], [], 0), (20, [9, 3], [1], 82), (90, [9], [], 0), (91, [9], [], 40), (5000, [0, 1, 2, 3, 4, 5, 6, 7, 8], [0, 1], 39), (0, [0], [], 285), (90, [1], [], -2147483648), (91, [1], [], 2147483647), (90, [2], [], -2147483648), (91, [2], [], 2147483647), (0, [3], [], 285), (90, [4], [], -2147483648), (91, [4], [], 2147483647), (90, [5], [], -2147483648), (91, [5], [], 2147483647), (90, [6], [], -2147483648), (91, [6], [], 2147483647), (90, [7], [], 0), (91, [7], [], 39), (90, [8], [], 0), (91, [8], [], 40)], (90, [32], [], 0)) := vOk_in fun ρ η h => by
  obtain ⟨f0, f1, f2, f3, f4, f5, f6, f7, f8, f9, f10, f11, f12, f13, f14, f15, f16, f17, f18, f19, f20, f21, f22, f23, f24, f25, f26, f27, f28, f29, f30, f31, f32, f33, f34, f35, f36, f37, f38, f39, f40, f41, f42, f43, f44, f45, f46, f47, f48, f49, f50, f51, f52, f53, f54, f55, f56, f57, f58, f59, f60, f61, f62, f63, f64, f65, f66, f67, _⟩ := h
  exact q_300_36 (q0 := q0) (n0 := ρ 8) (n1 := ρ 7) (n2 := ρ 6) (n3 := ρ 5) (n4 := ρ 4) (n5 := ρ 3) (n6 := ρ 2) (n7 := ρ 1) (n8 := ρ 0) (n9 := ρ 9) (n10 := ρ 10) (n11 := ρ 11) (n12 := ρ 12) (n13 := ρ 13) (n14 := ρ 14) (n15 := ρ 15) (n16 := ρ 16) (n17 := ρ 17) (n18 := ρ 18) (n19 := ρ 19) (n20 := ρ 20) (n21 := ρ 21) (n22 := ρ 22) (n23 := ρ 23) (n24 := ρ 24) (n25 := ρ 25) (n26 := ρ 26) (n27 := ρ 27) (n28 := ρ 32) (H0 := η 0) (H1 := η 1) f67 f66 f65 f64 f63 f62 f61 f60 f59 f58 f57 f56 f55 f54 f53 f52 f51 f50 f49 f48 f47 f46 f45 f44 f43 f42 f41 f40 f39 f38 f37 f36 f35 f34 f33 f32 f31 f30 f29 f28 f27 f26 f25 f24 f23 f22 f21 f20 f19 f18 f17 f16 f15 f14 f13 f12 f11 f10 f9 f8 f7 f6 f5 f4 f3 f2 f1 f0
theorem q_300_37 {q0 : Nat} {n0 n1 n2 n3 n4 n5 n6 n7 n8 n9 n10 n11 n12 n13 n14 n15 n16 n17 n18 n19 n20 n21 n22 n23 n24 n25 n26 n27 n28 : Int} {H0 H1 : gH} (f0 : n0 ≤ 40) (f1 : 0 ≤ n0) (f2 : n1 ≤ 39) (f3 : 0 ≤ n1) (f4 : n2 ≤ 2147483647) (f5 : (-2147483648) ≤ n2) (f6 : n3 ≤ 2147483647) (f7 : (-2147483648) ≤ n3) (f8 : n4 ≤ 2147483647) (f9 : (-2147483648) ≤ n4) (f10 : n5 = 285) (f11 : n6 ≤ 2147483647) (f12 : (-2147483648) ≤ n6) (f13 : n7 ≤ 2147483647) (f14 : (-2147483648) ≤ n7) (f15 : n8 = 285) (f16 : (hLe T0 H0 H1 ∧ hFr s_300.2.2.2.2 H0 H1 ∧ hWt T0 H1) ∧ (Ab_300_39 n8 n7 n6 n5 n4 n3 n2 n1 n0 H0 H1 ∧ preb_300 n8 n7 n6 H0) ∧ some q0 = some (mub_300_39 n8 n7 n6 n5 n4 n3 n2 n1 n0 H0 H1)) (f17 : n9 ≤ 40) (f18 : 0 ≤ n9) (f19 : n9 = hV H1 (n5).toNat 82) (f20 : n0 < n9) (f21 : n10 = 298) (f22 : n10 = hV H1 (n5).toNat 24) (f23 : n11 = 344) (f24 : n11 = hV H1 (n5).toNat 83) (f25 : n12 ≤ 1007) (f26 : 0 ≤ n12) (f27 : n12 = hV H1 (n11).toNat (n1).toNat) (f28 : n13 ≤ 5) (f29 : 0 ≤ n13) (f30 : n13 = hV H1 (n10).toNat (n12).toNat) (f31 : n14 = 1) (f32 : n13 = n14) (f33 : n15 = 298) (f34 : n15 = hV H1 (n5).toNat 24) (f35 : n16 = 344) (f36 : n16 = hV H1 (n5).toNat 83) (f37 : n17 ≤ 1007) (f38 : 0 ≤ n17) (f39 : n17 = hV H1 (n16).toNat (n0).toNat) (f40 : n18 ≤ 5) (f41 : 0 ≤ n18) (f42 : n18 = hV H1 (n15).toNat (n17).toNat) (f43 : n19 = 1) (f44 : n18 = n19) (f45 : n20 = 300) (f46 : n20 = hV H1 (n5).toNat 26) (f47 : n21 = 344) (f48 : n21 = hV H1 (n5).toNat 83) (f49 : n22 ≤ 1007) (f50 : 0 ≤ n22) (f51 : n22 = hV H1 (n21).toNat (n1).toNat) (f52 : n23 ≤ 9999) (f53 : (-1) ≤ n23) (f54 : n23 = hV H1 (n20).toNat (n22).toNat) (f55 : n24 = 300) (f56 : n24 = hV H1 (n5).toNat 26) (f57 : n25 = 344) (f58 : n25 = hV H1 (n5).toNat 83) (f59 : n26 ≤ 1007) (f60 : 0 ≤ n26) (f61 : n26 = hV H1 (n25).toNat (n0).toNat) (f62 : n27 ≤ 9999) (f63 : (-1) ≤ n27) (f64 : n27 = hV H1 (n24).toNat (n26).toNat) (f65 : n23 = n27) (f66 : n1 = n1) (f67 : n28 = w32 (n0 + 1)) : n28 ≤ 40 := by
  have g4 := f16.2.1.1
  unfold Ab_300_39 at g4
  have g3 := f16.2.1.2
  unfold preb_300 at g3
  have e0 : n9 = hV H1 285 82 := (by rw [f10] at f19; exact f19 : n9 = hV H1 285 82)
  have e1 : n12 = hV H1 344 (n1).toNat := (by rw [f23] at f27; exact f27 : n12 = hV H1 344 (n1).toNat)
  have e2 : hV H1 298 = hV H0 298 := fRow f16.1.2.1 298 (by decide +kernel)
  have e3 : n13 = hV H0 298 (n12).toNat := (by rw [f21] at f30; exact f30 : n13 = hV H1 298 (n12).toNat).trans ((congrFun e2 _))
  have e4 : n17 = hV H1 344 (n0).toNat := (by rw [f35] at f39; exact f39 : n17 = hV H1 344 (n0).toNat)
  have e5 : n18 = hV H0 298 (n17).toNat := (by rw [f33] at f42; exact f42 : n18 = hV H1 298 (n17).toNat).trans ((congrFun e2 _))
  have e6 : n22 = hV H1 344 (n1).toNat := (by rw [f47] at f51; exact f51 : n22 = hV H1 344 (n1).toNat)
  have e7 : hV H1 300 = hV H0 300 := fRow f16.1.2.1 300 (by decide +kernel)
  have e8 : n23 = hV H0 300 (n22).toNat := (by rw [f45] at f54; exact f54 : n23 = hV H1 300 (n22).toNat).trans ((congrFun e7 _))
  have e9 : n26 = hV H1 344 (n0).toNat := (by rw [f57] at f61; exact f61 : n26 = hV H1 344 (n0).toNat)
  have e10 : n27 = hV H0 300 (n26).toNat := (by rw [f55] at f64; exact f64 : n27 = hV H1 300 (n26).toNat).trans ((congrFun e7 _))
  have e11 : hV H1 301 = hV H0 301 := fRow f16.1.2.1 301 (by decide +kernel)
  have e12 : hV H1 302 = hV H0 302 := fRow f16.1.2.1 302 (by decide +kernel)
  have e13 : hV H1 303 = hV H0 303 := fRow f16.1.2.1 303 (by decide +kernel)
  have e14 : hV H1 305 = hV H0 305 := fRow f16.1.2.1 305 (by decide +kernel)
  have e15 : (0 : Int) ≤ hV H1 285 82 ∧ hV H1 285 82 ≤ 40 := f16.1.2.2 285 82 _ _ (by decide +kernel)
  try simp only [XQ] at *
  try simp only [e2, e7, e11, e12, e13, e14] at f16
  try simp only [e2, e7, e11, e12, e13, e14] at e15
  try simp only [e2, e7, e11, e12, e13, e14] at g3
  try simp only [e2, e7, e11, e12, e13, e14] at g4
  try simp only [e2, e7, e11, e12, e13, e14]
  have k0 := g4.1
  have k1 := g4.2.1
  have y0 := g4.2.2.1
  have y1 := g4.2.2.2
  have p0 := g3
  try simp only [e2, e7, e11, e12, e13, e14] at k0
  try simp only [e2, e7, e11, e12, e13, e14] at k1
  try simp only [e2, e7, e11, e12, e13, e14] at y0
  try simp only [e2, e7, e11, e12, e13, e14] at y1
  try simp only [e2, e7, e11, e12, e13, e14] at p0
  clear g3
  clear g4
  clear f19 f22 f24 f27 f30 f34 f36 f39 f42 f46 f48 f51 f54 f56 f58 f61 f64 e2 e7 e11 e12 e13 e14
  subst e0
  subst e1
  subst e3
  subst e4
  subst e5
  subst e6
  subst e8
  subst e9
  subst e10
  unfold w32 at *
  try (have ix0 : n28 = n0 + 1 := (by omega); subst ix0)
  try subst k1
  try subst k0
  omega
theorem c_300_39_29 {q0 : Nat} : vOkm T0 (eP e_300 L_300 A_300 mu_300 (some q0)) 3 ([(10, [32, 8], [], 1), (40, [7, 7], [], 0), (40, [23, 27], [], 0), (22, [27, 24, 26], [1], 0), (90, [27], [], -1), (91, [27], [], 9999), (22, [26, 25, 8], [1], 0), (90, [26], [], 0), (91, [26], [], 1007), (20, [25, 3], [1], 83), (0, [25], [], 344), (20, [24, 3], [1], 26), (0, [24], [], 300), (22, [23, 20, 22], [1], 0), (90, [23], [], -1), (91, [23], [], 9999), (22, [22, 21, 7], [1], 0), (90, [22], [], 0), (91, [22], [], 1007), (20, [21, 3], [1], 83), (0, [21], [], 344), (20, [20, 3], [1], 26), (0, [20], [], 300), (40, [18, 19], [], 0), (0, [19], [], 1), (22, [18, 15, 17], [1], 0), (90, [18], [], 0), (91, [18], [], 5), (22, [17, 16, 8], [1], 0), (90, [17], [], 0), (91, [17], [], 1007), (20, [16, 3], [1], 83), (0, [16], [], 344), (20, [15, 3], [1], 24), (0, [15], [], 298), (40, [13, 14], [], 0), (0, [14], [], 1), (22, [13, 10, 12], [1], 0), (90, [13], [], 0), (91, [13], [], 5), (22, [12, 11, 7], [1], 0), (90, [12], [], 0), (91, [12], [], 1007), (20, [11, 3], [1], 83), (0, [11], [], 344), (20, [10, 3], [1], 24), (0, [10], [], 298), (42, [8, 9], [], 0), (20, [9, 3], [1], 82), (90, [9], [], 0), (91, [9], [], 40), (5000, [0, 1, 2, 3, 4, 5, 6, 7, 8], [0, 1], 39), (0, [0], [], 285), (90, [1], [], -2147483648), (91, [1], [], 2147483647), (90, [2], [], -2147483648), (91, [2], [], 2147483647), (0, [3], [], 285), (90, [4], [], -2147483648), (91, [4], [], 2147483647), (90, [5], [], -2147483648), (91, [5], [], 2147483647), (90, [6], [], -2147483648), (91, [6], [], 2147483647), (90, [7], [], 0), (91, [7], [], 39), (90, [8], [], 0), (91, [8], [], 40)], (91, [32], [], 40)) := vOk_in fun ρ η h => by
  obtain ⟨f0, f1, f2, f3, f4, f5, f6, f7, f8, f9, f10, f11, f12, f13, f14, f15, f16, f17, f18, f19, f20, f21, f22, f23, f24, f25, f26, f27, f28, f29, f30, f31, f32, f33, f34, f35, f36, f37, f38, f39, f40, f41, f42, f43, f44, f45, f46, f47, f48, f49, f50, f51, f52, f53, f54, f55, f56, f57, f58, f59, f60, f61, f62, f63, f64, f65, f66, f67, _⟩ := h
  exact q_300_37 (q0 := q0) (n0 := ρ 8) (n1 := ρ 7) (n2 := ρ 6) (n3 := ρ 5) (n4 := ρ 4) (n5 := ρ 3) (n6 := ρ 2) (n7 := ρ 1) (n8 := ρ 0) (n9 := ρ 9) (n10 := ρ 10) (n11 := ρ 11) (n12 := ρ 12) (n13 := ρ 13) (n14 := ρ 14) (n15 := ρ 15) (n16 := ρ 16) (n17 := ρ 17) (n18 := ρ 18) (n19 := ρ 19) (n20 := ρ 20) (n21 := ρ 21) (n22 := ρ 22) (n23 := ρ 23) (n24 := ρ 24) (n25 := ρ 25) (n26 := ρ 26) (n27 := ρ 27) (n28 := ρ 32) (H0 := η 0) (H1 := η 1) f67 f66 f65 f64 f63 f62 f61 f60 f59 f58 f57 f56 f55 f54 f53 f52 f51 f50 f49 f48 f47 f46 f45 f44 f43 f42 f41 f40 f39 f38 f37 f36 f35 f34 f33 f32 f31 f30 f29 f28 f27 f26 f25 f24 f23 f22 f21 f20 f19 f18 f17 f16 f15 f14 f13 f12 f11 f10 f9 f8 f7 f6 f5 f4 f3 f2 f1 f0
theorem q_300_38 {q0 : Nat} {n0 n1 n2 n3 n4 n5 n6 n7 n8 n9 n10 n11 n12 n13 n14 n15 n16 n17 n18 n19 n20 n21 n22 n23 n24 n25 n26 n27 n28 n29 n30 n31 n32 : Int} {H0 H1 H2 H3 H4 H5 : gH} (f0 : n0 ≤ 40) (f1 : 0 ≤ n0) (f2 : n1 ≤ 39) (f3 : 0 ≤ n1) (f4 : n2 ≤ 2147483647) (f5 : (-2147483648) ≤ n2) (f6 : n3 ≤ 2147483647) (f7 : (-2147483648) ≤ n3) (f8 : n4 ≤ 2147483647) (f9 : (-2147483648) ≤ n4) (f10 : n5 = 285) (f11 : n6 ≤ 2147483647) (f12 : (-2147483648) ≤ n6) (f13 : n7 ≤ 2147483647) (f14 : (-2147483648) ≤ n7) (f15 : n8 = 285) (f16 : (hLe T0 H0 H1 ∧ hFr s_300.2.2.2.2 H0 H1 ∧ hWt T0 H1) ∧ (Ab_300_39 n8 n7 n6 n5 n4 n3 n2 n1 n0 H0 H1 ∧ preb_300 n8 n7 n6 H0) ∧ some q0 = some (mub_300_39 n8 n7 n6 n5 n4 n3 n2 n1 n0 H0 H1)) (f17 : n9 ≤ 40) (f18 : 0 ≤ n9) (f19 : n9 = hV H1 (n5).toNat 82) (f20 : n0 < n9) (f21 : n10 = 298) (f22 : n10 = hV H1 (n5).toNat 24) (f23 : n11 = 344) (f24 : n11 = hV H1 (n5).toNat 83) (f25 : n12 ≤ 1007) (f26 : 0 ≤ n12) (f27 : n12 = hV H1 (n11).toNat (n1).toNat) (f28 : n13 ≤ 5) (f29 : 0 ≤ n13) (f30 : n13 = hV H1 (n10).toNat (n12).toNat) (f31 : n14 = 1) (f32 : n13 = n14) (f33 : n15 = 298) (f34 : n15 = hV H1 (n5).toNat 24) (f35 : n16 = 344) (f36 : n16 = hV H1 (n5).toNat 83) (f37 : n17 ≤ 1007) (f38 : 0 ≤ n17) (f39 : n17 = hV H1 (n16).toNat (n0).toNat) (f40 : n18 ≤ 5) (f41 : 0 ≤ n18) (f42 : n18 = hV H1 (n15).toNat (n17).toNat) (f43 : n19 = 1) (f44 : n18 = n19) (f45 : n20 = 300) (f46 : n20 = hV H1 (n5).toNat 26) (f47 : n21 = 344) (f48 : n21 = hV H1 (n5).toNat 83) (f49 : n22 ≤ 1007) (f50 : 0 ≤ n22) (f51 : n22 = hV H1 (n21).toNat (n1).toNat) (f52 : n23 ≤ 9999) (f53 : (-1) ≤ n23) (f54 : n23 = hV H1 (n20).toNat (n22).toNat) (f55 : n24 = 300) (f56 : n24 = hV H1 (n5).toNat 26) (f57 : n25 = 344) (f58 : n25 = hV H1 (n5).toNat 83) (f59 : n26 ≤ 1007) (f60 : 0 ≤ n26) (f61 : n26 = hV H1 (n25).toNat (n0).toNat) (f62 : n27 ≤ 9999) (f63 : (-1) ≤ n27) (f64 : n27 = hV H1 (n24).toNat (n26).toNat) (f65 : n23 = n27) (f66 : n28 ≤ 10999) (f67 : (-10999) ≤ n28) (f68 : (hLe T0 H1 H2 ∧ hFr s_271.2.2.2.2 H1 H2 ∧ ((0 : Int) = 0 → H2.length = H1.length) ∧ hWt T0 H2) ∧ True) (f69 : n29 ≤ 10999) (f70 : (-10999) ≤ n29) (f71 : (hLe T0 H2 H3 ∧ hFr s_271.2.2.2.2 H2 H3 ∧ ((0 : Int) = 0 → H3.length = H2.length) ∧ hWt T0 H3) ∧ True) (f72 : n29 ≤ n28) (f73 : n1 = n1) (f74 : n30 ≤ 10999) (f75 : (-10999) ≤ n30) (f76 : (hLe T0 H3 H4 ∧ hFr s_271.2.2.2.2 H3 H4 ∧ ((0 : Int) = 0 → H4.length = H3.length) ∧ hWt T0 H4) ∧ True) (f77 : n31 ≤ 10999) (f78 : (-10999) ≤ n31) (f79 : (hLe T0 H4 H5 ∧ hFr s_272.2.2.2.2 H4 H5 ∧ ((0 : Int) = 0 → H5.length = H4.length) ∧ hWt T0 H5) ∧ True) (f80 : n31 ≤ n30) (f81 : n32 = w32 (n0 + 1)) : Ab_300_39 n8 n7 n6 n5 n4 n3 n2 n1 n32 H0 H5 ∧ ∀ q, some q0 = some q → mub_300_39 n8 n7 n6 n5 n4 n3 n2 n1 n32 H0 H5 < q := by
  have g4 := f16.2.1.1
  unfold Ab_300_39 at g4
  have g3 := f16.2.1.2
  unfold preb_300 at g3
  have g5 := Option.some.inj f16.2.2
  unfold mub_300_39 at g5
  unfold Ab_300_39
  unfold mub_300_39
  have e0 : n9 = hV H1 285 82 := (by rw [f10] at f19; exact f19 : n9 = hV H1 285 82)
  have e1 : n12 = hV H1 344 (n1).toNat := (by rw [f23] at f27; exact f27 : n12 = hV H1 344 (n1).toNat)
  have e2 : hV H1 298 = hV H0 298 := fRow f16.1.2.1 298 (by decide +kernel)
  have e3 : n13 = hV H0 298 (n12).toNat := (by rw [f21] at f30; exact f30 : n13 = hV H1 298 (n12).toNat).trans ((congrFun e2 _))
  have e4 : n17 = hV H1 344 (n0).toNat := (by rw [f35] at f39; exact f39 : n17 = hV H1 344 (n0).toNat)
  have e5 : n18 = hV H0 298 (n17).toNat := (by rw [f33] at f42; exact f42 : n18 = hV H1 298 (n17).toNat).trans ((congrFun e2 _))
  have e6 : n22 = hV H1 344 (n1).toNat := (by rw [f47] at f51; exact f51 : n22 = hV H1 344 (n1).toNat)
  have e7 : hV H1 300 = hV H0 300 := fRow f16.1.2.1 300 (by decide +kernel)
  have e8 : n23 = hV H0 300 (n22).toNat := (by rw [f45] at f54; exact f54 : n23 = hV H1 300 (n22).toNat).trans ((congrFun e7 _))
  have e9 : n26 = hV H1 344 (n0).toNat := (by rw [f57] at f61; exact f61 : n26 = hV H1 344 (n0).toNat)
  have e10 : n27 = hV H0 300 (n26).toNat := (by rw [f55] at f64; exact f64 : n27 = hV H1 300 (n26).toNat).trans ((congrFun e7 _))
  have e11 : hV H1 301 = hV H0 301 := fRow f16.1.2.1 301 (by decide +kernel)
  have e12 : hV H1 302 = hV H0 302 := fRow f16.1.2.1 302 (by decide +kernel)
  have e13 : hV H1 303 = hV H0 303 := fRow f16.1.2.1 303 (by decide +kernel)
  have e14 : hV H1 305 = hV H0 305 := fRow f16.1.2.1 305 (by decide +kernel)
  have e15 : hV H5 285 82 = hV H4 285 82 := f79.1.2.1.1 285 82 (by decide +kernel)
  have e16 : hV H4 285 82 = hV H3 285 82 := f76.1.2.1.1 285 82 (by decide +kernel)
  have e17 : hV H3 285 82 = hV H2 285 82 := f71.1.2.1.1 285 82 (by decide +kernel)
  have e18 : hV H2 285 82 = hV H1 285 82 := f68.1.2.1.1 285 82 (by decide +kernel)
  have e19 : hV H5 285 82 = hV H1 285 82 := (e15).trans ((e16).trans ((e17).trans e18))
  have e20 : hV H5 298 = hV H4 298 := fRow f79.1.2.1 298 (by decide +kernel)
  have e21 : hV H4 298 = hV H3 298 := fRow f76.1.2.1 298 (by decide +kernel)
  have e22 : hV H3 298 = hV H2 298 := fRow f71.1.2.1 298 (by decide +kernel)
  have e23 : hV H2 298 = hV H1 298 := fRow f68.1.2.1 298 (by decide +kernel)
  have e24 : hV H2 298 = hV H0 298 := e23.trans e2
  have e25 : hV H3 298 = hV H0 298 := e22.trans e24
  have e26 : hV H4 298 = hV H0 298 := e21.trans e25
  have e27 : hV H5 298 = hV H0 298 := e20.trans e26
  have e28 : hV H5 300 = hV H4 300 := fRow f79.1.2.1 300 (by decide +kernel)
  have e29 : hV H4 300 = hV H3 300 := fRow f76.1.2.1 300 (by decide +kernel)
  have e30 : hV H3 300 = hV H2 300 := fRow f71.1.2.1 300 (by decide +kernel)
  have e31 : hV H2 300 = hV H1 300 := fRow f68.1.2.1 300 (by decide +kernel)
  have e32 : hV H2 300 = hV H0 300 := e31.trans e7
  have e33 : hV H3 300 = hV H0 300 := e30.trans e32
  have e34 : hV H4 300 = hV H0 300 := e29.trans e33
  have e35 : hV H5 300 = hV H0 300 := e28.trans e34
  have e36 : hV H5 301 = hV H4 301 := fRow f79.1.2.1 301 (by decide +kernel)
  have e37 : hV H4 301 = hV H3 301 := fRow f76.1.2.1 301 (by decide +kernel)
  have e38 : hV H3 301 = hV H2 301 := fRow f71.1.2.1 301 (by decide +kernel)
  have e39 : hV H2 301 = hV H1 301 := fRow f68.1.2.1 301 (by decide +kernel)
  have e40 : hV H2 301 = hV H0 301 := e39.trans e11
  have e41 : hV H3 301 = hV H0 301 := e38.trans e40
  have e42 : hV H4 301 = hV H0 301 := e37.trans e41
  have e43 : hV H5 301 = hV H0 301 := e36.trans e42
  have e44 : hV H5 302 = hV H4 302 := fRow f79.1.2.1 302 (by decide +kernel)
  have e45 : hV H4 302 = hV H3 302 := fRow f76.1.2.1 302 (by decide +kernel)
  have e46 : hV H3 302 = hV H2 302 := fRow f71.1.2.1 302 (by decide +kernel)
  have e47 : hV H2 302 = hV H1 302 := fRow f68.1.2.1 302 (by decide +kernel)
  have e48 : hV H2 302 = hV H0 302 := e47.trans e12
  have e49 : hV H3 302 = hV H0 302 := e46.trans e48
  have e50 : hV H4 302 = hV H0 302 := e45.trans e49
  have e51 : hV H5 302 = hV H0 302 := e44.trans e50
  have e52 : hV H5 303 = hV H4 303 := fRow f79.1.2.1 303 (by decide +kernel)
  have e53 : hV H4 303 = hV H3 303 := fRow f76.1.2.1 303 (by decide +kernel)
  have e54 : hV H3 303 = hV H2 303 := fRow f71.1.2.1 303 (by decide +kernel)
  have e55 : hV H2 303 = hV H1 303 := fRow f68.1.2.1 303 (by decide +kernel)
  have e56 : hV H2 303 = hV H0 303 := e55.trans e13
  have e57 : hV H3 303 = hV H0 303 := e54.trans e56
  have e58 : hV H4 303 = hV H0 303 := e53.trans e57
  have e59 : hV H5 303 = hV H0 303 := e52.trans e58
  have e60 : hV H5 305 = hV H4 305 := fRow f79.1.2.1 305 (by decide +kernel)
  have e61 : hV H4 305 = hV H3 305 := fRow f76.1.2.1 305 (by decide +kernel)
  have e62 : hV H3 305 = hV H2 305 := fRow f71.1.2.1 305 (by decide +kernel)
  have e63 : hV H2 305 = hV H1 305 := fRow f68.1.2.1 305 (by decide +kernel)
  have e64 : hV H2 305 = hV H0 305 := e63.trans e14
  have e65 : hV H3 305 = hV H0 305 := e62.trans e64
  have e66 : hV H4 305 = hV H0 305 := e61.trans e65
  have e67 : hV H5 305 = hV H0 305 := e60.trans e66
  have e68 : hV H5 344 = hV H4 344 := fRow f79.1.2.1 344 (by decide +kernel)
  have e69 : hV H4 344 = hV H3 344 := fRow f76.1.2.1 344 (by decide +kernel)
  have e70 : hV H3 344 = hV H2 344 := fRow f71.1.2.1 344 (by decide +kernel)
  have e71 : hV H2 344 = hV H1 344 := fRow f68.1.2.1 344 (by decide +kernel)
  have e72 : hV H3 344 = hV H1 344 := e70.trans e71
  have e73 : hV H4 344 = hV H1 344 := e69.trans e72
  have e74 : hV H5 344 = hV H1 344 := e68.trans e73
  have e75 : (0 : Int) ≤ hV H1 285 82 ∧ hV H1 285 82 ≤ 40 := f16.1.2.2 285 82 _ _ (by decide +kernel)
  have e76 : (0 : Int) ≤ hV H5 285 82 ∧ hV H5 285 82 ≤ 40 := f79.1.2.2.2 285 82 _ _ (by decide +kernel)
  try simp only [XQ] at *
  try simp only [e2, e7, e11, e12, e13, e14, e19, e27, e35, e43, e51, e59, e67, e74] at f16
  try simp only [e2, e7, e11, e12, e13, e14, e19, e27, e35, e43, e51, e59, e67, e74] at e75
  try simp only [e2, e7, e11, e12, e13, e14, e19, e27, e35, e43, e51, e59, e67, e74] at e76
  try simp only [e2, e7, e11, e12, e13, e14, e19, e27, e35, e43, e51, e59, e67, e74] at g3
  try simp only [e2, e7, e11, e12, e13, e14, e19, e27, e35, e43, e51, e59, e67, e74] at g4
  try simp only [e2, e7, e11, e12, e13, e14, e19, e27, e35, e43, e51, e59, e67, e74] at g5
  try simp only [e2, e7, e11, e12, e13, e14, e19, e27, e35, e43, e51, e59, e67, e74]
  have k0 := g4.1
  have k1 := g4.2.1
  have y0 := g4.2.2.1
  have y1 := g4.2.2.2
  have p0 := g3
  try simp only [e2, e7, e11, e12, e13, e14, e19, e27, e35, e43, e51, e59, e67, e74] at k0
  try simp only [e2, e7, e11, e12, e13, e14, e19, e27, e35, e43, e51, e59, e67, e74] at k1
  try simp only [e2, e7, e11, e12, e13, e14, e19, e27, e35, e43, e51, e59, e67, e74] at y0
  try simp only [e2, e7, e11, e12, e13, e14, e19, e27, e35, e43, e51, e59, e67, e74] at y1
  try simp only [e2, e7, e11, e12, e13, e14, e19, e27, e35, e43, e51, e59, e67, e74] at p0
  clear g3
  clear g4
  clear f19 f22 f24 f27 f30 f34 f36 f39 f42 f46 f48 f51 f54 f56 f58 f61 f64 e2 e7 e11 e12 e13 e14 e15 e16 e17 e18 e19 e20 e21 e22 e23 e24 e25 e26 e27 e28 e29 e30 e31 e32 e33 e34 e35 e36 e37 e38 e39 e40 e41 e42 e43 e44 e45 e46 e47 e48 e49 e50 e51 e52 e53 e54 e55 e56 e57 e58 e59 e60 e61 e62 e63 e64 e65 e66 e67 e68 e69 e70 e71 e72 e73 e74
  subst e0
  subst e1
  subst e3
  subst e4
  subst e5
  subst e6
  subst e8
  subst e9
  subst e10
  unfold w32 at *
  try (have ix0 : n32 = n0 + 1 := (by omega); subst ix0)
  try subst k1
  try subst k0
  refine ⟨?_, fun q hq => ?_⟩
  · refine ⟨?_, ?_, ?_, ?_⟩ <;> first | assumption | omega | trivial
  · have g6 := Option.some.inj hq
    subst g6
    omega
theorem c_300_39_30 {q0 : Nat} : vOkm T0 (eP e_300 L_300 A_300 mu_300 (some q0)) 3 ([(10, [32, 8], [], 1), (43, [30, 31], [], 0), (1272, [31, 3, 7], [4, 5], 0), (90, [31], [], -10999), (91, [31], [], 10999), (1271, [30, 3, 8], [3, 4], 0), (90, [30], [], -10999), (91, [30], [], 10999), (40, [7, 7], [], 0), (43, [28, 29], [], 0), (1271, [29, 3, 7], [2, 3], 0), (90, [29], [], -10999), (91, [29], [], 10999), (1271, [28, 3, 8], [1, 2], 0), (90, [28], [], -10999), (91, [28], [], 10999), (40, [23, 27], [], 0), (22, [27, 24, 26], [1], 0), (90, [27], [], -1), (91, [27], [], 9999), (22, [26, 25, 8], [1], 0), (90, [26], [], 0), (91, [26], [], 1007), (20, [25, 3], [1], 83), (0, [25], [], 344), (20, [24, 3], [1], 26), (0, [24], [], 300), (22, [23, 20, 22], [1], 0), (90, [23], [], -1), (91, [23], [], 9999), (22, [22, 21, 7], [1], 0), (90, [22], [], 0), (91, [22], [], 1007), (20, [21, 3], [1], 83), (0, [21], [], 344), (20, [20, 3], [1], 26), (0, [20], [], 300), (40, [18, 19], [], 0), (0, [19], [], 1), (22, [18, 15, 17], [1], 0), (90, [18], [], 0), (91, [18], [], 5), (22, [17, 16, 8], [1], 0), (90, [17], [], 0), (91, [17], [], 1007), (20, [16, 3], [1], 83), (0, [16], [], 344), (20, [15, 3], [1], 24), (0, [15], [], 298), (40, [13, 14], [], 0), (0, [14], [], 1), (22, [13, 10, 12], [1], 0), (90, [13], [], 0), (91, [13], [], 5), (22, [12, 11, 7], [1], 0), (90, [12], [], 0), (91, [12], [], 1007), (20, [11, 3], [1], 83), (0, [11], [], 344), (20, [10, 3], [1], 24), (0, [10], [], 298), (42, [8, 9], [], 0), (20, [9, 3], [1], 82), (90, [9], [], 0), (91, [9], [], 40), (5000, [0, 1, 2, 3, 4, 5, 6, 7, 8], [0, 1], 39), (0, [0], [], 285), (90, [1], [], -2147483648), (91, [1], [], 2147483647), (90, [2], [], -2147483648), (91, [2], [], 2147483647), (0, [3], [], 285), (90, [4], [], -2147483648), (91, [4], [], 2147483647), (90, [5], [], -2147483648), (91, [5], [], 2147483647), (90, [6], [], -2147483648), (91, [6], [], 2147483647), (90, [7], [], 0), (91, [7], [], 39), (90, [8], [], 0), (91, [8], [], 40)], (4000, [3, 4, 5, 6, 7, 32], [5], 39)) := vOk_in fun ρ η h => by
  obtain ⟨f0, f1, f2, f3, f4, f5, f6, f7, f8, f9, f10, f11, f12, f13, f14, f15, f16, f17, f18, f19, f20, f21, f22, f23, f24, f25, f26, f27, f28, f29, f30, f31, f32, f33, f34, f35, f36, f37, f38, f39, f40, f41, f42, f43, f44, f45, f46, f47, f48, f49, f50, f51, f52, f53, f54, f55, f56, f57, f58, f59, f60, f61, f62, f63, f64, f65, f66, f67, f68, f69, f70, f71, f72, f73, f74, f75, f76, f77, f78, f79, f80, f81, _⟩ := h
  exact q_300_38 (q0 := q0) (n0 := ρ 8) (n1 := ρ 7) (n2 := ρ 6) (n3 := ρ 5) (n4 := ρ 4) (n5 := ρ 3) (n6 := ρ 2) (n7 := ρ 1) (n8 := ρ 0) (n9 := ρ 9) (n10 := ρ 10) (n11 := ρ 11) (n12 := ρ 12) (n13 := ρ 13) (n14 := ρ 14) (n15 := ρ 15) (n16 := ρ 16) (n17 := ρ 17) (n18 := ρ 18) (n19 := ρ 19) (n20 := ρ 20) (n21 := ρ 21) (n22 := ρ 22) (n23 := ρ 23) (n24 := ρ 24) (n25 := ρ 25) (n26 := ρ 26) (n27 := ρ 27) (n28 := ρ 28) (n29 := ρ 29) (n30 := ρ 30) (n31 := ρ 31) (n32 := ρ 32) (H0 := η 0) (H1 := η 1) (H2 := η 2) (H3 := η 3) (H4 := η 4) (H5 := η 5) f81 f80 f79 f78 f77 f76 f75 f74 f73 f72 f71 f70 f69 f68 f67 f66 f65 f64 f63 f62 f61 f60 f59 f58 f57 f56 f55 f54 f53 f52 f51 f50 f49 f48 f47 f46 f45 f44 f43 f42 f41 f40 f39 f38 f37 f36 f35 f34 f33 f32 f31 f30 f29 f28 f27 f26 f25 f24 f23 f22 f21 f20 f19 f18 f17 f16 f15 f14 f13 f12 f11 f10 f9 f8 f7 f6 f5 f4 f3 f2 f1 f0
theorem q_300_39 {q0 : Nat} {n0 n1 n2 n3 n4 n5 n6 n7 n8 n9 n10 n11 n12 n13 n14 n15 n16 n17 n18 n19 n20 n21 n22 n23 n24 n25 n26 n27 n28 n29 : Int} {H0 H1 H2 H3 : gH} (f0 : n0 ≤ 40) (f1 : 0 ≤ n0) (f2 : n1 ≤ 39) (f3 : 0 ≤ n1) (f4 : n2 ≤ 2147483647) (f5 : (-2147483648) ≤ n2) (f6 : n3 ≤ 2147483647) (f7 : (-2147483648) ≤ n3) (f8 : n4 ≤ 2147483647) (f9 : (-2147483648) ≤ n4) (f10 : n5 = 285) (f11 : n6 ≤ 2147483647) (f12 : (-2147483648) ≤ n6) (f13 : n7 ≤ 2147483647) (f14 : (-2147483648) ≤ n7) (f15 : n8 = 285) (f16 : (hLe T0 H0 H1 ∧ hFr s_300.2.2.2.2 H0 H1 ∧ hWt T0 H1) ∧ (Ab_300_39 n8 n7 n6 n5 n4 n3 n2 n1 n0 H0 H1 ∧ preb_300 n8 n7 n6 H0) ∧ some q0 = some (mub_300_39 n8 n7 n6 n5 n4 n3 n2 n1 n0 H0 H1)) (f17 : n9 ≤ 40) (f18 : 0 ≤ n9) (f19 : n9 = hV H1 (n5).toNat 82) (f20 : n0 < n9) (f21 : n10 = 298) (f22 : n10 = hV H1 (n5).toNat 24) (f23 : n11 = 344) (f24 : n11 = hV H1 (n5).toNat 83) (f25 : n12 ≤ 1007) (f26 : 0 ≤ n12) (f27 : n12 = hV H1 (n11).toNat (n1).toNat) (f28 : n13 ≤ 5) (f29 : 0 ≤ n13) (f30 : n13 = hV H1 (n10).toNat (n12).toNat) (f31 : n14 = 1) (f32 : n13 = n14) (f33 : n15 = 298) (f34 : n15 = hV H1 (n5).toNat 24) (f35 : n16 = 344) (f36 : n16 = hV H1 (n5).toNat 83) (f37 : n17 ≤ 1007) (f38 : 0 ≤ n17) (f39 : n17 = hV H1 (n16).toNat (n0).toNat) (f40 : n18 ≤ 5) (f41 : 0 ≤ n18) (f42 : n18 = hV H1 (n15).toNat (n17).toNat) (f43 : n19 = 1) (f44 : n18 = n19) (f45 : n20 = 300) (f46 : n20 = hV H1 (n5).toNat 26) (f47 : n21 = 344) (f48 : n21 = hV H1 (n5).toNat 83) (f49 : n22 ≤ 1007) (f50 : 0 ≤ n22) (f51 : n22 = hV H1 (n21).toNat (n1).toNat) (f52 : n23 ≤ 9999) (f53 : (-1) ≤ n23) (f54 : n23 = hV H1 (n20).toNat (n22).toNat) (f55 : n24 = 300) (f56 : n24 = hV H1 (n5).toNat 26) (f57 : n25 = 344) (f58 : n25 = hV H1 (n5).toNat 83) (f59 : n26 ≤ 1007) (f60 : 0 ≤ n26) (f61 : n26 = hV H1 (n25).toNat (n0).toNat) (f62 : n27 ≤ 9999) (f63 : (-1) ≤ n27) (f64 : n27 = hV H1 (n24).toNat (n26).toNat) (f65 : n23 = n27) (f66 : n28 ≤ 10999) (f67 : (-10999) ≤ n28) (f68 : (hLe T0 H1 H2 ∧ hFr s_271.2.2.2.2 H1 H2 ∧ ((0 : Int) = 0 → H2.length = H1.length) ∧ hWt T0 H2) ∧ True) (f69 : n29 ≤ 10999) (f70 : (-10999) ≤ n29) (f71 : (hLe T0 H2 H3 ∧ hFr s_271.2.2.2.2 H2 H3 ∧ ((0 : Int) = 0 → H3.length = H2.length) ∧ hWt T0 H3) ∧ True) (f72 : n28 < n29) (f73 : n0 ≠ n1) : preb_271 n5 n1 H3 := by
  have g4 := f16.2.1.1
  unfold Ab_300_39 at g4
  have g3 := f16.2.1.2
  unfold preb_300 at g3
  unfold preb_271
  have e0 : n9 = hV H1 285 82 := (by rw [f10] at f19; exact f19 : n9 = hV H1 285 82)
  have e1 : n12 = hV H1 344 (n1).toNat := (by rw [f23] at f27; exact f27 : n12 = hV H1 344 (n1).toNat)
  have e2 : hV H1 298 = hV H0 298 := fRow f16.1.2.1 298 (by decide +kernel)
  have e3 : n13 = hV H0 298 (n12).toNat := (by rw [f21] at f30; exact f30 : n13 = hV H1 298 (n12).toNat).trans ((congrFun e2 _))
  have e4 : n17 = hV H1 344 (n0).toNat := (by rw [f35] at f39; exact f39 : n17 = hV H1 344 (n0).toNat)
  have e5 : n18 = hV H0 298 (n17).toNat := (by rw [f33] at f42; exact f42 : n18 = hV H1 298 (n17).toNat).trans ((congrFun e2 _))
  have e6 : n22 = hV H1 344 (n1).toNat := (by rw [f47] at f51; exact f51 : n22 = hV H1 344 (n1).toNat)
  have e7 : hV H1 300 = hV H0 300 := fRow f16.1.2.1 300 (by decide +kernel)
  have e8 : n23 = hV H0 300 (n22).toNat := (by rw [f45] at f54; exact f54 : n23 = hV H1 300 (n22).toNat).trans ((congrFun e7 _))
  have e9 : n26 = hV H1 344 (n0).toNat := (by rw [f57] at f61; exact f61 : n26 = hV H1 344 (n0).toNat)
  have e10 : n27 = hV H0 300 (n26).toNat := (by rw [f55] at f64; exact f64 : n27 = hV H1 300 (n26).toNat).trans ((congrFun e7 _))
  have e11 : hV H1 301 = hV H0 301 := fRow f16.1.2.1 301 (by decide +kernel)
  have e12 : hV H1 302 = hV H0 302 := fRow f16.1.2.1 302 (by decide +kernel)
  have e13 : hV H1 303 = hV H0 303 := fRow f16.1.2.1 303 (by decide +kernel)
  have e14 : hV H1 305 = hV H0 305 := fRow f16.1.2.1 305 (by decide +kernel)
  have e15 : hV H3 285 82 = hV H2 285 82 := f71.1.2.1.1 285 82 (by decide +kernel)
  have e16 : hV H2 285 82 = hV H1 285 82 := f68.1.2.1.1 285 82 (by decide +kernel)
  have e17 : hV H3 285 82 = hV H1 285 82 := (e15).trans e16
  have e18 : hV H3 298 = hV H2 298 := fRow f71.1.2.1 298 (by decide +kernel)
  have e19 : hV H2 298 = hV H1 298 := fRow f68.1.2.1 298 (by decide +kernel)
  have e20 : hV H2 298 = hV H0 298 := e19.trans e2
  have e21 : hV H3 298 = hV H0 298 := e18.trans e20
  have e22 : hV H3 300 = hV H2 300 := fRow f71.1.2.1 300 (by decide +kernel)
  have e23 : hV H2 300 = hV H1 300 := fRow f68.1.2.1 300 (by decide +kernel)
  have e24 : hV H2 300 = hV H0 300 := e23.trans e7
  have e25 : hV H3 300 = hV H0 300 := e22.trans e24
  have e26 : hV H3 301 = hV H2 301 := fRow f71.1.2.1 301 (by decide +kernel)
  have e27 : hV H2 301 = hV H1 301 := fRow f68.1.2.1 301 (by decide +kernel)
  have e28 : hV H2 301 = hV H0 301 := e27.trans e11
  have e29 : hV H3 301 = hV H0 301 := e26.trans e28
  have e30 : hV H3 302 = hV H2 302 := fRow f71.1.2.1 302 (by decide +kernel)
  have e31 : hV H2 302 = hV H1 302 := fRow f68.1.2.1 302 (by decide +kernel)
  have e32 : hV H2 302 = hV H0 302 := e31.trans e12
  have e33 : hV H3 302 = hV H0 302 := e30.trans e32
  have e34 : hV H3 303 = hV H2 303 := fRow f71.1.2.1 303 (by decide +kernel)
  have e35 : hV H2 303 = hV H1 303 := fRow f68.1.2.1 303 (by decide +kernel)
  have e36 : hV H2 303 = hV H0 303 := e35.trans e13
  have e37 : hV H3 303 = hV H0 303 := e34.trans e36
  have e38 : hV H3 305 = hV H2 305 := fRow f71.1.2.1 305 (by decide +kernel)
  have e39 : hV H2 305 = hV H1 305 := fRow f68.1.2.1 305 (by decide +kernel)
  have e40 : hV H2 305 = hV H0 305 := e39.trans e14
  have e41 : hV H3 305 = hV H0 305 := e38.trans e40
  have e42 : hV H3 344 = hV H2 344 := fRow f71.1.2.1 344 (by decide +kernel)
  have e43 : hV H2 344 = hV H1 344 := fRow f68.1.2.1 344 (by decide +kernel)
  have e44 : hV H3 344 = hV H1 344 := e42.trans e43
  have e45 : (0 : Int) ≤ hV H1 285 82 ∧ hV H1 285 82 ≤ 40 := f16.1.2.2 285 82 _ _ (by decide +kernel)
  have e46 : (0 : Int) ≤ hV H3 285 82 ∧ hV H3 285 82 ≤ 40 := f71.1.2.2.2 285 82 _ _ (by decide +kernel)
  try simp only [XQ] at *
  try simp only [e2, e7, e11, e12, e13, e14, e17, e21, e25, e29, e33, e37, e41, e44] at f16
  try simp only [e2, e7, e11, e12, e13, e14, e17, e21, e25, e29, e33, e37, e41, e44] at e45
  try simp only [e2, e7, e11, e12, e13, e14, e17, e21, e25, e29, e33, e37, e41, e44] at e46
  try simp only [e2, e7, e11, e12, e13, e14, e17, e21, e25, e29, e33, e37, e41, e44] at g3
  try simp only [e2, e7, e11, e12, e13, e14, e17, e21, e25, e29, e33, e37, e41, e44] at g4
  try simp only [e2, e7, e11, e12, e13, e14, e17, e21, e25, e29, e33, e37, e41, e44]
  have k0 := g4.1
  have k1 := g4.2.1
  have y0 := g4.2.2.1
  have y1 := g4.2.2.2
  have p0 := g3
  try simp only [e2, e7, e11, e12, e13, e14, e17, e21, e25, e29, e33, e37, e41, e44] at k0
  try simp only [e2, e7, e11, e12, e13, e14, e17, e21, e25, e29, e33, e37, e41, e44] at k1
  try simp only [e2, e7, e11, e12, e13, e14, e17, e21, e25, e29, e33, e37, e41, e44] at y0
  try simp only [e2, e7, e11, e12, e13, e14, e17, e21, e25, e29, e33, e37, e41, e44] at y1
  try simp only [e2, e7, e11, e12, e13, e14, e17, e21, e25, e29, e33, e37, e41, e44] at p0
  clear g3
  clear g4
  clear f19 f22 f24 f27 f30 f34 f36 f39 f42 f46 f48 f51 f54 f56 f58 f61 f64 e2 e7 e11 e12 e13 e14 e15 e16 e17 e18 e19 e20 e21 e22 e23 e24 e25 e26 e27 e28 e29 e30 e31 e32 e33 e34 e35 e36 e37 e38 e39 e40 e41 e42 e43 e44
  subst e0
  subst e1
  subst e3
  subst e4
  subst e5
  subst e6
  subst e8
  subst e9
  subst e10
  try subst k1
  try subst k0
  refine ⟨?_, ?_, ?_⟩ <;> first | assumption | omega | trivial
theorem c_300_39_31 {q0 : Nat} : vOkm T0 (eP e_300 L_300 A_300 mu_300 (some q0)) 3 ([(41, [8, 7], [], 0), (42, [28, 29], [], 0), (1271, [29, 3, 7], [2, 3], 0), (90, [29], [], -10999), (91, [29], [], 10999), (1271, [28, 3, 8], [1, 2], 0), (90, [28], [], -10999), (91, [28], [], 10999), (40, [23, 27], [], 0), (22, [27, 24, 26], [1], 0), (90, [27], [], -1), (91, [27], [], 9999), (22, [26, 25, 8], [1], 0), (90, [26], [], 0), (91, [26], [], 1007), (20, [25, 3], [1], 83), (0, [25], [], 344), (20, [24, 3], [1], 26), (0, [24], [], 300), (22, [23, 20, 22], [1], 0), (90, [23], [], -1), (91, [23], [], 9999), (22, [22, 21, 7], [1], 0), (90, [22], [], 0), (91, [22], [], 1007), (20, [21, 3], [1], 83), (0, [21], [], 344), (20, [20, 3], [1], 26), (0, [20], [], 300), (40, [18, 19], [], 0), (0, [19], [], 1), (22, [18, 15, 17], [1], 0), (90, [18], [], 0), (91, [18], [], 5), (22, [17, 16, 8], [1], 0), (90, [17], [], 0), (91, [17], [], 1007), (20, [16, 3], [1], 83), (0, [16], [], 344), (20, [15, 3], [1], 24), (0, [15], [], 298), (40, [13, 14], [], 0), (0, [14], [], 1), (22, [13, 10, 12], [1], 0), (90, [13], [], 0), (91, [13], [], 5), (22, [12, 11, 7], [1], 0), (90, [12], [], 0), (91, [12], [], 1007), (20, [11, 3], [1], 83), (0, [11], [], 344), (20, [10, 3], [1], 24), (0, [10], [], 298), (42, [8, 9], [], 0), (20, [9, 3], [1], 82), (90, [9], [], 0), (91, [9], [], 40), (5000, [0, 1, 2, 3, 4, 5, 6, 7, 8], [0, 1], 39), (0, [0], [], 285), (90, [1], [], -2147483648), (91, [1], [], 2147483647), (90, [2], [], -2147483648), (91, [2], [], 2147483647), (0, [3], [], 285), (90, [4], [], -2147483648), (91, [4], [], 2147483647), (90, [5], [], -2147483648), (91, [5], [], 2147483647), (90, [6], [], -2147483648), (91, [6], [], 2147483647), (90, [7], [], 0), (91, [7], [], 39), (90, [8], [], 0), (91, [8], [], 40)], (2271, [3, 7], [3], 0)) := vOk_in fun ρ η h => by
  obtain ⟨f0, f1, f2, f3, f4, f5, f6, f7, f8, f9, f10, f11, f12, f13, f14, f15, f16, f17, f18, f19, f20, f21, f22, f23, f24, f25, f26, f27, f28, f29, f30, f31, f32, f33, f34, f35, f36, f37, f38, f39, f40, f41, f42, f43, f44, f45, f46, f47, f48, f49, f50, f51, f52, f53, f54, f55, f56, f57, f58, f59, f60, f61, f62, f63, f64, f65, f66, f67, f68, f69, f70, f71, f72, f73, _⟩ := h
  exact q_300_39 (q0 := q0) (n0 := ρ 8) (n1 := ρ 7) (n2 := ρ 6) (n3 := ρ 5) (n4 := ρ 4) (n5 := ρ 3) (n6 := ρ 2) (n7 := ρ 1) (n8 := ρ 0) (n9 := ρ 9) (n10 := ρ 10) (n11 := ρ 11) (n12 := ρ 12) (n13 := ρ 13) (n14 := ρ 14) (n15 := ρ 15) (n16 := ρ 16) (n17 := ρ 17) (n18 := ρ 18) (n19 := ρ 19) (n20 := ρ 20) (n21 := ρ 21) (n22 := ρ 22) (n23 := ρ 23) (n24 := ρ 24) (n25 := ρ 25) (n26 := ρ 26) (n27 := ρ 27) (n28 := ρ 28) (n29 := ρ 29) (H0 := η 0) (H1 := η 1) (H2 := η 2) (H3 := η 3) f73 f72 f71 f70 f69 f68 f67 f66 f65 f64 f63 f62 f61 f60 f59 f58 f57 f56 f55 f54 f53 f52 f51 f50 f49 f48 f47 f46 f45 f44 f43 f42 f41 f40 f39 f38 f37 f36 f35 f34 f33 f32 f31 f30 f29 f28 f27 f26 f25 f24 f23 f22 f21 f20 f19 f18 f17 f16 f15 f14 f13 f12 f11 f10 f9 f8 f7 f6 f5 f4 f3 f2 f1 f0
theorem q_300_40 {q0 : Nat} {n0 n1 n2 n3 n4 n5 n6 n7 n8 n9 n10 n11 n12 n13 n14 n15 n16 n17 n18 n19 n20 n21 n22 n23 n24 n25 n26 n27 : Int} {H0 H1 : gH} (f0 : n0 ≤ 40) (f1 : 0 ≤ n0) (f2 : n1 ≤ 39) (f3 : 0 ≤ n1) (f4 : n2 ≤ 2147483647) (f5 : (-2147483648) ≤ n2) (f6 : n3 ≤ 2147483647) (f7 : (-2147483648) ≤ n3) (f8 : n4 ≤ 2147483647) (f9 : (-2147483648) ≤ n4) (f10 : n5 = 285) (f11 : n6 ≤ 2147483647) (f12 : (-2147483648) ≤ n6) (f13 : n7 ≤ 2147483647) (f14 : (-2147483648) ≤ n7) (f15 : n8 = 285) (f16 : (hLe T0 H0 H1 ∧ hFr s_300.2.2.2.2 H0 H1 ∧ hWt T0 H1) ∧ (Ab_300_39 n8 n7 n6 n5 n4 n3 n2 n1 n0 H0 H1 ∧ preb_300 n8 n7 n6 H0) ∧ some q0 = some (mub_300_39 n8 n7 n6 n5 n4 n3 n2 n1 n0 H0 H1)) (f17 : n9 ≤ 40) (f18 : 0 ≤ n9) (f19 : n9 = hV H1 (n5).toNat 82) (f20 : n0 < n9) (f21 : n10 = 298) (f22 : n10 = hV H1 (n5).toNat 24) (f23 : n11 = 344) (f24 : n11 = hV H1 (n5).toNat 83) (f25 : n12 ≤ 1007) (f26 : 0 ≤ n12) (f27 : n12 = hV H1 (n11).toNat (n1).toNat) (f28 : n13 ≤ 5) (f29 : 0 ≤ n13) (f30 : n13 = hV H1 (n10).toNat (n12).toNat) (f31 : n14 = 1) (f32 : n13 = n14) (f33 : n15 = 298) (f34 : n15 = hV H1 (n5).toNat 24) (f35 : n16 = 344) (f36 : n16 = hV H1 (n5).toNat 83) (f37 : n17 ≤ 1007) (f38 : 0 ≤ n17) (f39 : n17 = hV H1 (n16).toNat (n0).toNat) (f40 : n18 ≤ 5) (f41 : 0 ≤ n18) (f42 : n18 = hV H1 (n15).toNat (n17).toNat) (f43 : n19 = 1) (f44 : n18 = n19) (f45 : n20 = 300) (f46 : n20 = hV H1 (n5).toNat 26) (f47 : n21 = 344) (f48 : n21 = hV H1 (n5).toNat 83) (f49 : n22 ≤ 1007) (f50 : 0 ≤ n22) (f51 : n22 = hV H1 (n21).toNat (n1).toNat) (f52 : n23 ≤ 9999) (f53 : (-1) ≤ n23) (f54 : n23 = hV H1 (n20).toNat (n22).toNat) (f55 : n24 = 300) (f56 : n24 = hV H1 (n5).toNat 26) (f57 : n25 = 344) (f58 : n25 = hV H1 (n5).toNat 83) (f59 : n26 ≤ 1007) (f60 : 0 ≤ n26) (f61 : n26 = hV H1 (n25).toNat (n0).toNat) (f62 : n27 ≤ 9999) (f63 : (-1) ≤ n27) (f64 : n27 = hV H1 (n24).toNat (n26).toNat) (f65 : n23 = n27) (f66 : n0 ≠ n1) : n0 ≤ 39 := by
  have g4 := f16.2.1.1
  unfold Ab_300_39 at g4
  have g3 := f16.2.1.2
  unfold preb_300 at g3
  have e0 : n9 = hV H1 285 82 := (by rw [f10] at f19; exact f19 : n9 = hV H1 285 82)
  have e1 : n12 = hV H1 344 (n1).toNat := (by rw [f23] at f27; exact f27 : n12 = hV H1 344 (n1).toNat)
  have e2 : hV H1 298 = hV H0 298 := fRow f16.1.2.1 298 (by decide +kernel)
  have e3 : n13 = hV H0 298 (n12).toNat := (by rw [f21] at f30; exact f30 : n13 = hV H1 298 (n12).toNat).trans ((congrFun e2 _))
  have e4 : n17 = hV H1 344 (n0).toNat := (by rw [f35] at f39; exact f39 : n17 = hV H1 344 (n0).toNat)
  have e5 : n18 = hV H0 298 (n17).toNat := (by rw [f33] at f42; exact f42 : n18 = hV H1 298 (n17).toNat).trans ((congrFun e2 _))
  have e6 : n22 = hV H1 344 (n1).toNat := (by rw [f47] at f51; exact f51 : n22 = hV H1 344 (n1).toNat)
  have e7 : hV H1 300 = hV H0 300 := fRow f16.1.2.1 300 (by decide +kernel)
  have e8 : n23 = hV H0 300 (n22).toNat := (by rw [f45] at f54; exact f54 : n23 = hV H1 300 (n22).toNat).trans ((congrFun e7 _))
  have e9 : n26 = hV H1 344 (n0).toNat := (by rw [f57] at f61; exact f61 : n26 = hV H1 344 (n0).toNat)
  have e10 : n27 = hV H0 300 (n26).toNat := (by rw [f55] at f64; exact f64 : n27 = hV H1 300 (n26).toNat).trans ((congrFun e7 _))
  have e11 : hV H1 301 = hV H0 301 := fRow f16.1.2.1 301 (by decide +kernel)
  have e12 : hV H1 302 = hV H0 302 := fRow f16.1.2.1 302 (by decide +kernel)
  have e13 : hV H1 303 = hV H0 303 := fRow f16.1.2.1 303 (by decide +kernel)
  have e14 : hV H1 305 = hV H0 305 := fRow f16.1.2.1 305 (by decide +kernel)
  have e15 : (0 : Int) ≤ hV H1 285 82 ∧ hV H1 285 82 ≤ 40 := f16.1.2.2 285 82 _ _ (by decide +kernel)
  try simp only [XQ] at *
  try simp only [e2, e7, e11, e12, e13, e14] at f16
  try simp only [e2, e7, e11, e12, e13, e14] at e15
  try simp only [e2, e7, e11, e12, e13, e14] at g3
  try simp only [e2, e7, e11, e12, e13, e14] at g4
  try simp only [e2, e7, e11, e12, e13, e14]
  have k0 := g4.1
  have k1 := g4.2.1
  have y0 := g4.2.2.1
  have y1 := g4.2.2.2
  have p0 := g3
  try simp only [e2, e7, e11, e12, e13, e14] at k0
  try simp only [e2, e7, e11, e12, e13, e14] at k1
  try simp only [e2, e7, e11, e12, e13, e14] at y0
  try simp only [e2, e7, e11, e12, e13, e14] at y1
  try simp only [e2, e7, e11, e12, e13, e14] at p0
  clear g3
  clear g4
  clear f19 f22 f24 f27 f30 f34 f36 f39 f42 f46 f48 f51 f54 f56 f58 f61 f64 e2 e7 e11 e12 e13 e14
  subst e0
  subst e1
  subst e3
  subst e4
  subst e5
  subst e6
  subst e8
  subst e9
  subst e10
  try subst k1
  try subst k0
  omega
theorem c_300_39_32 {q0 : Nat} : vOkm T0 (eP e_300 L_300 A_300 mu_300 (some q0)) 3 ([(41, [8, 7], [], 0), (40, [23, 27], [], 0), (22, [27, 24, 26], [1], 0), (90, [27], [], -1), (91, [27], [], 9999), (22, [26, 25, 8], [1], 0), (90, [26], [], 0), (91, [26], [], 1007), (20, [25, 3], [1], 83), (0, [25], [], 344), (20, [24, 3], [1], 26), (0, [24], [], 300), (22, [23, 20, 22], [1], 0), (90, [23], [], -1), (91, [23], [], 9999), (22, [22, 21, 7], [1], 0), (90, [22], [], 0), (91, [22], [], 1007), (20, [21, 3], [1], 83), (0, [21], [], 344), (20, [20, 3], [1], 26), (0, [20], [], 300), (40, [18, 19], [], 0), (0, [19], [], 1), (22, [18, 15, 17], [1], 0), (90, [18], [], 0), (91, [18], [], 5), (22, [17, 16, 8], [1], 0), (90, [17], [], 0), (91, [17], [], 1007), (20, [16, 3], [1], 83), (0, [16], [], 344), (20, [15, 3], [1], 24), (0, [15], [], 298), (40, [13, 14], [], 0), (0, [14], [], 1), (22, [13, 10, 12], [1], 0), (90, [13], [], 0), (91, [13], [], 5), (22, [12, 11, 7], [1], 0), (90, [12], [], 0), (91, [12], [], 1007), (20, [11, 3], [1], 83), (0, [11], [], 344), (20, [10, 3], [1], 24), (0, [10], [], 298), (42, [8, 9], [], 0), (20, [9, 3], [1], 82), (90, [9], [], 0), (91, [9], [], 40), (5000, [0, 1, 2, 3, 4, 5, 6, 7, 8], [0, 1], 39), (0, [0], [], 285), (90, [1], [], -2147483648), (91, [1], [], 2147483647), (90, [2], [], -2147483648), (91, [2], [], 2147483647), (0, [3], [], 285), (90, [4], [], -2147483648), (91, [4], [], 2147483647), (90, [5], [], -2147483648), (91, [5], [], 2147483647), (90, [6], [], -2147483648), (91, [6], [], 2147483647), (90, [7], [], 0), (91, [7], [], 39), (90, [8], [], 0), (91, [8], [], 40)], (91, [8], [], 39)) := vOk_in fun ρ η h => by
  obtain ⟨f0, f1, f2, f3, f4, f5, f6, f7, f8, f9, f10, f11, f12, f13, f14, f15, f16, f17, f18, f19, f20, f21, f22, f23, f24, f25, f26, f27, f28, f29, f30, f31, f32, f33, f34, f35, f36, f37, f38, f39, f40, f41, f42, f43, f44, f45, f46, f47, f48, f49, f50, f51, f52, f53, f54, f55, f56, f57, f58, f59, f60, f61, f62, f63, f64, f65, f66, _⟩ := h
  exact q_300_40 (q0 := q0) (n0 := ρ 8) (n1 := ρ 7) (n2 := ρ 6) (n3 := ρ 5) (n4 := ρ 4) (n5 := ρ 3) (n6 := ρ 2) (n7 := ρ 1) (n8 := ρ 0) (n9 := ρ 9) (n10 := ρ 10) (n11 := ρ 11) (n12 := ρ 12) (n13 := ρ 13) (n14 := ρ 14) (n15 := ρ 15) (n16 := ρ 16) (n17 := ρ 17) (n18 := ρ 18) (n19 := ρ 19) (n20 := ρ 20) (n21 := ρ 21) (n22 := ρ 22) (n23 := ρ 23) (n24 := ρ 24) (n25 := ρ 25) (n26 := ρ 26) (n27 := ρ 27) (H0 := η 0) (H1 := η 1) f66 f65 f64 f63 f62 f61 f60 f59 f58 f57 f56 f55 f54 f53 f52 f51 f50 f49 f48 f47 f46 f45 f44 f43 f42 f41 f40 f39 f38 f37 f36 f35 f34 f33 f32 f31 f30 f29 f28 f27 f26 f25 f24 f23 f22 f21 f20 f19 f18 f17 f16 f15 f14 f13 f12 f11 f10 f9 f8 f7 f6 f5 f4 f3 f2 f1 f0
theorem q_300_41 {q0 : Nat} {n0 n1 n2 n3 n4 n5 n6 n7 n8 n9 n10 n11 n12 n13 n14 n15 n16 n17 n18 n19 n20 n21 n22 n23 n24 n25 n26 n27 n28 n29 n30 : Int} {H0 H1 H2 H3 H4 : gH} (f0 : n0 ≤ 40) (f1 : 0 ≤ n0) (f2 : n1 ≤ 39) (f3 : 0 ≤ n1) (f4 : n2 ≤ 2147483647) (f5 : (-2147483648) ≤ n2) (f6 : n3 ≤ 2147483647) (f7 : (-2147483648) ≤ n3) (f8 : n4 ≤ 2147483647) (f9 : (-2147483648) ≤ n4) (f10 : n5 = 285) (f11 : n6 ≤ 2147483647) (f12 : (-2147483648) ≤ n6) (f13 : n7 ≤ 2147483647) (f14 : (-2147483648) ≤ n7) (f15 : n8 = 285) (f16 : (hLe T0 H0 H1 ∧ hFr s_300.2.2.2.2 H0 H1 ∧ hWt T0 H1) ∧ (Ab_300_39 n8 n7 n6 n5 n4 n3 n2 n1 n0 H0 H1 ∧ preb_300 n8 n7 n6 H0) ∧ some q0 = some (mub_300_39 n8 n7 n6 n5 n4 n3 n2 n1 n0 H0 H1)) (f17 : n9 ≤ 40) (f18 : 0 ≤ n9) (f19 : n9 = hV H1 (n5).toNat 82) (f20 : n0 < n9) (f21 : n10 = 298) (f22 : n10 = hV H1 (n5).toNat 24) (f23 : n11 = 344) (f24 : n11 = hV H1 (n5).toNat 83) (f25 : n12 ≤ 1007) (f26 : 0 ≤ n12) (f27 : n12 = hV H1 (n11).toNat (n1).toNat) (f28 : n13 ≤ 5) (f29 : 0 ≤ n13) (f30 : n13 = hV H1 (n10).toNat (n12).toNat) (f31 : n14 = 1) (f32 : n13 = n14) (f33 : n15 = 298) (f34 : n15 = hV H1 (n5).toNat 24) (f35 : n16 = 344) (f36 : n16 = hV H1 (n5).toNat 83) (f37 : n17 ≤ 1007) (f38 : 0 ≤ n17) (f39 : n17 = hV H1 (n16).toNat (n0).toNat) (f40 : n18 ≤ 5) (f41 : 0 ≤ n18) (f42 : n18 = hV H1 (n15).toNat (n17).toNat) (f43 : n19 = 1) (f44 : n18 = n19) (f45 : n20 = 300) (f46 : n20 = hV H1 (n5).toNat 26) (f47 : n21 = 344) (f48 : n21 = hV H1 (n5).toNat 83) (f49 : n22 ≤ 1007) (f50 : 0 ≤ n22) (f51 : n22 = hV H1 (n21).toNat (n1).toNat) (f52 : n23 ≤ 9999) (f53 : (-1) ≤ n23) (f54 : n23 = hV H1 (n20).toNat (n22).toNat) (f55 : n24 = 300) (f56 : n24 = hV H1 (n5).toNat 26) (f57 : n25 = 344) (f58 : n25 = hV H1 (n5).toNat 83) (f59 : n26 ≤ 1007) (f60 : 0 ≤ n26) (f61 : n26 = hV H1 (n25).toNat (n0).toNat) (f62 : n27 ≤ 9999) (f63 : (-1) ≤ n27) (f64 : n27 = hV H1 (n24).toNat (n26).toNat) (f65 : n23 = n27) (f66 : n28 ≤ 10999) (f67 : (-10999) ≤ n28) (f68 : (hLe T0 H1 H2 ∧ hFr s_271.2.2.2.2 H1 H2 ∧ ((0 : Int) = 0 → H2.length = H1.length) ∧ hWt T0 H2) ∧ True) (f69 : n29 ≤ 10999) (f70 : (-10999) ≤ n29) (f71 : (hLe T0 H2 H3 ∧ hFr s_271.2.2.2.2 H2 H3 ∧ ((0 : Int) = 0 → H3.length = H2.length) ∧ hWt T0 H3) ∧ True) (f72 : n28 < n29) (f73 : n0 ≠ n1) (f74 : n30 ≤ 10999) (f75 : (-10999) ≤ n30) (f76 : (hLe T0 H3 H4 ∧ hFr s_271.2.2.2.2 H3 H4 ∧ ((0 : Int) = 0 → H4.length = H3.length) ∧ hWt T0 H4) ∧ True) : preb_272 n5 n0 H4 := by
  have g4 := f16.2.1.1
  unfold Ab_300_39 at g4
  have g3 := f16.2.1.2
  unfold preb_300 at g3
  unfold preb_272
  have e0 : n9 = hV H1 285 82 := (by rw [f10] at f19; exact f19 : n9 = hV H1 285 82)
  have e1 : n12 = hV H1 344 (n1).toNat := (by rw [f23] at f27; exact f27 : n12 = hV H1 344 (n1).toNat)
  have e2 : hV H1 298 = hV H0 298 := fRow f16.1.2.1 298 (by decide +kernel)
  have e3 : n13 = hV H0 298 (n12).toNat := (by rw [f21] at f30; exact f30 : n13 = hV H1 298 (n12).toNat).trans ((congrFun e2 _))
  have e4 : n17 = hV H1 344 (n0).toNat := (by rw [f35] at f39; exact f39 : n17 = hV H1 344 (n0).toNat)
  have e5 : n18 = hV H0 298 (n17).toNat := (by rw [f33] at f42; exact f42 : n18 = hV H1 298 (n17).toNat).trans ((congrFun e2 _))
  have e6 : n22 = hV H1 344 (n1).toNat := (by rw [f47] at f51; exact f51 : n22 = hV H1 344 (n1).toNat)
  have e7 : hV H1 300 = hV H0 300 := fRow f16.1.2.1 300 (by decide +kernel)
  have e8 : n23 = hV H0 300 (n22).toNat := (by rw [f45] at f54; exact f54 : n23 = hV H1 300 (n22).toNat).trans ((congrFun e7 _))
  have e9 : n26 = hV H1 344 (n0).toNat := (by rw [f57] at f61; exact f61 : n26 = hV H1 344 (n0).toNat)
  have e10 : n27 = hV H0 300 (n26).toNat := (by rw [f55] at f64; exact f64 : n27 = hV H1 300 (n26).toNat).trans ((congrFun e7 _))
  have e11 : hV H1 301 = hV H0 301 := fRow f16.1.2.1 301 (by decide +kernel)
  have e12 : hV H1 302 = hV H0 302 := fRow f16.1.2.1 302 (by decide +kernel)
  have e13 : hV H1 303 = hV H0 303 := fRow f16.1.2.1 303 (by decide +kernel)
  have e14 : hV H1 305 = hV H0 305 := fRow f16.1.2.1 305 (by decide +kernel)
  have e15 : hV H4 285 82 = hV H3 285 82 := f76.1.2.1.1 285 82 (by decide +kernel)
  have e16 : hV H3 285 82 = hV H2 285 82 := f71.1.2.1.1 285 82 (by decide +kernel)
  have e17 : hV H2 285 82 = hV H1 285 82 := f68.1.2.1.1 285 82 (by decide +kernel)
  have e18 : hV H4 285 82 = hV H1 285 82 := (e15).trans ((e16).trans e17)
  have e19 : hV H4 298 = hV H3 298 := fRow f76.1.2.1 298 (by decide +kernel)
  have e20 : hV H3 298 = hV H2 298 := fRow f71.1.2.1 298 (by decide +kernel)
  have e21 : hV H2 298 = hV H1 298 := fRow f68.1.2.1 298 (by decide +kernel)
  have e22 : hV H2 298 = hV H0 298 := e21.trans e2
  have e23 : hV H3 298 = hV H0 298 := e20.trans e22
  have e24 : hV H4 298 = hV H0 298 := e19.trans e23
  have e25 : hV H4 300 = hV H3 300 := fRow f76.1.2.1 300 (by decide +kernel)
  have e26 : hV H3 300 = hV H2 300 := fRow f71.1.2.1 300 (by decide +kernel)
  have e27 : hV H2 300 = hV H1 300 := fRow f68.1.2.1 300 (by decide +kernel)
  have e28 : hV H2 300 = hV H0 300 := e27.trans e7
  have e29 : hV H3 300 = hV H0 300 := e26.trans e28
  have e30 : hV H4 300 = hV H0 300 := e25.trans e29
  have e31 : hV H4 301 = hV H3 301 := fRow f76.1.2.1 301 (by decide +kernel)
  have e32 : hV H3 301 = hV H2 301 := fRow f71.1.2.1 301 (by decide +kernel)
  have e33 : hV H2 301 = hV H1 301 := fRow f68.1.2.1 301 (by decide +kernel)
  have e34 : hV H2 301 = hV H0 301 := e33.trans e11
  have e35 : hV H3 301 = hV H0 301 := e32.trans e34
  have e36 : hV H4 301 = hV H0 301 := e31.trans e35
  have e37 : hV H4 302 = hV H3 302 := fRow f76.1.2.1 302 (by decide +kernel)
  have e38 : hV H3 302 = hV H2 302 := fRow f71.1.2.1 302 (by decide +kernel)
  have e39 : hV H2 302 = hV H1 302 := fRow f68.1.2.1 302 (by decide +kernel)
  have e40 : hV H2 302 = hV H0 302 := e39.trans e12
  have e41 : hV H3 302 = hV H0 302 := e38.trans e40
  have e42 : hV H4 302 = hV H0 302 := e37.trans e41
  have e43 : hV H4 303 = hV H3 303 := fRow f76.1.2.1 303 (by decide +kernel)
  have e44 : hV H3 303 = hV H2 303 := fRow f71.1.2.1 303 (by decide +kernel)
  have e45 : hV H2 303 = hV H1 303 := fRow f68.1.2.1 303 (by decide +kernel)
  have e46 : hV H2 303 = hV H0 303 := e45.trans e13
  have e47 : hV H3 303 = hV H0 303 := e44.trans e46
  have e48 : hV H4 303 = hV H0 303 := e43.trans e47
  have e49 : hV H4 305 = hV H3 305 := fRow f76.1.2.1 305 (by decide +kernel)
  have e50 : hV H3 305 = hV H2 305 := fRow f71.1.2.1 305 (by decide +kernel)
  have e51 : hV H2 305 = hV H1 305 := fRow f68.1.2.1 305 (by decide +kernel)
  have e52 : hV H2 305 = hV H0 305 := e51.trans e14
  have e53 : hV H3 305 = hV H0 305 := e50.trans e52
  have e54 : hV H4 305 = hV H0 305 := e49.trans e53
  have e55 : hV H4 344 = hV H3 344 := fRow f76.1.2.1 344 (by decide +kernel)
  have e56 : hV H3 344 = hV H2 344 := fRow f71.1.2.1 344 (by decide +kernel)
  have e57 : hV H2 344 = hV H1 344 := fRow f68.1.2.1 344 (by decide +kernel)
  have e58 : hV H3 344 = hV H1 344 := e56.trans e57
  have e59 : hV H4 344 = hV H1 344 := e55.trans e58
  have e60 : (0 : Int) ≤ hV H1 285 82 ∧ hV H1 285 82 ≤ 40 := f16.1.2.2 285 82 _ _ (by decide +kernel)
  have e61 : (0 : Int) ≤ hV H4 285 82 ∧ hV H4 285 82 ≤ 40 := f76.1.2.2.2 285 82 _ _ (by decide +kernel)
  try simp only [XQ] at *
  try simp only [e2, e7, e11, e12, e13, e14, e18, e24, e30, e36, e42, e48, e54, e59] at f16
  try simp only [e2, e7, e11, e12, e13, e14, e18, e24, e30, e36, e42, e48, e54, e59] at e60
  try simp only [e2, e7, e11, e12, e13, e14, e18, e24, e30, e36, e42, e48, e54, e59] at e61
  try simp only [e2, e7, e11, e12, e13, e14, e18, e24, e30, e36, e42, e48, e54, e59] at g3
  try simp only [e2, e7, e11, e12, e13, e14, e18, e24, e30, e36, e42, e48, e54, e59] at g4
  try simp only [e2, e7, e11, e12, e13, e14, e18, e24, e30, e36, e42, e48, e54, e59]
  have k0 := g4.1
  have k1 := g4.2.1
  have y0 := g4.2.2.1
  have y1 := g4.2.2.2
  have p0 := g3
  try simp only [e2, e7, e11, e12, e13, e14, e18, e24, e30, e36, e42, e48, e54, e59] at k0
  try simp only [e2, e7, e11, e12, e13, e14, e18, e24, e30, e36, e42, e48, e54, e59] at k1
  try simp only [e2, e7, e11, e12, e13, e14, e18, e24, e30, e36, e42, e48, e54, e59] at y0
  try simp only [e2, e7, e11, e12, e13, e14, e18, e24, e30, e36, e42, e48, e54, e59] at y1
  try simp only [e2, e7, e11, e12, e13, e14, e18, e24, e30, e36, e42, e48, e54, e59] at p0
  clear g3
  clear g4
  clear f19 f22 f24 f27 f30 f34 f36 f39 f42 f46 f48 f51 f54 f56 f58 f61 f64 e2 e7 e11 e12 e13 e14 e15 e16 e17 e18 e19 e20 e21 e22 e23 e24 e25 e26 e27 e28 e29 e30 e31 e32 e33 e34 e35 e36 e37 e38 e39 e40 e41 e42 e43 e44 e45 e46 e47 e48 e49 e50 e51 e52 e53 e54 e55 e56 e57 e58 e59
  subst e0
  subst e1
  subst e3
  subst e4
  subst e5
  subst e6
  subst e8
  subst e9
  subst e10
  try subst k1
  try subst k0
  refine ⟨?_, ?_, ?_⟩ <;> first | assumption | omega | trivial
theorem c_300_39_33 {q0 : Nat} : vOkm T0 (eP e_300 L_300 A_300 mu_300 (some q0)) 3 ([(1271, [30, 3, 7], [3, 4], 0), (90, [30], [], -10999), (91, [30], [], 10999), (41, [8, 7], [], 0), (42, [28, 29], [], 0), (1271, [29, 3, 7], [2, 3], 0), (90, [29], [], -10999), (91, [29], [], 10999), (1271, [28, 3, 8], [1, 2], 0), (90, [28], [], -10999), (91, [28], [], 10999), (40, [23, 27], [], 0), (22, [27, 24, 26], [1], 0), (90, [27], [], -1), (91, [27], [], 9999), (22, [26, 25, 8], [1], 0), (90, [26], [], 0), (91, [26], [], 1007), (20, [25, 3], [1], 83), (0, [25], [], 344), (20, [24, 3], [1], 26), (0, [24], [], 300), (22, [23, 20, 22], [1], 0), (90, [23], [], -1), (91, [23], [], 9999), (22, [22, 21, 7], [1], 0), (90, [22], [], 0), (91, [22], [], 1007), (20, [21, 3], [1], 83), (0, [21], [], 344), (20, [20, 3], [1], 26), (0, [20], [], 300), (40, [18, 19], [], 0), (0, [19], [], 1), (22, [18, 15, 17], [1], 0), (90, [18], [], 0), (91, [18], [], 5), (22, [17, 16, 8], [1], 0), (90, [17], [], 0), (91, [17], [], 1007), (20, [16, 3], [1], 83), (0, [16], [], 344), (20, [15, 3], [1], 24), (0, [15], [], 298), (40, [13, 14], [], 0), (0, [14], [], 1), (22, [13, 10, 12], [1], 0), (90, [13], [], 0), (91, [13], [], 5), (22, [12, 11, 7], [1], 0), (90, [12], [], 0), (91, [12], [], 1007), (20, [11, 3], [1], 83), (0, [11], [], 344), (20, [10, 3], [1], 24), (0, [10], [], 298), (42, [8, 9], [], 0), (20, [9, 3], [1], 82), (90, [9], [], 0), (91, [9], [], 40), (5000, [0, 1, 2, 3, 4, 5, 6, 7, 8], [0, 1], 39), (0, [0], [], 285), (90, [1], [], -2147483648), (91, [1], [], 2147483647), (90, [2], [], -2147483648), (91, [2], [], 2147483647), (0, [3], [], 285), (90, [4], [], -2147483648), (91, [4], [], 2147483647), (90, [5], [], -2147483648), (91, [5], [], 2147483647), (90, [6], [], -2147483648), (91, [6], [], 2147483647), (90, [7], [], 0), (91, [7], [], 39), (90, [8], [], 0), (91, [8], [], 40)], (2272, [3, 8], [4], 0)) := vOk_in fun ρ η h => by
  obtain ⟨f0, f1, f2, f3, f4, f5, f6, f7, f8, f9, f10, f11, f12, f13, f14, f15, f16, f17, f18, f19, f20, f21, f22, f23, f24, f25, f26, f27, f28, f29, f30, f31, f32, f33, f34, f35, f36, f37, f38, f39, f40, f41, f42, f43, f44, f45, f46, f47, f48, f49, f50, f51, f52, f53, f54, f55, f56, f57, f58, f59, f60, f61, f62, f63, f64, f65, f66, f67, f68, f69, f70, f71, f72, f73, f74, f75, f76, _⟩ := h
  exact q_300_41 (q0 := q0) (n0 := ρ 8) (n1 := ρ 7) (n2 := ρ 6) (n3 := ρ 5) (n4 := ρ 4) (n5 := ρ 3) (n6 := ρ 2) (n7 := ρ 1) (n8 := ρ 0) (n9 := ρ 9) (n10 := ρ 10) (n11 := ρ 11) (n12 := ρ 12) (n13 := ρ 13) (n14 := ρ 14) (n15 := ρ 15) (n16 := ρ 16) (n17 := ρ 17) (n18 := ρ 18) (n19 := ρ 19) (n20 := ρ 20) (n21 := ρ 21) (n22 := ρ 22) (n23 := ρ 23) (n24 := ρ 24) (n25 := ρ 25) (n26 := ρ 26) (n27 := ρ 27) (n28 := ρ 28) (n29 := ρ 29) (n30 := ρ 30) (H0 := η 0) (H1 := η 1) (H2 := η 2) (H3 := η 3) (H4 := η 4) f76 f75 f74 f73 f72 f71 f70 f69 f68 f67 f66 f65 f64 f63 f62 f61 f60 f59 f58 f57 f56 f55 f54 f53 f52 f51 f50 f49 f48 f47 f46 f45 f44 f43 f42 f41 f40 f39 f38 f37 f36 f35 f34 f33 f32 f31 f30 f29 f28 f27 f26 f25 f24 f23 f22 f21 f20 f19 f18 f17 f16 f15 f14 f13 f12 f11 f10 f9 f8 f7 f6 f5 f4 f3 f2 f1 f0
theorem q_300_42 {q0 : Nat} {n0 n1 n2 n3 n4 n5 n6 n7 n8 n9 n10 n11 n12 n13 n14 n15 n16 n17 n18 n19 n20 n21 n22 n23 n24 n25 n26 n27 n28 n29 : Int} {H0 H1 : gH} (f0 : n0 ≤ 40) (f1 : 0 ≤ n0) (f2 : n1 ≤ 39) (f3 : 0 ≤ n1) (f4 : n2 ≤ 2147483647) (f5 : (-2147483648) ≤ n2) (f6 : n3 ≤ 2147483647) (f7 : (-2147483648) ≤ n3) (f8 : n4 ≤ 2147483647) (f9 : (-2147483648) ≤ n4) (f10 : n5 = 285) (f11 : n6 ≤ 2147483647) (f12 : (-2147483648) ≤ n6) (f13 : n7 ≤ 2147483647) (f14 : (-2147483648) ≤ n7) (f15 : n8 = 285) (f16 : (hLe T0 H0 H1 ∧ hFr s_300.2.2.2.2 H0 H1 ∧ hWt T0 H1) ∧ (Ab_300_39 n8 n7 n6 n5 n4 n3 n2 n1 n0 H0 H1 ∧ preb_300 n8 n7 n6 H0) ∧ some q0 = some (mub_300_39 n8 n7 n6 n5 n4 n3 n2 n1 n0 H0 H1)) (f17 : n9 ≤ 40) (f18 : 0 ≤ n9) (f19 : n9 = hV H1 (n5).toNat 82) (f20 : n0 < n9) (f21 : n10 = 298) (f22 : n10 = hV H1 (n5).toNat 24) (f23 : n11 = 344) (f24 : n11 = hV H1 (n5).toNat 83) (f25 : n12 ≤ 1007) (f26 : 0 ≤ n12) (f27 : n12 = hV H1 (n11).toNat (n1).toNat) (f28 : n13 ≤ 5) (f29 : 0 ≤ n13) (f30 : n13 = hV H1 (n10).toNat (n12).toNat) (f31 : n14 = 1) (f32 : n13 = n14) (f33 : n15 = 298) (f34 : n15 = hV H1 (n5).toNat 24) (f35 : n16 = 344) (f36 : n16 = hV H1 (n5).toNat 83) (f37 : n17 ≤ 1007) (f38 : 0 ≤ n17) (f39 : n17 = hV H1 (n16).toNat (n0).toNat) (f40 : n18 ≤ 5) (f41 : 0 ≤ n18) (f42 : n18 = hV H1 (n15).toNat (n17).toNat) (f43 : n19 = 1) (f44 : n18 = n19) (f45 : n20 = 300) (f46 : n20 = hV H1 (n5).toNat 26) (f47 : n21 = 344) (f48 : n21 = hV H1 (n5).toNat 83) (f49 : n22 ≤ 1007) (f50 : 0 ≤ n22) (f51 : n22 = hV H1 (n21).toNat (n1).toNat) (f52 : n23 ≤ 9999) (f53 : (-1) ≤ n23) (f54 : n23 = hV H1 (n20).toNat (n22).toNat) (f55 : n24 = 300) (f56 : n24 = hV H1 (n5).toNat 26) (f57 : n25 = 344) (f58 : n25 = hV H1 (n5).toNat 83) (f59 : n26 ≤ 1007) (f60 : 0 ≤ n26) (f61 : n26 = hV H1 (n25).toNat (n0).toNat) (f62 : n27 ≤ 9999) (f63 : (-1) ≤ n27) (f64 : n27 = hV H1 (n24).toNat (n26).toNat) (f65 : n23 = n27) (f66 : n0 ≠ n1) (f67 : n2 ≠ 0) (f68 : n28 = w32 (n2 + (-1))) (f69 : n29 = w32 (n0 + 1)) : 0 ≤ n29 := by
  have g4 := f16.2.1.1
  unfold Ab_300_39 at g4
  have g3 := f16.2.1.2
  unfold preb_300 at g3
  have e0 : n9 = hV H1 285 82 := (by rw [f10] at f19; exact f19 : n9 = hV H1 285 82)
  have e1 : n12 = hV H1 344 (n1).toNat := (by rw [f23] at f27; exact f27 : n12 = hV H1 344 (n1).toNat)
  have e2 : hV H1 298 = hV H0 298 := fRow f16.1.2.1 298 (by decide +kernel)
  have e3 : n13 = hV H0 298 (n12).toNat := (by rw [f21] at f30; exact f30 : n13 = hV H1 298 (n12).toNat).trans ((congrFun e2 _))
  have e4 : n17 = hV H1 344 (n0).toNat := (by rw [f35] at f39; exact f39 : n17 = hV H1 344 (n0).toNat)
  have e5 : n18 = hV H0 298 (n17).toNat := (by rw [f33] at f42; exact f42 : n18 = hV H1 298 (n17).toNat).trans ((congrFun e2 _))
  have e6 : n22 = hV H1 344 (n1).toNat := (by rw [f47] at f51; exact f51 : n22 = hV H1 344 (n1).toNat)
  have e7 : hV H1 300 = hV H0 300 := fRow f16.1.2.1 300 (by decide +kernel)
  have e8 : n23 = hV H0 300 (n22).toNat := (by rw [f45] at f54; exact f54 : n23 = hV H1 300 (n22).toNat).trans ((congrFun e7 _))
  have e9 : n26 = hV H1 344 (n0).toNat := (by rw [f57] at f61; exact f61 : n26 = hV H1 344 (n0).toNat)
  have e10 : n27 = hV H0 300 (n26).toNat := (by rw [f55] at f64; exact f64 : n27 = hV H1 300 (n26).toNat).trans ((congrFun e7 _))
  have e11 : hV H1 301 = hV H0 301 := fRow f16.1.2.1 301 (by decide +kernel)
  have e12 : hV H1 302 = hV H0 302 := fRow f16.1.2.1 302 (by decide +kernel)
  have e13 : hV H1 303 = hV H0 303 := fRow f16.1.2.1 303 (by decide +kernel)
  have e14 : hV H1 305 = hV H0 305 := fRow f16.1.2.1 305 (by decide +kernel)
  have e15 : (0 : Int) ≤ hV H1 285 82 ∧ hV H1 285 82 ≤ 40 := f16.1.2.2 285 82 _ _ (by decide +kernel)
  try simp only [XQ] at *
  try simp only [e2, e7, e11, e12, e13, e14] at f16
  try simp only [e2, e7, e11, e12, e13, e14] at e15
  try simp only [e2, e7, e11, e12, e13, e14] at g3
  try simp only [e2, e7, e11, e12, e13, e14] at g4
  try simp only [e2, e7, e11, e12, e13, e14]
  have k0 := g4.1
  have k1 := g4.2.1
  have y0 := g4.2.2.1
  have y1 := g4.2.2.2
  have p0 := g3
  try simp only [e2, e7, e11, e12, e13, e14] at k0
  try simp only [e2, e7, e11, e12, e13, e14] at k1
  try simp only [e2, e7, e11, e12, e13, e14] at y0
  try simp only [e2, e7, e11, e12, e13, e14] at y1
  try simp only [e2, e7, e11, e12, e13, e14] at p0
  clear g3
  clear g4
  clear f19 f22 f24 f27 f30 f34 f36 f39 f42 f46 f48 f51 f54 f56 f58 f61 f64 e2 e7 e11 e12 e13 e14
  subst e0
  subst e1
  subst e3
  subst e4
  subst e5
  subst e6
  subst e8
  subst e9
  subst e10
  unfold w32 at *
  try (have ix0 : n29 = n0 + 1 := (by omega); subst ix0)
  try subst k1
  try subst k0
  omega
theorem c_300_39_34 {q0 : Nat} : vOkm T0 (eP e_300 L_300 A_300 mu_300 (some q0)) 3 ([(10, [33, 8], [], 1), (10, [32, 6], [], -1), (31, [6], [], 0), (41, [8, 7], [], 0), (40, [23, 27], [], 0), (22, [27, 24, 26], [1], 0), (90, [27], [], -1), (91, [27], [], 9999), (22, [26, 25, 8], [1], 0), (90, [26], [], 0), (91, [26], [], 1007), (20, [25, 3], [1], 83), (0, [25], [], 344), (20, [24, 3], [1], 26), (0, [24], [], 300), (22, [23, 20, 22], [1], 0), (90, [23], [], -1), (91, [23], [], 9999), (22, [22, 21, 7], [1], 0), (90, [22], [], 0), (91, [22], [], 1007), (20, [21, 3], [1], 83), (0, [21], [], 344), (20, [20, 3], [1], 26), (0, [20], [], 300), (40, [18, 19], [], 0), (0, [19], [], 1), (22, [18, 15, 17], [1], 0), (90, [18], [], 0), (91, [18], [], 5), (22, [17, 16, 8], [1], 0), (90, [17], [], 0), (91, [17], [], 1007), (20, [16, 3], [1], 83), (0, [16], [], 344), (20, [15, 3], [1], 24), (0, [15], [], 298), (40, [13, 14], [], 0), (0, [14], [], 1), (22, [13, 10, 12], [1], 0), (90, [13], [], 0), (91, [13], [], 5), (22, [12, 11, 7], [1], 0), (90, [12], [], 0), (91, [12], [], 1007), (20, [11, 3], [1], 83), (0, [11], [], 344), (20, [10, 3], [1], 24), (0, [10], [], 298), (42, [8, 9], [], 0), (20, [9, 3], [1], 82), (90, [9], [], 0), (91, [9], [], 40), (5000, [0, 1, 2, 3, 4, 5, 6, 7, 8], [0, 1], 39), (0, [0], [], 285), (90, [1], [], -2147483648), (91, [1], [], 2147483647), (90, [2], [], -2147483648), (91, [2], [], 2147483647), (0, [3], [], 285), (90, [4], [], -2147483648), (91, [4], [], 2147483647), (90, [5], [], -2147483648), (91, [5], [], 2147483647), (90, [6], [], -2147483648), (91, [6], [], 2147483647), (90, [7], [], 0), (91, [7], [], 39), (90, [8], [], 0), (91, [8], [], 40)], (90, [33], [], 0)) := vOk_in fun ρ η h => by
  obtain ⟨f0, f1, f2, f3, f4, f5, f6, f7, f8, f9, f10, f11, f12, f13, f14, f15, f16, f17, f18, f19, f20, f21, f22, f23, f24, f25, f26, f27, f28, f29, f30, f31, f32, f33, f34, f35, f36, f37, f38, f39, f40, f41, f42, f43, f44, f45, f46, f47, f48, f49, f50, f51, f52, f53, f54, f55, f56, f57, f58, f59, f60, f61, f62, f63, f64, f65, f66, f67, f68, f69, _⟩ := h
  exact q_300_42 (q0 := q0) (n0 := ρ 8) (n1 := ρ 7) (n2 := ρ 6) (n3 := ρ 5) (n4 := ρ 4) (n5 := ρ 3) (n6 := ρ 2) (n7 := ρ 1) (n8 := ρ 0) (n9 := ρ 9) (n10 := ρ 10) (n11 := ρ 11) (n12 := ρ 12) (n13 := ρ 13) (n14 := ρ 14) (n15 := ρ 15) (n16 := ρ 16) (n17 := ρ 17) (n18 := ρ 18) (n19 := ρ 19) (n20 := ρ 20) (n21 := ρ 21) (n22 := ρ 22) (n23 := ρ 23) (n24 := ρ 24) (n25 := ρ 25) (n26 := ρ 26) (n27 := ρ 27) (n28 := ρ 32) (n29 := ρ 33) (H0 := η 0) (H1 := η 1) f69 f68 f67 f66 f65 f64 f63 f62 f61 f60 f59 f58 f57 f56 f55 f54 f53 f52 f51 f50 f49 f48 f47 f46 f45 f44 f43 f42 f41 f40 f39 f38 f37 f36 f35 f34 f33 f32 f31 f30 f29 f28 f27 f26 f25 f24 f23 f22 f21 f20 f19 f18 f17 f16 f15 f14 f13 f12 f11 f10 f9 f8 f7 f6 f5 f4 f3 f2 f1 f0
theorem q_300_43 {q0 : Nat} {n0 n1 n2 n3 n4 n5 n6 n7 n8 n9 n10 n11 n12 n13 n14 n15 n16 n17 n18 n19 n20 n21 n22 n23 n24 n25 n26 n27 n28 n29 : Int} {H0 H1 : gH} (f0 : n0 ≤ 40) (f1 : 0 ≤ n0) (f2 : n1 ≤ 39) (f3 : 0 ≤ n1) (f4 : n2 ≤ 2147483647) (f5 : (-2147483648) ≤ n2) (f6 : n3 ≤ 2147483647) (f7 : (-2147483648) ≤ n3) (f8 : n4 ≤ 2147483647) (f9 : (-2147483648) ≤ n4) (f10 : n5 = 285) (f11 : n6 ≤ 2147483647) (f12 : (-2147483648) ≤ n6) (f13 : n7 ≤ 2147483647) (f14 : (-2147483648) ≤ n7) (f15 : n8 = 285) (f16 : (hLe T0 H0 H1 ∧ hFr s_300.2.2.2.2 H0 H1 ∧ hWt T0 H1) ∧ (Ab_300_39 n8 n7 n6 n5 n4 n3 n2 n1 n0 H0 H1 ∧ preb_300 n8 n7 n6 H0) ∧ some q0 = some (mub_300_39 n8 n7 n6 n5 n4 n3 n2 n1 n0 H0 H1)) (f17 : n9 ≤ 40) (f18 : 0 ≤ n9) (f19 : n9 = hV H1 (n5).toNat 82) (f20 : n0 < n9) (f21 : n10 = 298) (f22 : n10 = hV H1 (n5).toNat 24) (f23 : n11 = 344) (f24 : n11 = hV H1 (n5).toNat 83) (f25 : n12 ≤ 1007) (f26 : 0 ≤ n12) (f27 : n12 = hV H1 (n11).toNat (n1).toNat) (f28 : n13 ≤ 5) (f29 : 0 ≤ n13) (f30 : n13 = hV H1 (n10).toNat (n12).toNat) (f31 : n14 = 1) (f32 : n13 = n14) (f33 : n15 = 298) (f34 : n15 = hV H1 (n5).toNat 24) (f35 : n16 = 344) (f36 : n16 = hV H1 (n5).toNat 83) (f37 : n17 ≤ 1007) (f38 : 0 ≤ n17) (f39 : n17 = hV H1 (n16).toNat (n0).toNat) (f40 : n18 ≤ 5) (f41 : 0 ≤ n18) (f42 : n18 = hV H1 (n15).toNat (n17).toNat) (f43 : n19 = 1) (f44 : n18 = n19) (f45 : n20 = 300) (f46 : n20 = hV H1 (n5).toNat 26) (f47 : n21 = 344) (f48 : n21 = hV H1 (n5).toNat 83) (f49 : n22 ≤ 1007) (f50 : 0 ≤ n22) (f51 : n22 = hV H1 (n21).toNat (n1).toNat) (f52 : n23 ≤ 9999) (f53 : (-1) ≤ n23) (f54 : n23 = hV H1 (n20).toNat (n22).toNat) (f55 : n24 = 300) (f56 : n24 = hV H1 (n5).toNat 26) (f57 : n25 = 344) (f58 : n25 = hV H1 (n5).toNat 83) (f59 : n26 ≤ 1007) (f60 : 0 ≤ n26) (f61 : n26 = hV H1 (n25).toNat (n0).toNat) (f62 : n27 ≤ 9999) (f63 : (-1) ≤ n27) (f64 : n27 = hV H1 (n24).toNat (n26).toNat) (f65 : n23 = n27) (f66 : n0 ≠ n1) (f67 : n2 ≠ 0) (f68 : n28 = w32 (n2 + (-1))) (f69 : n29 = w32 (n0 + 1)) : n29 ≤ 40 := by
  have g4 := f16.2.1.1
  unfold Ab_300_39 at g4
  have g3 := f16.2.1.2
  unfold preb_300 at g3
  have e0 : n9 = hV H1 285 82 := (by rw [f10] at f19; exact f19 : n9 = hV H1 285 82)
  have e1 : n12 = hV H1 344 (n1).toNat := (by rw [f23] at f27; exact f27 : n12 = hV H1 344 (n1).toNat)
  have e2 : hV H1 298 = hV H0 298 := fRow f16.1.2.1 298 (by decide +kernel)
  have e3 : n13 = hV H0 298 (n12).toNat := (by rw [f21] at f30; exact f30 : n13 = hV H1 298 (n12).toNat).trans ((congrFun e2 _))
  have e4 : n17 = hV H1 344 (n0).toNat := (by rw [f35] at f39; exact f39 : n17 = hV H1 344 (n0).toNat)
  have e5 : n18 = hV H0 298 (n17).toNat := (by rw [f33] at f42; exact f42 : n18 = hV H1 298 (n17).toNat).trans ((congrFun e2 _))
  have e6 : n22 = hV H1 344 (n1).toNat := (by rw [f47] at f51; exact f51 : n22 = hV H1 344 (n1).toNat)
  have e7 : hV H1 300 = hV H0 300 := fRow f16.1.2.1 300 (by decide +kernel)
  have e8 : n23 = hV H0 300 (n22).toNat := (by rw [f45] at f54; exact f54 : n23 = hV H1 300 (n22).toNat).trans ((congrFun e7 _))
  have e9 : n26 = hV H1 344 (n0).toNat := (by rw [f57] at f61; exact f61 : n26 = hV H1 344 (n0).toNat)
  have e10 : n27 = hV H0 300 (n26).toNat := (by rw [f55] at f64; exact f64 : n27 = hV H1 300 (n26).toNat).trans ((congrFun e7 _))
  have e11 : hV H1 301 = hV H0 301 := fRow f16.1.2.1 301 (by decide +kernel)
  have e12 : hV H1 302 = hV H0 302 := fRow f16.1.2.1 302 (by decide +kernel)
  have e13 : hV H1 303 = hV H0 303 := fRow f16.1.2.1 303 (by decide +kernel)
  have e14 : hV H1 305 = hV H0 305 := fRow f16.1.2.1 305 (by decide +kernel)
  have e15 : (0 : Int) ≤ hV H1 285 82 ∧ hV H1 285 82 ≤ 40 := f16.1.2.2 285 82 _ _ (by decide +kernel)
  try simp only [XQ] at *
  try simp only [e2, e7, e11, e12, e13, e14] at f16
  try simp only [e2, e7, e11, e12, e13, e14] at e15
  try simp only [e2, e7, e11, e12, e13, e14] at g3
  try simp only [e2, e7, e11, e12, e13, e14] at g4
  try simp only [e2, e7, e11, e12, e13, e14]
  have k0 := g4.1
  have k1 := g4.2.1
  have y0 := g4.2.2.1
  have y1 := g4.2.2.2
  have p0 := g3
  try simp only [e2, e7, e11, e12, e13, e14] at k0
  try simp only [e2, e7, e11, e12, e13, e14] at k1
  try simp only [e2, e7, e11, e12, e13, e14] at y0
  try simp only [e2, e7, e11, e12, e13, e14] at y1
  try simp only [e2, e7, e11, e12, e13, e14] at p0
  clear g3
  clear g4
  clear f19 f22 f24 f27 f30 f34 f36 f39 f42 f46 f48 f51 f54 f56 f58 f61 f64 e2 e7 e11 e12 e13 e14
  subst e0
  subst e1
  subst e3
  subst e4
  subst e5
  subst e6
  subst e8
  subst e9
  subst e10
  unfold w32 at *
  try (have ix0 : n29 = n0 + 1 := (by omega); subst ix0)
  try subst k1
  try subst k0
  omega
theorem c_300_39_35 {q0 : Nat} : vOkm T0 (eP e_300 L_300 A_300 mu_300 (some q0)) 3 ([(10, [33, 8], [], 1), (10, [32, 6], [], -1), (31, [6], [], 0), (41, [8, 7], [], 0), (40, [23, 27], [], 0), (22, [27, 24, 26], [1], 0), (90, [27], [], -1), (91, [27], [], 9999), (22, [26, 25, 8], [1], 0), (90, [26], [], 0), (91, [26], [], 1007), (20, [25, 3], [1], 83), (0, [25], [], 344), (20, [24, 3], [1], 26), (0, [24], [], 300), (22, [23, 20, 22], [1], 0), (90, [23], [], -1), (91, [23], [], 9999), (22, [22, 21, 7], [1], 0), (90, [22], [], 0), (91, [22], [], 1007), (20, [21, 3], [1], 83), (0, [21], [], 344), (20, [20, 3], [1], 26), (0, [20], [], 300), (40, [18, 19], [], 0), (0, [19], [], 1), (22, [18, 15, 17], [1], 0), (90, [18], [], 0), (91, [18], [], 5), (22, [17, 16, 8], [1], 0), (90, [17], [], 0), (91, [17], [], 1007), (20, [16, 3], [1], 83), (0, [16], [], 344), (20, [15, 3], [1], 24), (0, [15], [], 298), (40, [13, 14], [], 0), (0, [14], [], 1), (22, [13, 10, 12], [1], 0), (90, [13], [], 0), (91, [13], [], 5), (22, [12, 11, 7], [1], 0), (90, [12], [], 0), (91, [12], [], 1007), (20, [11, 3], [1], 83), (0, [11], [], 344), (20, [10, 3], [1], 24), (0, [10], [], 298), (42, [8, 9], [], 0), (20, [9, 3], [1], 82), (90, [9], [], 0), (91, [9], [], 40), (5000, [0, 1, 2, 3, 4, 5, 6, 7, 8], [0, 1], 39), (0, [0], [], 285), (90, [1], [], -2147483648), (91, [1], [], 2147483647), (90, [2], [], -2147483648), (91, [2], [], 2147483647), (0, [3], [], 285), (90, [4], [], -2147483648), (91, [4], [], 2147483647), (90, [5], [], -2147483648), (91, [5], [], 2147483647), (90, [6], [], -2147483648), (91, [6], [], 2147483647), (90, [7], [], 0), (91, [7], [], 39), (90, [8], [], 0), (91, [8], [], 40)], (91, [33], [], 40)) := vOk_in fun ρ η h => by
  obtain ⟨f0, f1, f2, f3, f4, f5, f6, f7, f8, f9, f10, f11, f12, f13, f14, f15, f16, f17, f18, f19, f20, f21, f22, f23, f24, f25, f26, f27, f28, f29, f30, f31, f32, f33, f34, f35, f36, f37, f38, f39, f40, f41, f42, f43, f44, f45, f46, f47, f48, f49, f50, f51, f52, f53, f54, f55, f56, f57, f58, f59, f60, f61, f62, f63, f64, f65, f66, f67, f68, f69, _⟩ := h
  exact q_300_43 (q0 := q0) (n0 := ρ 8) (n1 := ρ 7) (n2 := ρ 6) (n3 := ρ 5) (n4 := ρ 4) (n5 := ρ 3) (n6 := ρ 2) (n7 := ρ 1) (n8 := ρ 0) (n9 := ρ 9) (n10 := ρ 10) (n11 := ρ 11) (n12 := ρ 12) (n13 := ρ 13) (n14 := ρ 14) (n15 := ρ 15) (n16 := ρ 16) (n17 := ρ 17) (n18 := ρ 18) (n19 := ρ 19) (n20 := ρ 20) (n21 := ρ 21) (n22 := ρ 22) (n23 := ρ 23) (n24 := ρ 24) (n25 := ρ 25) (n26 := ρ 26) (n27 := ρ 27) (n28 := ρ 32) (n29 := ρ 33) (H0 := η 0) (H1 := η 1) f69 f68 f67 f66 f65 f64 f63 f62 f61 f60 f59 f58 f57 f56 f55 f54 f53 f52 f51 f50 f49 f48 f47 f46 f45 f44 f43 f42 f41 f40 f39 f38 f37 f36 f35 f34 f33 f32 f31 f30 f29 f28 f27 f26 f25 f24 f23 f22 f21 f20 f19 f18 f17 f16 f15 f14 f13 f12 f11 f10 f9 f8 f7 f6 f5 f4 f3 f2 f1 f0
theorem q_300_44 {q0 : Nat} {n0 n1 n2 n3 n4 n5 n6 n7 n8 n9 n10 n11 n12 n13 n14 n15 n16 n17 n18 n19 n20 n21 n22 n23 n24 n25 n26 n27 n28 n29 n30 n31 n32 n33 : Int} {H0 H1 H2 H3 H4 H5 : gH} (f0 : n0 ≤ 40) (f1 : 0 ≤ n0) (f2 : n1 ≤ 39) (f3 : 0 ≤ n1) (f4 : n2 ≤ 2147483647) (f5 : (-2147483648) ≤ n2) (f6 : n3 ≤ 2147483647) (f7 : (-2147483648) ≤ n3) (f8 : n4 ≤ 2147483647) (f9 : (-2147483648) ≤ n4) (f10 : n5 = 285) (f11 : n6 ≤ 2147483647) (f12 : (-2147483648) ≤ n6) (f13 : n7 ≤ 2147483647) (f14 : (-2147483648) ≤ n7) (f15 : n8 = 285) (f16 : (hLe T0 H0 H1 ∧ hFr s_300.2.2.2.2 H0 H1 ∧ hWt T0 H1) ∧ (Ab_300_39 n8 n7 n6 n5 n4 n3 n2 n1 n0 H0 H1 ∧ preb_300 n8 n7 n6 H0) ∧ some q0 = some (mub_300_39 n8 n7 n6 n5 n4 n3 n2 n1 n0 H0 H1)) (f17 : n9 ≤ 40) (f18 : 0 ≤ n9) (f19 : n9 = hV H1 (n5).toNat 82) (f20 : n0 < n9) (f21 : n10 = 298) (f22 : n10 = hV H1 (n5).toNat 24) (f23 : n11 = 344) (f24 : n11 = hV H1 (n5).toNat 83) (f25 : n12 ≤ 1007) (f26 : 0 ≤ n12) (f27 : n12 = hV H1 (n11).toNat (n1).toNat) (f28 : n13 ≤ 5) (f29 : 0 ≤ n13) (f30 : n13 = hV H1 (n10).toNat (n12).toNat) (f31 : n14 = 1) (f32 : n13 = n14) (f33 : n15 = 298) (f34 : n15 = hV H1 (n5).toNat 24) (f35 : n16 = 344) (f36 : n16 = hV H1 (n5).toNat 83) (f37 : n17 ≤ 1007) (f38 : 0 ≤ n17) (f39 : n17 = hV H1 (n16).toNat (n0).toNat) (f40 : n18 ≤ 5) (f41 : 0 ≤ n18) (f42 : n18 = hV H1 (n15).toNat (n17).toNat) (f43 : n19 = 1) (f44 : n18 = n19) (f45 : n20 = 300) (f46 : n20 = hV H1 (n5).toNat 26) (f47 : n21 = 344) (f48 : n21 = hV H1 (n5).toNat 83) (f49 : n22 ≤ 1007) (f50 : 0 ≤ n22) (f51 : n22 = hV H1 (n21).toNat (n1).toNat) (f52 : n23 ≤ 9999) (f53 : (-1) ≤ n23) (f54 : n23 = hV H1 (n20).toNat (n22).toNat) (f55 : n24 = 300) (f56 : n24 = hV H1 (n5).toNat 26) (f57 : n25 = 344) (f58 : n25 = hV H1 (n5).toNat 83) (f59 : n26 ≤ 1007) (f60 : 0 ≤ n26) (f61 : n26 = hV H1 (n25).toNat (n0).toNat) (f62 : n27 ≤ 9999) (f63 : (-1) ≤ n27) (f64 : n27 = hV H1 (n24).toNat (n26).toNat) (f65 : n23 = n27) (f66 : n28 ≤ 10999) (f67 : (-10999) ≤ n28) (f68 : (hLe T0 H1 H2 ∧ hFr s_271.2.2.2.2 H1 H2 ∧ ((0 : Int) = 0 → H2.length = H1.length) ∧ hWt T0 H2) ∧ True) (f69 : n29 ≤ 10999) (f70 : (-10999) ≤ n29) (f71 : (hLe T0 H2 H3 ∧ hFr s_271.2.2.2.2 H2 H3 ∧ ((0 : Int) = 0 → H3.length = H2.length) ∧ hWt T0 H3) ∧ True) (f72 : n28 < n29) (f73 : n0 ≠ n1) (f74 : n30 ≤ 10999) (f75 : (-10999) ≤ n30) (f76 : (hLe T0 H3 H4 ∧ hFr s_271.2.2.2.2 H3 H4 ∧ ((0 : Int) = 0 → H4.length = H3.length) ∧ hWt T0 H4) ∧ True) (f77 : n31 ≤ 10999) (f78 : (-10999) ≤ n31) (f79 : (hLe T0 H4 H5 ∧ hFr s_272.2.2.2.2 H4 H5 ∧ ((0 : Int) = 0 → H5.length = H4.length) ∧ hWt T0 H5) ∧ True) (f80 : n30 < n31) (f81 : n2 ≠ 0) (f82 : n32 = w32 (n2 + (-1))) (f83 : n33 = w32 (n0 + 1)) : Ab_300_39 n8 n7 n6 n5 n4 n3 n32 n1 n33 H0 H5 ∧ ∀ q, some q0 = some q → mub_300_39 n8 n7 n6 n5 n4 n3 n32 n1 n33 H0 H5 < q := by
  have g4 := f16.2.1.1
  unfold Ab_300_39 at g4
  have g3 := f16.2.1.2
  unfold preb_300 at g3
  have g5 := Option.some.inj f16.2.2
  unfold mub_300_39 at g5
  unfold Ab_300_39
  unfold mub_300_39
  have e0 : n9 = hV H1 285 82 := (by rw [f10] at f19; exact f19 : n9 = hV H1 285 82)
  have e1 : n12 = hV H1 344 (n1).toNat := (by rw [f23] at f27; exact f27 : n12 = hV H1 344 (n1).toNat)
  have e2 : hV H1 298 = hV H0 298 := fRow f16.1.2.1 298 (by decide +kernel)
  have e3 : n13 = hV H0 298 (n12).toNat := (by rw [f21] at f30; exact f30 : n13 = hV H1 298 (n12).toNat).trans ((congrFun e2 _))
  have e4 : n17 = hV H1 344 (n0).toNat := (by rw [f35] at f39; exact f39 : n17 = hV H1 344 (n0).toNat)
  have e5 : n18 = hV H0 298 (n17).toNat := (by rw [f33] at f42; exact f42 : n18 = hV H1 298 (n17).toNat).trans ((congrFun e2 _))
  have e6 : n22 = hV H1 344 (n1).toNat := (by rw [f47] at f51; exact f51 : n22 = hV H1 344 (n1).toNat)
  have e7 : hV H1 300 = hV H0 300 := fRow f16.1.2.1 300 (by decide +kernel)
  have e8 : n23 = hV H0 300 (n22).toNat := (by rw [f45] at f54; exact f54 : n23 = hV H1 300 (n22).toNat).trans ((congrFun e7 _))
  have e9 : n26 = hV H1 344 (n0).toNat := (by rw [f57] at f61; exact f61 : n26 = hV H1 344 (n0).toNat)
  have e10 : n27 = hV H0 300 (n26).toNat := (by rw [f55] at f64; exact f64 : n27 = hV H1 300 (n26).toNat).trans ((congrFun e7 _))
  have e11 : hV H1 301 = hV H0 301 := fRow f16.1.2.1 301 (by decide +kernel)
  have e12 : hV H1 302 = hV H0 302 := fRow f16.1.2.1 302 (by decide +kernel)
  have e13 : hV H1 303 = hV H0 303 := fRow f16.1.2.1 303 (by decide +kernel)
  have e14 : hV H1 305 = hV H0 305 := fRow f16.1.2.1 305 (by decide +kernel)
  have e15 : hV H5 285 82 = hV H4 285 82 := f79.1.2.1.1 285 82 (by decide +kernel)
  have e16 : hV H4 285 82 = hV H3 285 82 := f76.1.2.1.1 285 82 (by decide +kernel)
  have e17 : hV H3 285 82 = hV H2 285 82 := f71.1.2.1.1 285 82 (by decide +kernel)
  have e18 : hV H2 285 82 = hV H1 285 82 := f68.1.2.1.1 285 82 (by decide +kernel)
  have e19 : hV H5 285 82 = hV H1 285 82 := (e15).trans ((e16).trans ((e17).trans e18))
  have e20 : hV H5 298 = hV H4 298 := fRow f79.1.2.1 298 (by decide +kernel)
  have e21 : hV H4 298 = hV H3 298 := fRow f76.1.2.1 298 (by decide +kernel)
  have e22 : hV H3 298 = hV H2 298 := fRow f71.1.2.1 298 (by decide +kernel)
  have e23 : hV H2 298 = hV H1 298 := fRow f68.1.2.1 298 (by decide +kernel)
  have e24 : hV H2 298 = hV H0 298 := e23.trans e2
  have e25 : hV H3 298 = hV H0 298 := e22.trans e24
  have e26 : hV H4 298 = hV H0 298 := e21.trans e25
  have e27 : hV H5 298 = hV H0 298 := e20.trans e26
  have e28 : hV H5 300 = hV H4 300 := fRow f79.1.2.1 300 (by decide +kernel)
  have e29 : hV H4 300 = hV H3 300 := fRow f76.1.2.1 300 (by decide +kernel)
  have e30 : hV H3 300 = hV H2 300 := fRow f71.1.2.1 300 (by decide +kernel)
  have e31 : hV H2 300 = hV H1 300 := fRow f68.1.2.1 300 (by decide +kernel)
  have e32 : hV H2 300 = hV H0 300 := e31.trans e7
  have e33 : hV H3 300 = hV H0 300 := e30.trans e32
  have e34 : hV H4 300 = hV H0 300 := e29.trans e33
  have e35 : hV H5 300 = hV H0 300 := e28.trans e34
  have e36 : hV H5 301 = hV H4 301 := fRow f79.1.2.1 301 (by decide +kernel)
  have e37 : hV H4 301 = hV H3 301 := fRow f76.1.2.1 301 (by decide +kernel)
  have e38 : hV H3 301 = hV H2 301 := fRow f71.1.2.1 301 (by decide +kernel)
  have e39 : hV H2 301 = hV H1 301 := fRow f68.1.2.1 301 (by decide +kernel)
  have e40 : hV H2 301 = hV H0 301 := e39.trans e11
  have e41 : hV H3 301 = hV H0 301 := e38.trans e40
  have e42 : hV H4 301 = hV H0 301 := e37.trans e41
  have e43 : hV H5 301 = hV H0 301 := e36.trans e42
  have e44 : hV H5 302 = hV H4 302 := fRow f79.1.2.1 302 (by decide +kernel)
  have e45 : hV H4 302 = hV H3 302 := fRow f76.1.2.1 302 (by decide +kernel)
  have e46 : hV H3 302 = hV H2 302 := fRow f71.1.2.1 302 (by decide +kernel)
  have e47 : hV H2 302 = hV H1 302 := fRow f68.1.2.1 302 (by decide +kernel)
  have e48 : hV H2 302 = hV H0 302 := e47.trans e12
  have e49 : hV H3 302 = hV H0 302 := e46.trans e48
  have e50 : hV H4 302 = hV H0 302 := e45.trans e49
  have e51 : hV H5 302 = hV H0 302 := e44.trans e50
  have e52 : hV H5 303 = hV H4 303 := fRow f79.1.2.1 303 (by decide +kernel)
  have e53 : hV H4 303 = hV H3 303 := fRow f76.1.2.1 303 (by decide +kernel)
  have e54 : hV H3 303 = hV H2 303 := fRow f71.1.2.1 303 (by decide +kernel)
  have e55 : hV H2 303 = hV H1 303 := fRow f68.1.2.1 303 (by decide +kernel)
  have e56 : hV H2 303 = hV H0 303 := e55.trans e13
  have e57 : hV H3 303 = hV H0 303 := e54.trans e56
  have e58 : hV H4 303 = hV H0 303 := e53.trans e57
  have e59 : hV H5 303 = hV H0 303 := e52.trans e58
  have e60 : hV H5 305 = hV H4 305 := fRow f79.1.2.1 305 (by decide +kernel)
  have e61 : hV H4 305 = hV H3 305 := fRow f76.1.2.1 305 (by decide +kernel)
  have e62 : hV H3 305 = hV H2 305 := fRow f71.1.2.1 305 (by decide +kernel)
  have e63 : hV H2 305 = hV H1 305 := fRow f68.1.2.1 305 (by decide +kernel)
  have e64 : hV H2 305 = hV H0 305 := e63.trans e14
  have e65 : hV H3 305 = hV H0 305 := e62.trans e64
  have e66 : hV H4 305 = hV H0 305 := e61.trans e65
  have e67 : hV H5 305 = hV H0 305 := e60.trans e66
  have e68 : hV H5 344 = hV H4 344 := fRow f79.1.2.1 344 (by decide +kernel)
  have e69 : hV H4 344 = hV H3 344 := fRow f76.1.2.1 344 (by decide +kernel)
  have e70 : hV H3 344 = hV H2 344 := fRow f71.1.2.1 344 (by decide +kernel)
  have e71 : hV H2 344 = hV H1 344 := fRow f68.1.2.1 344 (by decide +kernel)
  have e72 : hV H3 344 = hV H1 344 := e70.trans e71
  have e73 : hV H4 344 = hV H1 344 := e69.trans e72
  have e74 : hV H5 344 = hV H1 344 := e68.trans e73
  have e75 : (0 : Int) ≤ hV H1 285 82 ∧ hV H1 285 82 ≤ 40 := f16.1.2.2 285 82 _ _ (by decide +kernel)
  have e76 : (0 : Int) ≤ hV H5 285 82 ∧ hV H5 285 82 ≤ 40 := f79.1.2.2.2 285 82 _ _ (by decide +kernel)
  try simp only [XQ] at *
  try simp only [e2, e7, e11, e12, e13, e14, e19, e27, e35, e43, e51, e59, e67, e74] at f16
  try simp only [e2, e7, e11, e12, e13, e14, e19, e27, e35, e43, e51, e59, e67, e74] at e75
  try simp only [e2, e7, e11, e12, e13, e14, e19, e27, e35, e43, e51, e59, e67, e74] at e76
  try simp only [e2, e7, e11, e12, e13, e14, e19, e27, e35, e43, e51, e59, e67, e74] at g3
  try simp only [e2, e7, e11, e12, e13, e14, e19, e27, e35, e43, e51, e59, e67, e74] at g4
  try simp only [e2, e7, e11, e12, e13, e14, e19, e27, e35, e43, e51, e59, e67, e74] at g5
  try simp only [e2, e7, e11, e12, e13, e14, e19, e27, e35, e43, e51, e59, e67, e74]
  have k0 := g4.1
  have k1 := g4.2.1
  have y0 := g4.2.2.1
  have y1 := g4.2.2.2
  have p0 := g3
  try simp only [e2, e7, e11, e12, e13, e14, e19, e27, e35, e43, e51, e59, e67, e74] at k0
  try simp only [e2, e7, e11, e12, e13, e14, e19, e27, e35, e43, e51, e59, e67, e74] at k1
  try simp only [e2, e7, e11, e12, e13, e14, e19, e27, e35, e43, e51, e59, e67, e74] at y0
  try simp only [e2, e7, e11, e12, e13, e14, e19, e27, e35, e43, e51, e59, e67, e74] at y1
  try simp only [e2, e7, e11, e12, e13, e14, e19, e27, e35, e43, e51, e59, e67, e74] at p0
  clear g3
  clear g4
  clear f19 f22 f24 f27 f30 f34 f36 f39 f42 f46 f48 f51 f54 f56 f58 f61 f64 e2 e7 e11 e12 e13 e14 e15 e16 e17 e18 e19 e20 e21 e22 e23 e24 e25 e26 e27 e28 e29 e30 e31 e32 e33 e34 e35 e36 e37 e38 e39 e40 e41 e42 e43 e44 e45 e46 e47 e48 e49 e50 e51 e52 e53 e54 e55 e56 e57 e58 e59 e60 e61 e62 e63 e64 e65 e66 e67 e68 e69 e70 e71 e72 e73 e74
  subst e0
  subst e1
  subst e3
  subst e4
  subst e5
  subst e6
  subst e8
  subst e9
  subst e10
  unfold w32 at *
  try (have ix0 : n32 = n2 + -1 := (by omega); subst ix0)
  try (have ix1 : n33 = n0 + 1 := (by omega); subst ix1)
  try subst k1
  try subst k0
  refine ⟨?_, fun q hq => ?_⟩
  · refine ⟨?_, ?_, ?_, ?_⟩ <;> first | assumption | omega | trivial
  · have g6 := Option.some.inj hq
    subst g6
    omega
theorem c_300_39_36 {q0 : Nat} : vOkm T0 (eP e_300 L_300 A_300 mu_300 (some q0)) 3 ([(10, [33, 8], [], 1), (10, [32, 6], [], -1), (31, [6], [], 0), (42, [30, 31], [], 0), (1272, [31, 3, 8], [4, 5], 0), (90, [31], [], -10999), (91, [31], [], 10999), (1271, [30, 3, 7], [3, 4], 0), (90, [30], [], -10999), (91, [30], [], 10999), (41, [8, 7], [], 0), (42, [28, 29], [], 0), (1271, [29, 3, 7], [2, 3], 0), (90, [29], [], -10999), (91, [29], [], 10999), (1271, [28, 3, 8], [1, 2], 0), (90, [28], [], -10999), (91, [28], [], 10999), (40, [23, 27], [], 0), (22, [27, 24, 26], [1], 0), (90, [27], [], -1), (91, [27], [], 9999), (22, [26, 25, 8], [1], 0), (90, [26], [], 0), (91, [26], [], 1007), (20, [25, 3], [1], 83), (0, [25], [], 344), (20, [24, 3], [1], 26), (0, [24], [], 300), (22, [23, 20, 22], [1], 0), (90, [23], [], -1), (91, [23], [], 9999), (22, [22, 21, 7], [1], 0), (90, [22], [], 0), (91, [22], [], 1007), (20, [21, 3], [1], 83), (0, [21], [], 344), (20, [20, 3], [1], 26), (0, [20], [], 300), (40, [18, 19], [], 0), (0, [19], [], 1), (22, [18, 15, 17], [1], 0), (90, [18], [], 0), (91, [18], [], 5), (22, [17, 16, 8], [1], 0), (90, [17], [], 0), (91, [17], [], 1007), (20, [16, 3], [1], 83), (0, [16], [], 344), (20, [15, 3], [1], 24), (0, [15], [], 298), (40, [13, 14], [], 0), (0, [14], [], 1), (22, [13, 10, 12], [1], 0), (90, [13], [], 0), (91, [13], [], 5), (22, [12, 11, 7], [1], 0), (90, [12], [], 0), (91, [12], [], 1007), (20, [11, 3], [1], 83), (0, [11], [], 344), (20, [10, 3], [1], 24), (0, [10], [], 298), (42, [8, 9], [], 0), (20, [9, 3], [1], 82), (90, [9], [], 0), (91, [9], [], 40), (5000, [0, 1, 2, 3, 4, 5, 6, 7, 8], [0, 1], 39), (0, [0], [], 285), (90, [1], [], -2147483648), (91, [1], [], 2147483647), (90, [2], [], -2147483648), (91, [2], [], 2147483647), (0, [3], [], 285), (90, [4], [], -2147483648), (91, [4], [], 2147483647), (90, [5], [], -2147483648), (91, [5], [], 2147483647), (90, [6], [], -2147483648), (91, [6], [], 2147483647), (90, [7], [], 0), (91, [7], [], 39), (90, [8], [], 0), (91, [8], [], 40)], (4000, [3, 4, 5, 32, 7, 33], [5], 39)) := vOk_in fun ρ η h => by
  obtain ⟨f0, f1, f2, f3, f4, f5, f6, f7, f8, f9, f10, f11, f12, f13, f14, f15, f16, f17, f18, f19, f20, f21, f22, f23, f24, f25, f26, f27, f28, f29, f30, f31, f32, f33, f34, f35, f36, f37, f38, f39, f40, f41, f42, f43, f44, f45, f46, f47, f48, f49, f50, f51, f52, f53, f54, f55, f56, f57, f58, f59, f60, f61, f62, f63, f64, f65, f66, f67, f68, f69, f70, f71, f72, f73, f74, f75, f76, f77, f78, f79, f80, f81, f82, f83, _⟩ := h
  exact q_300_44 (q0 := q0) (n0 := ρ 8) (n1 := ρ 7) (n2 := ρ 6) (n3 := ρ 5) (n4 := ρ 4) (n5 := ρ 3) (n6 := ρ 2) (n7 := ρ 1) (n8 := ρ 0) (n9 := ρ 9) (n10 := ρ 10) (n11 := ρ 11) (n12 := ρ 12) (n13 := ρ 13) (n14 := ρ 14) (n15 := ρ 15) (n16 := ρ 16) (n17 := ρ 17) (n18 := ρ 18) (n19 := ρ 19) (n20 := ρ 20) (n21 := ρ 21) (n22 := ρ 22) (n23 := ρ 23) (n24 := ρ 24) (n25 := ρ 25) (n26 := ρ 26) (n27 := ρ 27) (n28 := ρ 28) (n29 := ρ 29) (n30 := ρ 30) (n31 := ρ 31) (n32 := ρ 32) (n33 := ρ 33) (H0 := η 0) (H1 := η 1) (H2 := η 2) (H3 := η 3) (H4 := η 4) (H5 := η 5) f83 f82 f81 f80 f79 f78 f77 f76 f75 f74 f73 f72 f71 f70 f69 f68 f67 f66 f65 f64 f63 f62 f61 f60 f59 f58 f57 f56 f55 f54 f53 f52 f51 f50 f49 f48 f47 f46 f45 f44 f43 f42 f41 f40 f39 f38 f37 f36 f35 f34 f33 f32 f31 f30 f29 f28 f27 f26 f25 f24 f23 f22 f21 f20 f19 f18 f17 f16 f15 f14 f13 f12 f11 f10 f9 f8 f7 f6 f5 f4 f3 f2 f1 f0
theorem q_300_45 {q0 : Nat} {n0 n1 n2 n3 n4 n5 n6 n7 n8 n9 n10 n11 n12 n13 n14 n15 n16 n17 n18 n19 n20 n21 n22 n23 n24 n25 n26 n27 n28 : Int} {H0 H1 : gH} (f0 : n0 ≤ 40) (f1 : 0 ≤ n0) (f2 : n1 ≤ 39) (f3 : 0 ≤ n1) (f4 : n2 ≤ 2147483647) (f5 : (-2147483648) ≤ n2) (f6 : n3 ≤ 2147483647) (f7 : (-2147483648) ≤ n3) (f8 : n4 ≤ 2147483647) (f9 : (-2147483648) ≤ n4) (f10 : n5 = 285) (f11 : n6 ≤ 2147483647) (f12 : (-2147483648) ≤ n6) (f13 : n7 ≤ 2147483647) (f14 : (-2147483648) ≤ n7) (f15 : n8 = 285) (f16 : (hLe T0 H0 H1 ∧ hFr s_300.2.2.2.2 H0 H1 ∧ hWt T0 H1) ∧ (Ab_300_39 n8 n7 n6 n5 n4 n3 n2 n1 n0 H0 H1 ∧ preb_300 n8 n7 n6 H0) ∧ some q0 = some (mub_300_39 n8 n7 n6 n5 n4 n3 n2 n1 n0 H0 H1)) (f17 : n9 ≤ 40) (f18 : 0 ≤ n9) (f19 : n9 = hV H1 (n5).toNat 82) (f20 : n0 < n9) (f21 : n10 = 298) (f22 : n10 = hV H1 (n5).toNat 24) (f23 : n11 = 344) (f24 : n11 = hV H1 (n5).toNat 83) (f25 : n12 ≤ 1007) (f26 : 0 ≤ n12) (f27 : n12 = hV H1 (n11).toNat (n1).toNat) (f28 : n13 ≤ 5) (f29 : 0 ≤ n13) (f30 : n13 = hV H1 (n10).toNat (n12).toNat) (f31 : n14 = 1) (f32 : n13 = n14) (f33 : n15 = 298) (f34 : n15 = hV H1 (n5).toNat 24) (f35 : n16 = 344) (f36 : n16 = hV H1 (n5).toNat 83) (f37 : n17 ≤ 1007) (f38 : 0 ≤ n17) (f39 : n17 = hV H1 (n16).toNat (n0).toNat) (f40 : n18 ≤ 5) (f41 : 0 ≤ n18) (f42 : n18 = hV H1 (n15).toNat (n17).toNat) (f43 : n19 = 1) (f44 : n18 = n19) (f45 : n20 = 300) (f46 : n20 = hV H1 (n5).toNat 26) (f47 : n21 = 344) (f48 : n21 = hV H1 (n5).toNat 83) (f49 : n22 ≤ 1007) (f50 : 0 ≤ n22) (f51 : n22 = hV H1 (n21).toNat (n1).toNat) (f52 : n23 ≤ 9999) (f53 : (-1) ≤ n23) (f54 : n23 = hV H1 (n20).toNat (n22).toNat) (f55 : n24 = 300) (f56 : n24 = hV H1 (n5).toNat 26) (f57 : n25 = 344) (f58 : n25 = hV H1 (n5).toNat 83) (f59 : n26 ≤ 1007) (f60 : 0 ≤ n26) (f61 : n26 = hV H1 (n25).toNat (n0).toNat) (f62 : n27 ≤ 9999) (f63 : (-1) ≤ n27) (f64 : n27 = hV H1 (n24).toNat (n26).toNat) (f65 : n23 = n27) (f66 : n0 ≠ n1) (f67 : n28 = w32 (n0 + 1)) : 0 ≤ n28 := by
  have g4 := f16.2.1.1
  unfold Ab_300_39 at g4
  have g3 := f16.2.1.2
  unfold preb_300 at g3
  have e0 : n9 = hV H1 285 82 := (by rw [f10] at f19; exact f19 : n9 = hV H1 285 82)
  have e1 : n12 = hV H1 344 (n1).toNat := (by rw [f23] at f27; exact f27 : n12 = hV H1 344 (n1).toNat)
  have e2 : hV H1 298 = hV H0 298 := fRow f16.1.2.1 298 (by decide +kernel)
  have e3 : n13 = hV H0 298 (n12).toNat := (by rw [f21] at f30; exact f30 : n13 = hV H1 298 (n12).toNat).trans ((congrFun e2 _))
  have e4 : n17 = hV H1 344 (n0).toNat := (by rw [f35] at f39; exact f39 : n17 = hV H1 344 (n0).toNat)
  have e5 : n18 = hV H0 298 (n17).toNat := (by rw [f33] at f42; exact f42 : n18 = hV H1 298 (n17).toNat).trans ((congrFun e2 _))
  have e6 : n22 = hV H1 344 (n1).toNat := (by rw [f47] at f51; exact f51 : n22 = hV H1 344 (n1).toNat)
  have e7 : hV H1 300 = hV H0 300 := fRow f16.1.2.1 300 (by decide +kernel)
  have e8 : n23 = hV H0 300 (n22).toNat := (by rw [f45] at f54; exact f54 : n23 = hV H1 300 (n22).toNat).trans ((congrFun e7 _))
  have e9 : n26 = hV H1 344 (n0).toNat := (by rw [f57] at f61; exact f61 : n26 = hV H1 344 (n0).toNat)
  have e10 : n27 = hV H0 300 (n26).toNat := (by rw [f55] at f64; exact f64 : n27 = hV H1 300 (n26).toNat).trans ((congrFun e7 _))
  have e11 : hV H1 301 = hV H0 301 := fRow f16.1.2.1 301 (by decide +kernel)
  have e12 : hV H1 302 = hV H0 302 := fRow f16.1.2.1 302 (by decide +kernel)
  have e13 : hV H1 303 = hV H0 303 := fRow f16.1.2.1 303 (by decide +kernel)
  have e14 : hV H1 305 = hV H0 305 := fRow f16.1.2.1 305 (by decide +kernel)
  have e15 : (0 : Int) ≤ hV H1 285 82 ∧ hV H1 285 82 ≤ 40 := f16.1.2.2 285 82 _ _ (by decide +kernel)
  try simp only [XQ] at *
  try simp only [e2, e7, e11, e12, e13, e14] at f16
  try simp only [e2, e7, e11, e12, e13, e14] at e15
  try simp only [e2, e7, e11, e12, e13, e14] at g3
  try simp only [e2, e7, e11, e12, e13, e14] at g4
  try simp only [e2, e7, e11, e12, e13, e14]
  have k0 := g4.1
  have k1 := g4.2.1
  have y0 := g4.2.2.1
  have y1 := g4.2.2.2
  have p0 := g3
  try simp only [e2, e7, e11, e12, e13, e14] at k0
  try simp only [e2, e7, e11, e12, e13, e14] at k1
  try simp only [e2, e7, e11, e12, e13, e14] at y0
  try simp only [e2, e7, e11, e12, e13, e14] at y1
  try simp only [e2, e7, e11, e12, e13, e14] at p0
  clear g3
  clear g4
  clear f19 f22 f24 f27 f30 f34 f36 f39 f42 f46 f48 f51 f54 f56 f58 f61 f64 e2 e7 e11 e12 e13 e14
  subst e0
  subst e1
  subst e3
  subst e4
  subst e5
  subst e6
  subst e8
  subst e9
  subst e10
  unfold w32 at *
  try (have ix0 : n28 = n0 + 1 := (by omega); subst ix0)
  try subst k1
  try subst k0
  omega
theorem c_300_39_37 {q0 : Nat} : vOkm T0 (eP e_300 L_300 A_300 mu_300 (some q0)) 3 ([(10, [32, 8], [], 1), (41, [8, 7], [], 0), (40, [23, 27], [], 0), (22, [27, 24, 26], [1], 0), (90, [27], [], -1), (91, [27], [], 9999), (22, [26, 25, 8], [1], 0), (90, [26], [], 0), (91, [26], [], 1007), (20, [25, 3], [1], 83), (0, [25], [], 344), (20, [24, 3], [1], 26), (0, [24], [], 300), (22, [23, 20, 22], [1], 0), (90, [23], [], -1), (91, [23], [], 9999), (22, [22, 21, 7], [1], 0), (90, [22], [], 0), (91, [22], [], 1007), (20, [21, 3], [1], 83), (0, [21], [], 344), (20, [20, 3], [1], 26), (0, [20], [], 300), (40, [18, 19], [], 0), (0, [19], [], 1), (22, [18, 15, 17], [1], 0), (90, [18], [], 0), (91, [18], [], 5), (22, [17, 16, 8], [1], 0), (90, [17], [], 0), (91, [17], [], 1007), (20, [16, 3], [1], 83), (0, [16], [], 344), (20, [15, 3], [1], 24), (0, [15], [], 298), (40, [13, 14], [], 0), (0, [14], [], 1), (22, [13, 10, 12], [1], 0), (90, [13], [], 0), (91, [13], [], 5), (22, [12, 11, 7], [1], 0), (90, [12], [], 0), (91, [12], [], 1007), (20, [11, 3], [1], 83), (0, [11], [], 344), (20, [10, 3], [1], 24), (0, [10], [], 298), (42, [8, 9], [], 0), (20, [9, 3], [1], 82), (90, [9], [], 0), (91, [9], [], 40), (5000, [0, 1, 2, 3, 4, 5, 6, 7, 8], [0, 1], 39), (0, [0], [], 285), (90, [1], [], -2147483648), (91, [1], [], 2147483647), (90, [2], [], -2147483648), (91, [2], [], 2147483647), (0, [3], [], 285), (90, [4], [], -2147483648), (91, [4], [], 2147483647), (90, [5], [], -2147483648), (91, [5], [], 2147483647), (90, [6], [], -2147483648), (91, [6], [], 2147483647), (90, [7], [], 0), (91, [7], [], 39), (90, [8], [], 0), (91, [8], [], 40)], (90, [32], [], 0)) := vOk_in fun ρ η h => by
  obtain ⟨f0, f1, f2, f3, f4, f5, f6, f7, f8, f9, f10, f11, f12, f13, f14, f15, f16, f17, f18, f19, f20, f21, f22, f23, f24, f25, f26, f27, f28, f29, f30, f31, f32, f33, f34, f35, f36, f37, f38, f39, f40, f41, f42, f43, f44, f45, f46, f47, f48, f49, f50, f51, f52, f53, f54, f55, f56, f57, f58, f59, f60, f61, f62, f63, f64, f65, f66, f67, _⟩ := h
  exact q_300_45 (q0 := q0) (n0 := ρ 8) (n1 := ρ 7) (n2 := ρ 6) (n3 := ρ 5) (n4 := ρ 4) (n5 := ρ 3) (n6 := ρ 2) (n7 := ρ 1) (n8 := ρ 0) (n9 := ρ 9) (n10 := ρ 10) (n11 := ρ 11) (n12 := ρ 12) (n13 := ρ 13) (n14 := ρ 14) (n15 := ρ 15) (n16 := ρ 16) (n17 := ρ 17) (n18 := ρ 18) (n19 := ρ 19) (n20 := ρ 20) (n21 := ρ 21) (n22 := ρ 22) (n23 := ρ 23) (n24 := ρ 24) (n25 := ρ 25) (n26 := ρ 26) (n27 := ρ 27) (n28 := ρ 32) (H0 := η 0) (H1 := η 1) f67 f66 f65 f64 f63 f62 f61 f60 f59 f58 f57 f56 f55 f54 f53 f52 f51 f50 f49 f48 f47 f46 f45 f44 f43 f42 f41 f40 f39 f38 f37 f36 f35 f34 f33 f32 f31 f30 f29 f28 f27 f26 f25 f24 f23 f22 f21 f20 f19 f18 f17 f16 f15 f14 f13 f12 f11 f10 f9 f8 f7 f6 f5 f4 f3 f2 f1 f0
theorem q_300_46 {q0 : Nat} {n0 n1 n2 n3 n4 n5 n6 n7 n8 n9 n10 n11 n12 n13 n14 n15 n16 n17 n18 n19 n20 n21 n22 n23 n24 n25 n26 n27 n28 : Int} {H0 H1 : gH} (f0 : n0 ≤ 40) (f1 : 0 ≤ n0) (f2 : n1 ≤ 39) (f3 : 0 ≤ n1) (f4 : n2 ≤ 2147483647) (f5 : (-2147483648) ≤ n2) (f6 : n3 ≤ 2147483647) (f7 : (-2147483648) ≤ n3) (f8 : n4 ≤ 2147483647) (f9 : (-2147483648) ≤ n4) (f10 : n5 = 285) (f11 : n6 ≤ 2147483647) (f12 : (-2147483648) ≤ n6) (f13 : n7 ≤ 2147483647) (f14 : (-2147483648) ≤ n7) (f15 : n8 = 285) (f16 : (hLe T0 H0 H1 ∧ hFr s_300.2.2.2.2 H0 H1 ∧ hWt T0 H1) ∧ (Ab_300_39 n8 n7 n6 n5 n4 n3 n2 n1 n0 H0 H1 ∧ preb_300 n8 n7 n6 H0) ∧ some q0 = some (mub_300_39 n8 n7 n6 n5 n4 n3 n2 n1 n0 H0 H1)) (f17 : n9 ≤ 40) (f18 : 0 ≤ n9) (f19 : n9 = hV H1 (n5).toNat 82) (f20 : n0 < n9) (f21 : n10 = 298) (f22 : n10 = hV H1 (n5).toNat 24) (f23 : n11 = 344) (f24 : n11 = hV H1 (n5).toNat 83) (f25 : n12 ≤ 1007) (f26 : 0 ≤ n12) (f27 : n12 = hV H1 (n11).toNat (n1).toNat) (f28 : n13 ≤ 5) (f29 : 0 ≤ n13) (f30 : n13 = hV H1 (n10).toNat (n12).toNat) (f31 : n14 = 1) (f32 : n13 = n14) (f33 : n15 = 298) (f34 : n15 = hV H1 (n5).toNat 24) (f35 : n16 = 344) (f36 : n16 = hV H1 (n5).toNat 83) (f37 : n17 ≤ 1007) (f38 : 0 ≤ n17) (f39 : n17 = hV H1 (n16).toNat (n0).toNat) (f40 : n18 ≤ 5) (f41 : 0 ≤ n18) (f42 : n18 = hV H1 (n15).toNat (n17).toNat) (f43 : n19 = 1) (f44 : n18 = n19) (f45 : n20 = 300) (f46 : n20 = hV H1 (n5).toNat 26) (f47 : n21 = 344) (f48 : n21 = hV H1 (n5).toNat 83) (f49 : n22 ≤ 1007) (f50 : 0 ≤ n22) (f51 : n22 = hV H1 (n21).toNat (n1).toNat) (f52 : n23 ≤ 9999) (f53 : (-1) ≤ n23) (f54 : n23 = hV H1 (n20).toNat (n22).toNat) (f55 : n24 = 300) (f56 : n24 = hV H1 (n5).toNat 26) (f57 : n25 = 344) (f58 : n25 = hV H1 (n5).toNat 83) (f59 : n26 ≤ 1007) (f60 : 0 ≤ n26) (f61 : n26 = hV H1 (n25).toNat (n0).toNat) (f62 : n27 ≤ 9999) (f63 : (-1) ≤ n27) (f64 : n27 = hV H1 (n24).toNat (n26).toNat) (f65 : n23 = n27) (f66 : n0 ≠ n1) (f67 : n28 = w32 (n0 + 1)) : n28 ≤ 40 := by
  have g4 := f16.2.1.1
  unfold Ab_300_39 at g4
  have g3 := f16.2.1.2
  unfold preb_300 at g3
  have e0 : n9 = hV H1 285 82 := (by rw [f10] at f19; exact f19 : n9 = hV H1 285 82)
  have e1 : n12 = hV H1 344 (n1).toNat := (by rw [f23] at f27; exact f27 : n12 = hV H1 344 (n1).toNat)
  have e2 : hV H1 298 = hV H0 298 := fRow f16.1.2.1 298 (by decide +kernel)
  have e3 : n13 = hV H0 298 (n12).toNat := (by rw [f21] at f30; exact f30 : n13 = hV H1 298 (n12).toNat).trans ((congrFun e2 _))
  have e4 : n17 = hV H1 344 (n0).toNat := (by rw [f35] at f39; exact f39 : n17 = hV H1 344 (n0).toNat)
  have e5 : n18 = hV H0 298 (n17).toNat := (by rw [f33] at f42; exact f42 : n18 = hV H1 298 (n17).toNat).trans ((congrFun e2 _))
  have e6 : n22 = hV H1 344 (n1).toNat := (by rw [f47] at f51; exact f51 : n22 = hV H1 344 (n1).toNat)
  have e7 : hV H1 300 = hV H0 300 := fRow f16.1.2.1 300 (by decide +kernel)
  have e8 : n23 = hV H0 300 (n22).toNat := (by rw [f45] at f54; exact f54 : n23 = hV H1 300 (n22).toNat).trans ((congrFun e7 _))
  have e9 : n26 = hV H1 344 (n0).toNat := (by rw [f57] at f61; exact f61 : n26 = hV H1 344 (n0).toNat)
  have e10 : n27 = hV H0 300 (n26).toNat := (by rw [f55] at f64; exact f64 : n27 = hV H1 300 (n26).toNat).trans ((congrFun e7 _))
  have e11 : hV H1 301 = hV H0 301 := fRow f16.1.2.1 301 (by decide +kernel)
  have e12 : hV H1 302 = hV H0 302 := fRow f16.1.2.1 302 (by decide +kernel)
  have e13 : hV H1 303 = hV H0 303 := fRow f16.1.2.1 303 (by decide +kernel)
  have e14 : hV H1 305 = hV H0 305 := fRow f16.1.2.1 305 (by decide +kernel)
  have e15 : (0 : Int) ≤ hV H1 285 82 ∧ hV H1 285 82 ≤ 40 := f16.1.2.2 285 82 _ _ (by decide +kernel)
  try simp only [XQ] at *
  try simp only [e2, e7, e11, e12, e13, e14] at f16
  try simp only [e2, e7, e11, e12, e13, e14] at e15
  try simp only [e2, e7, e11, e12, e13, e14] at g3
  try simp only [e2, e7, e11, e12, e13, e14] at g4
  try simp only [e2, e7, e11, e12, e13, e14]
  have k0 := g4.1
  have k1 := g4.2.1
  have y0 := g4.2.2.1
  have y1 := g4.2.2.2
  have p0 := g3
  try simp only [e2, e7, e11, e12, e13, e14] at k0
  try simp only [e2, e7, e11, e12, e13, e14] at k1
  try simp only [e2, e7, e11, e12, e13, e14] at y0
  try simp only [e2, e7, e11, e12, e13, e14] at y1
  try simp only [e2, e7, e11, e12, e13, e14] at p0
  clear g3
  clear g4
  clear f19 f22 f24 f27 f30 f34 f36 f39 f42 f46 f48 f51 f54 f56 f58 f61 f64 e2 e7 e11 e12 e13 e14
  subst e0
  subst e1
  subst e3
  subst e4
  subst e5
  subst e6
  subst e8
  subst e9
  subst e10
  unfold w32 at *
  try (have ix0 : n28 = n0 + 1 := (by omega); subst ix0)
  try subst k1
  try subst k0
  omega
theorem c_300_39_38 {q0 : Nat} : vOkm T0 (eP e_300 L_300 A_300 mu_300 (some q0)) 3 ([(10, [32, 8], [], 1), (41, [8, 7], [], 0), (40, [23, 27], [], 0), (22, [27, 24, 26], [1], 0), (90, [27], [], -1), (91, [27], [], 9999), (22, [26, 25, 8], [1], 0), (90, [26], [], 0), (91, [26], [], 1007), (20, [25, 3], [1], 83), (0, [25], [], 344), (20, [24, 3], [1], 26), (0, [24], [], 300), (22, [23, 20, 22], [1], 0), (90, [23], [], -1), (91, [23], [], 9999), (22, [22, 21, 7], [1], 0), (90, [22], [], 0), (91, [22], [], 1007), (20, [21, 3], [1], 83), (0, [21], [], 344), (20, [20, 3], [1], 26), (0, [20], [], 300), (40, [18, 19], [], 0), (0, [19], [], 1), (22, [18, 15, 17], [1], 0), (90, [18], [], 0), (91, [18], [], 5), (22, [17, 16, 8], [1], 0), (90, [17], [], 0), (91, [17], [], 1007), (20, [16, 3], [1], 83), (0, [16], [], 344), (20, [15, 3], [1], 24), (0, [15], [], 298), (40, [13, 14], [], 0), (0, [14], [], 1), (22, [13, 10, 12], [1], 0), (90, [13], [], 0), (91, [13], [], 5), (22, [12, 11, 7], [1], 0), (90, [12], [], 0), (91, [12], [], 1007), (20, [11, 3], [1], 83), (0, [11], [], 344), (20, [10, 3], [1], 24), (0, [10], [], 298), (42, [8, 9], [], 0), (20, [9, 3], [1], 82), (90, [9], [], 0), (91, [9], [], 40), (5000, [0, 1, 2, 3, 4, 5, 6, 7, 8], [0, 1], 39), (0, [0], [], 285), (90, [1], [], -2147483648), (91, [1], [], 2147483647), (90, [2], [], -2147483648), (91, [2], [], 2147483647), (0, [3], [], 285), (90, [4], [], -2147483648), (91, [4], [], 2147483647), (90, [5], [], -2147483648), (91, [5], [], 2147483647), (90, [6], [], -2147483648), (91, [6], [], 2147483647), (90, [7], [], 0), (91, [7], [], 39), (90, [8], [], 0), (91, [8], [], 40)], (91, [32], [], 40)) := vOk_in fun ρ η h => by
  obtain ⟨f0, f1, f2, f3, f4, f5, f6, f7, f8, f9, f10, f11, f12, f13, f14, f15, f16, f17, f18, f19, f20, f21, f22, f23, f24, f25, f26, f27, f28, f29, f30, f31, f32, f33, f34, f35, f36, f37, f38, f39, f40, f41, f42, f43, f44, f45, f46, f47, f48, f49, f50, f51, f52, f53, f54, f55, f56, f57, f58, f59, f60, f61, f62, f63, f64, f65, f66, f67, _⟩ := h
  exact q_300_46 (q0 := q0) (n0 := ρ 8) (n1 := ρ 7) (n2 := ρ 6) (n3 := ρ 5) (n4 := ρ 4) (n5 := ρ 3) (n6 := ρ 2) (n7 := ρ 1) (n8 := ρ 0) (n9 := ρ 9) (n10 := ρ 10) (n11 := ρ 11) (n12 := ρ 12) (n13 := ρ 13) (n14 := ρ 14) (n15 := ρ 15) (n16 := ρ 16) (n17 := ρ 17) (n18 := ρ 18) (n19 := ρ 19) (n20 := ρ 20) (n21 := ρ 21) (n22 := ρ 22) (n23 := ρ 23) (n24 := ρ 24) (n25 := ρ 25) (n26 := ρ 26) (n27 := ρ 27) (n28 := ρ 32) (H0 := η 0) (H1 := η 1) f67 f66 f65 f64 f63 f62 f61 f60 f59 f58 f57 f56 f55 f54 f53 f52 f51 f50 f49 f48 f47 f46 f45 f44 f43 f42 f41 f40 f39 f38 f37 f36 f35 f34 f33 f32 f31 f30 f29 f28 f27 f26 f25 f24 f23 f22 f21 f20 f19 f18 f17 f16 f15 f14 f13 f12 f11 f10 f9 f8 f7 f6 f5 f4 f3 f2 f1 f0
theorem q_300_47 {q0 : Nat} {n0 n1 n2 n3 n4 n5 n6 n7 n8 n9 n10 n11 n12 n13 n14 n15 n16 n17 n18 n19 n20 n21 n22 n23 n24 n25 n26 n27 n28 n29 n30 n31 n32 : Int} {H0 H1 H2 H3 H4 H5 : gH} (f0 : n0 ≤ 40) (f1 : 0 ≤ n0) (f2 : n1 ≤ 39) (f3 : 0 ≤ n1) (f4 : n2 ≤ 2147483647) (f5 : (-2147483648) ≤ n2) (f6 : n3 ≤ 2147483647) (f7 : (-2147483648) ≤ n3) (f8 : n4 ≤ 2147483647) (f9 : (-2147483648) ≤ n4) (f10 : n5 = 285) (f11 : n6 ≤ 2147483647) (f12 : (-2147483648) ≤ n6) (f13 : n7 ≤ 2147483647) (f14 : (-2147483648) ≤ n7) (f15 : n8 = 285) (f16 : (hLe T0 H0 H1 ∧ hFr s_300.2.2.2.2 H0 H1 ∧ hWt T0 H1) ∧ (Ab_300_39 n8 n7 n6 n5 n4 n3 n2 n1 n0 H0 H1 ∧ preb_300 n8 n7 n6 H0) ∧ some q0 = some (mub_300_39 n8 n7 n6 n5 n4 n3 n2 n1 n0 H0 H1)) (f17 : n9 ≤ 40) (f18 : 0 ≤ n9) (f19 : n9 = hV H1 (n5).toNat 82) (f20 : n0 < n9) (f21 : n10 = 298) (f22 : n10 = hV H1 (n5).toNat 24) (f23 : n11 = 344) (f24 : n11 = hV H1 (n5).toNat 83) (f25 : n12 ≤ 1007) (f26 : 0 ≤ n12) (f27 : n12 = hV H1 (n11).toNat (n1).toNat) (f28 : n13 ≤ 5) (f29 : 0 ≤ n13) (f30 : n13 = hV H1 (n10).toNat (n12).toNat) (f31 : n14 = 1) (f32 : n13 = n14) (f33 : n15 = 298) (f34 : n15 = hV H1 (n5).toNat 24) (f35 : n16 = 344) (f36 : n16 = hV H1 (n5).toNat 83) (f37 : n17 ≤ 1007) (f38 : 0 ≤ n17) (f39 : n17 = hV H1 (n16).toNat (n0).toNat) (f40 : n18 ≤ 5) (f41 : 0 ≤ n18) (f42 : n18 = hV H1 (n15).toNat (n17).toNat) (f43 : n19 = 1) (f44 : n18 = n19) (f45 : n20 = 300) (f46 : n20 = hV H1 (n5).toNat 26) (f47 : n21 = 344) (f48 : n21 = hV H1 (n5).toNat 83) (f49 : n22 ≤ 1007) (f50 : 0 ≤ n22) (f51 : n22 = hV H1 (n21).toNat (n1).toNat) (f52 : n23 ≤ 9999) (f53 : (-1) ≤ n23) (f54 : n23 = hV H1 (n20).toNat (n22).toNat) (f55 : n24 = 300) (f56 : n24 = hV H1 (n5).toNat 26) (f57 : n25 = 344) (f58 : n25 = hV H1 (n5).toNat 83) (f59 : n26 ≤ 1007) (f60 : 0 ≤ n26) (f61 : n26 = hV H1 (n25).toNat (n0).toNat) (f62 : n27 ≤ 9999) (f63 : (-1) ≤ n27) (f64 : n27 = hV H1 (n24).toNat (n26).toNat) (f65 : n23 = n27) (f66 : n28 ≤ 10999) (f67 : (-10999) ≤ n28) (f68 : (hLe T0 H1 H2 ∧ hFr s_271.2.2.2.2 H1 H2 ∧ ((0 : Int) = 0 → H2.length = H1.length) ∧ hWt T0 H2) ∧ True) (f69 : n29 ≤ 10999) (f70 : (-10999) ≤ n29) (f71 : (hLe T0 H2 H3 ∧ hFr s_271.2.2.2.2 H2 H3 ∧ ((0 : Int) = 0 → H3.length = H2.length) ∧ hWt T0 H3) ∧ True) (f72 : n28 < n29) (f73 : n0 ≠ n1) (f74 : n30 ≤ 10999) (f75 : (-10999) ≤ n30) (f76 : (hLe T0 H3 H4 ∧ hFr s_271.2.2.2.2 H3 H4 ∧ ((0 : Int) = 0 → H4.length = H3.length) ∧ hWt T0 H4) ∧ True) (f77 : n31 ≤ 10999) (f78 : (-10999) ≤ n31) (f79 : (hLe T0 H4 H5 ∧ hFr s_272.2.2.2.2 H4 H5 ∧ ((0 : Int) = 0 → H5.length = H4.length) ∧ hWt T0 H5) ∧ True) (f80 : n31 ≤ n30) (f81 : n32 = w32 (n0 + 1)) : Ab_300_39 n8 n7 n6 n5 n4 n3 n2 n1 n32 H0 H5 ∧ ∀ q, some q0 = some q → mub_300_39 n8 n7 n6 n5 n4 n3 n2 n1 n32 H0 H5 < q := by
  have g4 := f16.2.1.1
  unfold Ab_300_39 at g4
  have g3 := f16.2.1.2
  unfold preb_300 at g3
  have g5 := Option.some.inj f16.2.2
  unfold mub_300_39 at g5
  unfold Ab_300_39
  unfold mub_300_39
  have e0 : n9 = hV H1 285 82 := (by rw [f10] at f19; exact f19 : n9 = hV H1 285 82)
  have e1 : n12 = hV H1 344 (n1).toNat := (by rw [f23] at f27; exact f27 : n12 = hV H1 344 (n1).toNat)
  have e2 : hV H1 298 = hV H0 298 := fRow f16.1.2.1 298 (by decide +kernel)
  have e3 : n13 = hV H0 298 (n12).toNat := (by rw [f21] at f30; exact f30 : n13 = hV H1 298 (n12).toNat).trans ((congrFun e2 _))
  have e4 : n17 = hV H1 344 (n0).toNat := (by rw [f35] at f39; exact f39 : n17 = hV H1 344 (n0).toNat)
  have e5 : n18 = hV H0 298 (n17).toNat := (by rw [f33] at f42; exact f42 : n18 = hV H1 298 (n17).toNat).trans ((congrFun e2 _))
  have e6 : n22 = hV H1 344 (n1).toNat := (by rw [f47] at f51; exact f51 : n22 = hV H1 344 (n1).toNat)
  have e7 : hV H1 300 = hV H0 300 := fRow f16.1.2.1 300 (by decide +kernel)
  have e8 : n23 = hV H0 300 (n22).toNat := (by rw [f45] at f54; exact f54 : n23 = hV H1 300 (n22).toNat).trans ((congrFun e7 _))
  have e9 : n26 = hV H1 344 (n0).toNat := (by rw [f57] at f61; exact f61 : n26 = hV H1 344 (n0).toNat)
  have e10 : n27 = hV H0 300 (n26).toNat := (by rw [f55] at f64; exact f64 : n27 = hV H1 300 (n26).toNat).trans ((congrFun e7 _))
  have e11 : hV H1 301 = hV H0 301 := fRow f16.1.2.1 301 (by decide +kernel)
  have e12 : hV H1 302 = hV H0 302 := fRow f16.1.2.1 302 (by decide +kernel)
  have e13 : hV H1 303 = hV H0 303 := fRow f16.1.2.1 303 (by decide +kernel)
  have e14 : hV H1 305 = hV H0 305 := fRow f16.1.2.1 305 (by decide +kernel)
  have e15 : hV H5 285 82 = hV H4 285 82 := f79.1.2.1.1 285 82 (by decide +kernel)
  have e16 : hV H4 285 82 = hV H3 285 82 := f76.1.2.1.1 285 82 (by decide +kernel)
  have e17 : hV H3 285 82 = hV H2 285 82 := f71.1.2.1.1 285 82 (by decide +kernel)
  have e18 : hV H2 285 82 = hV H1 285 82 := f68.1.2.1.1 285 82 (by decide +kernel)
  have e19 : hV H5 285 82 = hV H1 285 82 := (e15).trans ((e16).trans ((e17).trans e18))
  have e20 : hV H5 298 = hV H4 298 := fRow f79.1.2.1 298 (by decide +kernel)
  have e21 : hV H4 298 = hV H3 298 := fRow f76.1.2.1 298 (by decide +kernel)
  have e22 : hV H3 298 = hV H2 298 := fRow f71.1.2.1 298 (by decide +kernel)
  have e23 : hV H2 298 = hV H1 298 := fRow f68.1.2.1 298 (by decide +kernel)
  have e24 : hV H2 298 = hV H0 298 := e23.trans e2
  have e25 : hV H3 298 = hV H0 298 := e22.trans e24
  have e26 : hV H4 298 = hV H0 298 := e21.trans e25
  have e27 : hV H5 298 = hV H0 298 := e20.trans e26
  have e28 : hV H5 300 = hV H4 300 := fRow f79.1.2.1 300 (by decide +kernel)
  have e29 : hV H4 300 = hV H3 300 := fRow f76.1.2.1 300 (by decide +kernel)
  have e30 : hV H3 300 = hV H2 300 := fRow f71.1.2.1 300 (by decide +kernel)
  have e31 : hV H2 300 = hV H1 300 := fRow f68.1.2.1 300 (by decide +kernel)
  have e32 : hV H2 300 = hV H0 300 := e31.trans e7
  have e33 : hV H3 300 = hV H0 300 := e30.trans e32
  have e34 : hV H4 300 = hV H0 300 := e29.trans e33
  have e35 : hV H5 300 = hV H0 300 := e28.trans e34
  have e36 : hV H5 301 = hV H4 301 := fRow f79.1.2.1 301 (by decide +kernel)
  have e37 : hV H4 301 = hV H3 301 := fRow f76.1.2.1 301 (by decide +kernel)
  have e38 : hV H3 301 = hV H2 301 := fRow f71.1.2.1 301 (by decide +kernel)
  have e39 : hV H2 301 = hV H1 301 := fRow f68.1.2.1 301 (by decide +kernel)
  have e40 : hV H2 301 = hV H0 301 := e39.trans e11
  have e41 : hV H3 301 = hV H0 301 := e38.trans e40
  have e42 : hV H4 301 = hV H0 301 := e37.trans e41
  have e43 : hV H5 301 = hV H0 301 := e36.trans e42
  have e44 : hV H5 302 = hV H4 302 := fRow f79.1.2.1 302 (by decide +kernel)
  have e45 : hV H4 302 = hV H3 302 := fRow f76.1.2.1 302 (by decide +kernel)
  have e46 : hV H3 302 = hV H2 302 := fRow f71.1.2.1 302 (by decide +kernel)
  have e47 : hV H2 302 = hV H1 302 := fRow f68.1.2.1 302 (by decide +kernel)
  have e48 : hV H2 302 = hV H0 302 := e47.trans e12
  have e49 : hV H3 302 = hV H0 302 := e46.trans e48
  have e50 : hV H4 302 = hV H0 302 := e45.trans e49
  have e51 : hV H5 302 = hV H0 302 := e44.trans e50
  have e52 : hV H5 303 = hV H4 303 := fRow f79.1.2.1 303 (by decide +kernel)
  have e53 : hV H4 303 = hV H3 303 := fRow f76.1.2.1 303 (by decide +kernel)
  have e54 : hV H3 303 = hV H2 303 := fRow f71.1.2.1 303 (by decide +kernel)
  have e55 : hV H2 303 = hV H1 303 := fRow f68.1.2.1 303 (by decide +kernel)
  have e56 : hV H2 303 = hV H0 303 := e55.trans e13
  have e57 : hV H3 303 = hV H0 303 := e54.trans e56
  have e58 : hV H4 303 = hV H0 303 := e53.trans e57
  have e59 : hV H5 303 = hV H0 303 := e52.trans e58
  have e60 : hV H5 305 = hV H4 305 := fRow f79.1.2.1 305 (by decide +kernel)
  have e61 : hV H4 305 = hV H3 305 := fRow f76.1.2.1 305 (by decide +kernel)
  have e62 : hV H3 305 = hV H2 305 := fRow f71.1.2.1 305 (by decide +kernel)
  have e63 : hV H2 305 = hV H1 305 := fRow f68.1.2.1 305 (by decide +kernel)
  have e64 : hV H2 305 = hV H0 305 := e63.trans e14
  have e65 : hV H3 305 = hV H0 305 := e62.trans e64
  have e66 : hV H4 305 = hV H0 305 := e61.trans e65
  have e67 : hV H5 305 = hV H0 305 := e60.trans e66
  have e68 : hV H5 344 = hV H4 344 := fRow f79.1.2.1 344 (by decide +kernel)
  have e69 : hV H4 344 = hV H3 344 := fRow f76.1.2.1 344 (by decide +kernel)
  have e70 : hV H3 344 = hV H2 344 := fRow f71.1.2.1 344 (by decide +kernel)
  have e71 : hV H2 344 = hV H1 344 := fRow f68.1.2.1 344 (by decide +kernel)
  have e72 : hV H3 344 = hV H1 344 := e70.trans e71
  have e73 : hV H4 344 = hV H1 344 := e69.trans e72
  have e74 : hV H5 344 = hV H1 344 := e68.trans e73
  have e75 : (0 : Int) ≤ hV H1 285 82 ∧ hV H1 285 82 ≤ 40 := f16.1.2.2 285 82 _ _ (by decide +kernel)
  have e76 : (0 : Int) ≤ hV H5 285 82 ∧ hV H5 285 82 ≤ 40 := f79.1.2.2.2 285 82 _ _ (by decide +kernel)
  try simp only [XQ] at *
  try simp only [e2, e7, e11, e12, e13, e14, e19, e27, e35, e43, e51, e59, e67, e74] at f16
  try simp only [e2, e7, e11, e12, e13, e14, e19, e27, e35, e43, e51, e59, e67, e74] at e75
  try simp only [e2, e7, e11, e12, e13, e14, e19, e27, e35, e43, e51, e59, e67, e74] at e76
  try simp only [e2, e7, e11, e12, e13, e14, e19, e27, e35, e43, e51, e59, e67, e74] at g3
  try simp only [e2, e7, e11, e12, e13, e14, e19, e27, e35, e43, e51, e59, e67, e74] at g4
  try simp only [e2, e7, e11, e12, e13, e14, e19, e27, e35, e43, e51, e59, e67, e74] at g5
  try simp only [e2, e7, e11, e12, e13, e14, e19, e27, e35, e43, e51, e59, e67, e74]
  have k0 := g4.1
  have k1 := g4.2.1
  have y0 := g4.2.2.1
  have y1 := g4.2.2.2
  have p0 := g3
  try simp only [e2, e7, e11, e12, e13, e14, e19, e27, e35, e43, e51, e59, e67, e74] at k0
  try simp only [e2, e7, e11, e12, e13, e14, e19, e27, e35, e43, e51, e59, e67, e74] at k1
  try simp only [e2, e7, e11, e12, e13, e14, e19, e27, e35, e43, e51, e59, e67, e74] at y0
  try simp only [e2, e7, e11, e12, e13, e14, e19, e27, e35, e43, e51, e59, e67, e74] at y1
  try simp only [e2, e7, e11, e12, e13, e14, e19, e27, e35, e43, e51, e59, e67, e74] at p0
  clear g3
  clear g4
  clear f19 f22 f24 f27 f30 f34 f36 f39 f42 f46 f48 f51 f54 f56 f58 f61 f64 e2 e7 e11 e12 e13 e14 e15 e16 e17 e18 e19 e20 e21 e22 e23 e24 e25 e26 e27 e28 e29 e30 e31 e32 e33 e34 e35 e36 e37 e38 e39 e40 e41 e42 e43 e44 e45 e46 e47 e48 e49 e50 e51 e52 e53 e54 e55 e56 e57 e58 e59 e60 e61 e62 e63 e64 e65 e66 e67 e68 e69 e70 e71 e72 e73 e74
  subst e0
  subst e1
  subst e3
  subst e4
  subst e5
  subst e6
  subst e8
  subst e9
  subst e10
  unfold w32 at *
  try (have ix0 : n32 = n0 + 1 := (by omega); subst ix0)
  try subst k1
  try subst k0
  refine ⟨?_, fun q hq => ?_⟩
  · refine ⟨?_, ?_, ?_, ?_⟩ <;> first | assumption | omega | trivial
  · have g6 := Option.some.inj hq
    subst g6
    omega
theorem c_300_39_39 {q0 : Nat} : vOkm T0 (eP e_300 L_300 A_300 mu_300 (some q0)) 3 ([(10, [32, 8], [], 1), (43, [30, 31], [], 0), (1272, [31, 3, 8], [4, 5], 0), (90, [31], [], -10999), (91, [31], [], 10999), (1271, [30, 3, 7], [3, 4], 0), (90, [30], [], -10999), (91, [30], [], 10999), (41, [8, 7], [], 0), (42, [28, 29], [], 0), (1271, [29, 3, 7], [2, 3], 0), (90, [29], [], -10999), (91, [29], [], 10999), (1271, [28, 3, 8], [1, 2], 0), (90, [28], [], -10999), (91, [28], [], 10999), (40, [23, 27], [], 0), (22, [27, 24, 26], [1], 0), (90, [27], [], -1), (91, [27], [], 9999), (22, [26, 25, 8], [1], 0), (90, [26], [], 0), (91, [26], [], 1007), (20, [25, 3], [1], 83), (0, [25], [], 344), (20, [24, 3], [1], 26), (0, [24], [], 300), (22, [23, 20, 22], [1], 0), (90, [23], [], -1), (91, [23], [], 9999), (22, [22, 21, 7], [1], 0), (90, [22], [], 0), (91, [22], [], 1007), (20, [21, 3], [1], 83), (0, [21], [], 344), (20, [20, 3], [1], 26), (0, [20], [], 300), (40, [18, 19], [], 0), (0, [19], [], 1), (22, [18, 15, 17], [1], 0), (90, [18], [], 0), (91, [18], [], 5), (22, [17, 16, 8], [1], 0), (90, [17], [], 0), (91, [17], [], 1007), (20, [16, 3], [1], 83), (0, [16], [], 344), (20, [15, 3], [1], 24), (0, [15], [], 298), (40, [13, 14], [], 0), (0, [14], [], 1), (22, [13, 10, 12], [1], 0), (90, [13], [], 0), (91, [13], [], 5), (22, [12, 11, 7], [1], 0), (90, [12], [], 0), (91, [12], [], 1007), (20, [11, 3], [1], 83), (0, [11], [], 344), (20, [10, 3], [1], 24), (0, [10], [], 298), (42, [8, 9], [], 0), (20, [9, 3], [1], 82), (90, [9], [], 0), (91, [9], [], 40), (5000, [0, 1, 2, 3, 4, 5, 6, 7, 8], [0, 1], 39), (0, [0], [], 285), (90, [1], [], -2147483648), (91, [1], [], 2147483647), (90, [2], [], -2147483648), (91, [2], [], 2147483647), (0, [3], [], 285), (90, [4], [], -2147483648), (91, [4], [], 2147483647), (90, [5], [], -2147483648), (91, [5], [], 2147483647), (90, [6], [], -2147483648), (91, [6], [], 2147483647), (90, [7], [], 0), (91, [7], [], 39), (90, [8], [], 0), (91, [8], [], 40)], (4000, [3, 4, 5, 6, 7, 32], [5], 39)) := vOk_in fun ρ η h => by
  obtain ⟨f0, f1, f2, f3, f4, f5, f6, f7, f8, f9, f10, f11, f12, f13, f14, f15, f16, f17, f18, f19, f20, f21, f22, f23, f24, f25, f26, f27, f28, f29, f30, f31, f32, f33, f34, f35, f36, f37, f38, f39, f40, f41, f42, f43, f44, f45, f46, f47, f48, f49, f50, f51, f52, f53, f54, f55, f56, f57, f58, f59, f60, f61, f62, f63, f64, f65, f66, f67, f68, f69, f70, f71, f72, f73, f74, f75, f76, f77, f78, f79, f80, f81, _⟩ := h
  exact q_300_47 (q0 := q0) (n0 := ρ 8) (n1 := ρ 7) (n2 := ρ 6) (n3 := ρ 5) (n4 := ρ 4) (n5 := ρ 3) (n6 := ρ 2) (n7 := ρ 1) (n8 := ρ 0) (n9 := ρ 9) (n10 := ρ 10) (n11 := ρ 11) (n12 := ρ 12) (n13 := ρ 13) (n14 := ρ 14) (n15 := ρ 15) (n16 := ρ 16) (n17 := ρ 17) (n18 := ρ 18) (n19 := ρ 19) (n20 := ρ 20) (n21 := ρ 21) (n22 := ρ 22) (n23 := ρ 23) (n24 := ρ 24) (n25 := ρ 25) (n26 := ρ 26) (n27 := ρ 27) (n28 := ρ 28) (n29 := ρ 29) (n30 := ρ 30) (n31 := ρ 31) (n32 := ρ 32) (H0 := η 0) (H1 := η 1) (H2 := η 2) (H3 := η 3) (H4 := η 4) (H5 := η 5) f81 f80 f79 f78 f77 f76 f75 f74 f73 f72 f71 f70 f69 f68 f67 f66 f65 f64 f63 f62 f61 f60 f59 f58 f57 f56 f55 f54 f53 f52 f51 f50 f49 f48 f47 f46 f45 f44 f43 f42 f41 f40 f39 f38 f37 f36 f35 f34 f33 f32 f31 f30 f29 f28 f27 f26 f25 f24 f23 f22 f21 f20 f19 f18 f17 f16 f15 f14 f13 f12 f11 f10 f9 f8 f7 f6 f5 f4 f3 f2 f1 f0
theorem q_300_48 {q0 : Nat} {n0 n1 n2 n3 n4 n5 n6 n7 n8 n9 n10 n11 n12 n13 n14 n15 n16 n17 n18 n19 n20 n21 n22 n23 n24 n25 n26 n27 : Int} {H0 H1 : gH} (f0 : n0 ≤ 40) (f1 : 0 ≤ n0) (f2 : n1 ≤ 39) (f3 : 0 ≤ n1) (f4 : n2 ≤ 2147483647) (f5 : (-2147483648) ≤ n2) (f6 : n3 ≤ 2147483647) (f7 : (-2147483648) ≤ n3) (f8 : n4 ≤ 2147483647) (f9 : (-2147483648) ≤ n4) (f10 : n5 = 285) (f11 : n6 ≤ 2147483647) (f12 : (-2147483648) ≤ n6) (f13 : n7 ≤ 2147483647) (f14 : (-2147483648) ≤ n7) (f15 : n8 = 285) (f16 : (hLe T0 H0 H1 ∧ hFr s_300.2.2.2.2 H0 H1 ∧ hWt T0 H1) ∧ (Ab_300_39 n8 n7 n6 n5 n4 n3 n2 n1 n0 H0 H1 ∧ preb_300 n8 n7 n6 H0) ∧ some q0 = some (mub_300_39 n8 n7 n6 n5 n4 n3 n2 n1 n0 H0 H1)) (f17 : n9 ≤ 40) (f18 : 0 ≤ n9) (f19 : n9 = hV H1 (n5).toNat 82) (f20 : n0 < n9) (f21 : n10 = 298) (f22 : n10 = hV H1 (n5).toNat 24) (f23 : n11 = 344) (f24 : n11 = hV H1 (n5).toNat 83) (f25 : n12 ≤ 1007) (f26 : 0 ≤ n12) (f27 : n12 = hV H1 (n11).toNat (n1).toNat) (f28 : n13 ≤ 5) (f29 : 0 ≤ n13) (f30 : n13 = hV H1 (n10).toNat (n12).toNat) (f31 : n14 = 1) (f32 : n13 = n14) (f33 : n15 = 298) (f34 : n15 = hV H1 (n5).toNat 24) (f35 : n16 = 344) (f36 : n16 = hV H1 (n5).toNat 83) (f37 : n17 ≤ 1007) (f38 : 0 ≤ n17) (f39 : n17 = hV H1 (n16).toNat (n0).toNat) (f40 : n18 ≤ 5) (f41 : 0 ≤ n18) (f42 : n18 = hV H1 (n15).toNat (n17).toNat) (f43 : n19 = 1) (f44 : n18 = n19) (f45 : n20 = 300) (f46 : n20 = hV H1 (n5).toNat 26) (f47 : n21 = 344) (f48 : n21 = hV H1 (n5).toNat 83) (f49 : n22 ≤ 1007) (f50 : 0 ≤ n22) (f51 : n22 = hV H1 (n21).toNat (n1).toNat) (f52 : n23 ≤ 9999) (f53 : (-1) ≤ n23) (f54 : n23 = hV H1 (n20).toNat (n22).toNat) (f55 : n24 = 300) (f56 : n24 = hV H1 (n5).toNat 26) (f57 : n25 = 344) (f58 : n25 = hV H1 (n5).toNat 83) (f59 : n26 ≤ 1007) (f60 : 0 ≤ n26) (f61 : n26 = hV H1 (n25).toNat (n0).toNat) (f62 : n27 ≤ 9999) (f63 : (-1) ≤ n27) (f64 : n27 = hV H1 (n24).toNat (n26).toNat) (f65 : n23 = n27) (f66 : n0 = n1) : n0 ≤ 39 := by
  have g4 := f16.2.1.1
  unfold Ab_300_39 at g4
  have g3 := f16.2.1.2
  unfold preb_300 at g3
  have e0 : n9 = hV H1 285 82 := (by rw [f10] at f19; exact f19 : n9 = hV H1 285 82)
  have e1 : n12 = hV H1 344 (n1).toNat := (by rw [f23] at f27; exact f27 : n12 = hV H1 344 (n1).toNat)
  have e2 : hV H1 298 = hV H0 298 := fRow f16.1.2.1 298 (by decide +kernel)
  have e3 : n13 = hV H0 298 (n12).toNat := (by rw [f21] at f30; exact f30 : n13 = hV H1 298 (n12).toNat).trans ((congrFun e2 _))
  have e4 : n17 = hV H1 344 (n0).toNat := (by rw [f35] at f39; exact f39 : n17 = hV H1 344 (n0).toNat)
  have e5 : n18 = hV H0 298 (n17).toNat := (by rw [f33] at f42; exact f42 : n18 = hV H1 298 (n17).toNat).trans ((congrFun e2 _))
  have e6 : n22 = hV H1 344 (n1).toNat := (by rw [f47] at f51; exact f51 : n22 = hV H1 344 (n1).toNat)
  have e7 : hV H1 300 = hV H0 300 := fRow f16.1.2.1 300 (by decide +kernel)
  have e8 : n23 = hV H0 300 (n22).toNat := (by rw [f45] at f54; exact f54 : n23 = hV H1 300 (n22).toNat).trans ((congrFun e7 _))
  have e9 : n26 = hV H1 344 (n0).toNat := (by rw [f57] at f61; exact f61 : n26 = hV H1 344 (n0).toNat)
  have e10 : n27 = hV H0 300 (n26).toNat := (by rw [f55] at f64; exact f64 : n27 = hV H1 300 (n26).toNat).trans ((congrFun e7 _))
  have e11 : hV H1 301 = hV H0 301 := fRow f16.1.2.1 301 (by decide +kernel)
  have e12 : hV H1 302 = hV H0 302 := fRow f16.1.2.1 302 (by decide +kernel)
  have e13 : hV H1 303 = hV H0 303 := fRow f16.1.2.1 303 (by decide +kernel)
  have e14 : hV H1 305 = hV H0 305 := fRow f16.1.2.1 305 (by decide +kernel)
  have e15 : (0 : Int) ≤ hV H1 285 82 ∧ hV H1 285 82 ≤ 40 := f16.1.2.2 285 82 _ _ (by decide +kernel)
  try simp only [XQ] at *
  try simp only [e2, e7, e11, e12, e13, e14] at f16
  try simp only [e2, e7, e11, e12, e13, e14] at e15
  try simp only [e2, e7, e11, e12, e13, e14] at g3
  try simp only [e2, e7, e11, e12, e13, e14] at g4
  try simp only [e2, e7, e11, e12, e13, e14]
  have k0 := g4.1
  have k1 := g4.2.1
  have y0 := g4.2.2.1
  have y1 := g4.2.2.2
  have p0 := g3
  try simp only [e2, e7, e11, e12, e13, e14] at k0
  try simp only [e2, e7, e11, e12, e13, e14] at k1
  try simp only [e2, e7, e11, e12, e13, e14] at y0
  try simp only [e2, e7, e11, e12, e13, e14] at y1
  try simp only [e2, e7, e11, e12, e13, e14] at p0
  clear g3
  clear g4
  clear f19 f22 f24 f27 f30 f34 f36 f39 f42 f46 f48 f51 f54 f56 f58 f61 f64 e2 e7 e11 e12 e13 e14
  subst e0
  subst e1
  subst e3
  subst e4
  subst e5
  subst e6
  subst e8
  subst e9
  subst e10
  try subst k1
  try subst k0
  omega
theorem c_300_39_40 {q0 : Nat} : vOkm T0 (eP e_300 L_300 A_300 mu_300 (some q0)) 3 ([(40, [8, 7], [], 0), (40, [23, 27], [], 0), (22, [27, 24, 26], [1], 0), (90, [27], [], -1), (91, [27], [], 9999), (22, [26, 25, 8], [1], 0), (90, [26], [], 0), (91, [26], [], 1007), (20, [25, 3], [1], 83), (0, [25], [], 344), (20, [24, 3], [1], 26), (0, [24], [], 300), (22, [23, 20, 22], [1], 0), (90, [23], [], -1), (91, [23], [], 9999), (22, [22, 21, 7], [1], 0), (90, [22], [], 0), (91, [22], [], 1007), (20, [21, 3], [1], 83), (0, [21], [], 344), (20, [20, 3], [1], 26), (0, [20], [], 300), (40, [18, 19], [], 0), (0, [19], [], 1), (22, [18, 15, 17], [1], 0), (90, [18], [], 0), (91, [18], [], 5), (22, [17, 16, 8], [1], 0), (90, [17], [], 0), (91, [17], [], 1007), (20, [16, 3], [1], 83), (0, [16], [], 344), (20, [15, 3], [1], 24), (0, [15], [], 298), (40, [13, 14], [], 0), (0, [14], [], 1), (22, [13, 10, 12], [1], 0), (90, [13], [], 0), (91, [13], [], 5), (22, [12, 11, 7], [1], 0), (90, [12], [], 0), (91, [12], [], 1007), (20, [11, 3], [1], 83), (0, [11], [], 344), (20, [10, 3], [1], 24), (0, [10], [], 298), (42, [8, 9], [], 0), (20, [9, 3], [1], 82), (90, [9], [], 0), (91, [9], [], 40), (5000, [0, 1, 2, 3, 4, 5, 6, 7, 8], [0, 1], 39), (0, [0], [], 285), (90, [1], [], -2147483648), (91, [1], [], 2147483647), (90, [2], [], -2147483648), (91, [2], [], 2147483647), (0, [3], [], 285), (90, [4], [], -2147483648), (91, [4], [], 2147483647), (90, [5], [], -2147483648), (91, [5], [], 2147483647), (90, [6], [], -2147483648), (91, [6], [], 2147483647), (90, [7], [], 0), (91, [7], [], 39), (90, [8], [], 0), (91, [8], [], 40)], (91, [8], [], 39)) := vOk_in fun ρ η h => by
  obtain ⟨f0, f1, f2, f3, f4, f5, f6, f7, f8, f9, f10, f11, f12, f13, f14, f15, f16, f17, f18, f19, f20, f21, f22, f23, f24, f25, f26, f27, f28, f29, f30, f31, f32, f33, f34, f35, f36, f37, f38, f39, f40, f41, f42, f43, f44, f45, f46, f47, f48, f49, f50, f51, f52, f53, f54, f55, f56, f57, f58, f59, f60, f61, f62, f63, f64, f65, f66, _⟩ := h
  exact q_300_48 (q0 := q0) (n0 := ρ 8) (n1 := ρ 7) (n2 := ρ 6) (n3 := ρ 5) (n4 := ρ 4) (n5 := ρ 3) (n6 := ρ 2) (n7 := ρ 1) (n8 := ρ 0) (n9 := ρ 9) (n10 := ρ 10) (n11 := ρ 11) (n12 := ρ 12) (n13 := ρ 13) (n14 := ρ 14) (n15 := ρ 15) (n16 := ρ 16) (n17 := ρ 17) (n18 := ρ 18) (n19 := ρ 19) (n20 := ρ 20) (n21 := ρ 21) (n22 := ρ 22) (n23 := ρ 23) (n24 := ρ 24) (n25 := ρ 25) (n26 := ρ 26) (n27 := ρ 27) (H0 := η 0) (H1 := η 1) f66 f65 f64 f63 f62 f61 f60 f59 f58 f57 f56 f55 f54 f53 f52 f51 f50 f49 f48 f47 f46 f45 f44 f43 f42 f41 f40 f39 f38 f37 f36 f35 f34 f33 f32 f31 f30 f29 f28 f27 f26 f25 f24 f23 f22 f21 f20 f19 f18 f17 f16 f15 f14 f13 f12 f11 f10 f9 f8 f7 f6 f5 f4 f3 f2 f1 f0
theorem q_300_49 {q0 : Nat} {n0 n1 n2 n3 n4 n5 n6 n7 n8 n9 n10 n11 n12 n13 n14 n15 n16 n17 n18 n19 n20 n21 n22 n23 n24 n25 n26 n27 n28 n29 : Int} {H0 H1 H2 H3 : gH} (f0 : n0 ≤ 40) (f1 : 0 ≤ n0) (f2 : n1 ≤ 39) (f3 : 0 ≤ n1) (f4 : n2 ≤ 2147483647) (f5 : (-2147483648) ≤ n2) (f6 : n3 ≤ 2147483647) (f7 : (-2147483648) ≤ n3) (f8 : n4 ≤ 2147483647) (f9 : (-2147483648) ≤ n4) (f10 : n5 = 285) (f11 : n6 ≤ 2147483647) (f12 : (-2147483648) ≤ n6) (f13 : n7 ≤ 2147483647) (f14 : (-2147483648) ≤ n7) (f15 : n8 = 285) (f16 : (hLe T0 H0 H1 ∧ hFr s_300.2.2.2.2 H0 H1 ∧ hWt T0 H1) ∧ (Ab_300_39 n8 n7 n6 n5 n4 n3 n2 n1 n0 H0 H1 ∧ preb_300 n8 n7 n6 H0) ∧ some q0 = some (mub_300_39 n8 n7 n6 n5 n4 n3 n2 n1 n0 H0 H1)) (f17 : n9 ≤ 40) (f18 : 0 ≤ n9) (f19 : n9 = hV H1 (n5).toNat 82) (f20 : n0 < n9) (f21 : n10 = 298) (f22 : n10 = hV H1 (n5).toNat 24) (f23 : n11 = 344) (f24 : n11 = hV H1 (n5).toNat 83) (f25 : n12 ≤ 1007) (f26 : 0 ≤ n12) (f27 : n12 = hV H1 (n11).toNat (n1).toNat) (f28 : n13 ≤ 5) (f29 : 0 ≤ n13) (f30 : n13 = hV H1 (n10).toNat (n12).toNat) (f31 : n14 = 1) (f32 : n13 = n14) (f33 : n15 = 298) (f34 : n15 = hV H1 (n5).toNat 24) (f35 : n16 = 344) (f36 : n16 = hV H1 (n5).toNat 83) (f37 : n17 ≤ 1007) (f38 : 0 ≤ n17) (f39 : n17 = hV H1 (n16).toNat (n0).toNat) (f40 : n18 ≤ 5) (f41 : 0 ≤ n18) (f42 : n18 = hV H1 (n15).toNat (n17).toNat) (f43 : n19 = 1) (f44 : n18 = n19) (f45 : n20 = 300) (f46 : n20 = hV H1 (n5).toNat 26) (f47 : n21 = 344) (f48 : n21 = hV H1 (n5).toNat 83) (f49 : n22 ≤ 1007) (f50 : 0 ≤ n22) (f51 : n22 = hV H1 (n21).toNat (n1).toNat) (f52 : n23 ≤ 9999) (f53 : (-1) ≤ n23) (f54 : n23 = hV H1 (n20).toNat (n22).toNat) (f55 : n24 = 300) (f56 : n24 = hV H1 (n5).toNat 26) (f57 : n25 = 344) (f58 : n25 = hV H1 (n5).toNat 83) (f59 : n26 ≤ 1007) (f60 : 0 ≤ n26) (f61 : n26 = hV H1 (n25).toNat (n0).toNat) (f62 : n27 ≤ 9999) (f63 : (-1) ≤ n27) (f64 : n27 = hV H1 (n24).toNat (n26).toNat) (f65 : n23 = n27) (f66 : n28 ≤ 10999) (f67 : (-10999) ≤ n28) (f68 : (hLe T0 H1 H2 ∧ hFr s_271.2.2.2.2 H1 H2 ∧ ((0 : Int) = 0 → H2.length = H1.length) ∧ hWt T0 H2) ∧ True) (f69 : n29 ≤ 10999) (f70 : (-10999) ≤ n29) (f71 : (hLe T0 H2 H3 ∧ hFr s_271.2.2.2.2 H2 H3 ∧ ((0 : Int) = 0 → H3.length = H2.length) ∧ hWt T0 H3) ∧ True) (f72 : n28 < n29) (f73 : n0 = n1) : preb_271 n5 n0 H3 := by
  have g4 := f16.2.1.1
  unfold Ab_300_39 at g4
  have g3 := f16.2.1.2
  unfold preb_300 at g3
  unfold preb_271
  have e0 : n9 = hV H1 285 82 := (by rw [f10] at f19; exact f19 : n9 = hV H1 285 82)
  have e1 : n12 = hV H1 344 (n1).toNat := (by rw [f23] at f27; exact f27 : n12 = hV H1 344 (n1).toNat)
  have e2 : hV H1 298 = hV H0 298 := fRow f16.1.2.1 298 (by decide +kernel)
  have e3 : n13 = hV H0 298 (n12).toNat := (by rw [f21] at f30; exact f30 : n13 = hV H1 298 (n12).toNat).trans ((congrFun e2 _))
  have e4 : n17 = hV H1 344 (n0).toNat := (by rw [f35] at f39; exact f39 : n17 = hV H1 344 (n0).toNat)
  have e5 : n18 = hV H0 298 (n17).toNat := (by rw [f33] at f42; exact f42 : n18 = hV H1 298 (n17).toNat).trans ((congrFun e2 _))
  have e6 : n22 = hV H1 344 (n1).toNat := (by rw [f47] at f51; exact f51 : n22 = hV H1 344 (n1).toNat)
  have e7 : hV H1 300 = hV H0 300 := fRow f16.1.2.1 300 (by decide +kernel)
  have e8 : n23 = hV H0 300 (n22).toNat := (by rw [f45] at f54; exact f54 : n23 = hV H1 300 (n22).toNat).trans ((congrFun e7 _))
  have e9 : n26 = hV H1 344 (n0).toNat := (by rw [f57] at f61; exact f61 : n26 = hV H1 344 (n0).toNat)
  have e10 : n27 = hV H0 300 (n26).toNat := (by rw [f55] at f64; exact f64 : n27 = hV H1 300 (n26).toNat).trans ((congrFun e7 _))
  have e11 : hV H1 301 = hV H0 301 := fRow f16.1.2.1 301 (by decide +kernel)
  have e12 : hV H1 302 = hV H0 302 := fRow f16.1.2.1 302 (by decide +kernel)
  have e13 : hV H1 303 = hV H0 303 := fRow f16.1.2.1 303 (by decide +kernel)
  have e14 : hV H1 305 = hV H0 305 := fRow f16.1.2.1 305 (by decide +kernel)
  have e15 : hV H3 285 82 = hV H2 285 82 := f71.1.2.1.1 285 82 (by decide +kernel)
  have e16 : hV H2 285 82 = hV H1 285 82 := f68.1.2.1.1 285 82 (by decide +kernel)
  have e17 : hV H3 285 82 = hV H1 285 82 := (e15).trans e16
  have e18 : hV H3 298 = hV H2 298 := fRow f71.1.2.1 298 (by decide +kernel)
  have e19 : hV H2 298 = hV H1 298 := fRow f68.1.2.1 298 (by decide +kernel)
  have e20 : hV H2 298 = hV H0 298 := e19.trans e2
  have e21 : hV H3 298 = hV H0 298 := e18.trans e20
  have e22 : hV H3 300 = hV H2 300 := fRow f71.1.2.1 300 (by decide +kernel)
  have e23 : hV H2 300 = hV H1 300 := fRow f68.1.2.1 300 (by decide +kernel)
  have e24 : hV H2 300 = hV H0 300 := e23.trans e7
  have e25 : hV H3 300 = hV H0 300 := e22.trans e24
  have e26 : hV H3 301 = hV H2 301 := fRow f71.1.2.1 301 (by decide +kernel)
  have e27 : hV H2 301 = hV H1 301 := fRow f68.1.2.1 301 (by decide +kernel)
  have e28 : hV H2 301 = hV H0 301 := e27.trans e11
  have e29 : hV H3 301 = hV H0 301 := e26.trans e28
  have e30 : hV H3 302 = hV H2 302 := fRow f71.1.2.1 302 (by decide +kernel)
  have e31 : hV H2 302 = hV H1 302 := fRow f68.1.2.1 302 (by decide +kernel)
  have e32 : hV H2 302 = hV H0 302 := e31.trans e12
  have e33 : hV H3 302 = hV H0 302 := e30.trans e32
  have e34 : hV H3 303 = hV H2 303 := fRow f71.1.2.1 303 (by decide +kernel)
  have e35 : hV H2 303 = hV H1 303 := fRow f68.1.2.1 303 (by decide +kernel)
  have e36 : hV H2 303 = hV H0 303 := e35.trans e13
  have e37 : hV H3 303 = hV H0 303 := e34.trans e36
  have e38 : hV H3 305 = hV H2 305 := fRow f71.1.2.1 305 (by decide +kernel)
  have e39 : hV H2 305 = hV H1 305 := fRow f68.1.2.1 305 (by decide +kernel)
  have e40 : hV H2 305 = hV H0 305 := e39.trans e14
  have e41 : hV H3 305 = hV H0 305 := e38.trans e40
  have e42 : hV H3 344 = hV H2 344 := fRow f71.1.2.1 344 (by decide +kernel)
  have e43 : hV H2 344 = hV H1 344 := fRow f68.1.2.1 344 (by decide +kernel)
  have e44 : hV H3 344 = hV H1 344 := e42.trans e43
  have e45 : (0 : Int) ≤ hV H1 285 82 ∧ hV H1 285 82 ≤ 40 := f16.1.2.2 285 82 _ _ (by decide +kernel)
  have e46 : (0 : Int) ≤ hV H3 285 82 ∧ hV H3 285 82 ≤ 40 := f71.1.2.2.2 285 82 _ _ (by decide +kernel)
  try simp only [XQ] at *
  try simp only [e2, e7, e11, e12, e13, e14, e17, e21, e25, e29, e33, e37, e41, e44] at f16
  try simp only [e2, e7, e11, e12, e13, e14, e17, e21, e25, e29, e33, e37, e41, e44] at e45
  try simp only [e2, e7, e11, e12, e13, e14, e17, e21, e25, e29, e33, e37, e41, e44] at e46
  try simp only [e2, e7, e11, e12, e13, e14, e17, e21, e25, e29, e33, e37, e41, e44] at g3
  try simp only [e2, e7, e11, e12, e13, e14, e17, e21, e25, e29, e33, e37, e41, e44] at g4
  try simp only [e2, e7, e11, e12, e13, e14, e17, e21, e25, e29, e33, e37, e41, e44]
  have k0 := g4.1
  have k1 := g4.2.1
  have y0 := g4.2.2.1
  have y1 := g4.2.2.2
  have p0 := g3
  try simp only [e2, e7, e11, e12, e13, e14, e17, e21, e25, e29, e33, e37, e41, e44] at k0
  try simp only [e2, e7, e11, e12, e13, e14, e17, e21, e25, e29, e33, e37, e41, e44] at k1
  try simp only [e2, e7, e11, e12, e13, e14, e17, e21, e25, e29, e33, e37, e41, e44] at y0
  try simp only [e2, e7, e11, e12, e13, e14, e17, e21, e25, e29, e33, e37, e41, e44] at y1
  try simp only [e2, e7, e11, e12, e13, e14, e17, e21, e25, e29, e33, e37, e41, e44] at p0
  clear g3
  clear g4
  clear f19 f22 f24 f27 f30 f34 f36 f39 f42 f46 f48 f51 f54 f56 f58 f61 f64 e2 e7 e11 e12 e13 e14 e15 e16 e17 e18 e19 e20 e21 e22 e23 e24 e25 e26 e27 e28 e29 e30 e31 e32 e33 e34 e35 e36 e37 e38 e39 e40 e41 e42 e43 e44
  subst e0
  subst e1
  subst e3
  subst e4
  subst e5
  subst e6
  subst e8
  subst e9
  subst e10
  try subst k1
  try subst k0
  refine ⟨?_, ?_, ?_⟩ <;> first | assumption | omega | trivial
theorem c_300_39_41 {q0 : Nat} : vOkm T0 (eP e_300 L_300 A_300 mu_300 (some q0)) 3 ([(40, [8, 7], [], 0), (42, [28, 29], [], 0), (1271, [29, 3, 7], [2, 3], 0), (90, [29], [], -10999), (91, [29], [], 10999), (1271, [28, 3, 8], [1, 2], 0), (90, [28], [], -10999), (91, [28], [], 10999), (40, [23, 27], [], 0), (22, [27, 24, 26], [1], 0), (90, [27], [], -1), (91, [27], [], 9999), (22, [26, 25, 8], [1], 0), (90, [26], [], 0), (91, [26], [], 1007), (20, [25, 3], [1], 83), (0, [25], [], 344), (20, [24, 3], [1], 26), (0, [24], [], 300), (22, [23, 20, 22], [1], 0), (90, [23], [], -1), (91, [23], [], 9999), (22, [22, 21, 7], [1], 0), (90, [22], [], 0), (91, [22], [], 1007), (20, [21, 3], [1], 83), (0, [21], [], 344), (20, [20, 3], [1], 26), (0, [20], [], 300), (40, [18, 19], [], 0), (0, [19], [], 1), (22, [18, 15, 17], [1], 0), (90, [18], [], 0), (91, [18], [], 5), (22, [17, 16, 8], [1], 0), (90, [17], [], 0), (91, [17], [], 1007), (20, [16, 3], [1], 83), (0, [16], [], 344), (20, [15, 3], [1], 24), (0, [15], [], 298), (40, [13, 14], [], 0), (0, [14], [], 1), (22, [13, 10, 12], [1], 0), (90, [13], [], 0), (91, [13], [], 5), (22, [12, 11, 7], [1], 0), (90, [12], [], 0), (91, [12], [], 1007), (20, [11, 3], [1], 83), (0, [11], [], 344), (20, [10, 3], [1], 24), (0, [10], [], 298), (42, [8, 9], [], 0), (20, [9, 3], [1], 82), (90, [9], [], 0), (91, [9], [], 40), (5000, [0, 1, 2, 3, 4, 5, 6, 7, 8], [0, 1], 39), (0, [0], [], 285), (90, [1], [], -2147483648), (91, [1], [], 2147483647), (90, [2], [], -2147483648), (91, [2], [], 2147483647), (0, [3], [], 285), (90, [4], [], -2147483648), (91, [4], [], 2147483647), (90, [5], [], -2147483648), (91, [5], [], 2147483647), (90, [6], [], -2147483648), (91, [6], [], 2147483647), (90, [7], [], 0), (91, [7], [], 39), (90, [8], [], 0), (91, [8], [], 40)], (2271, [3, 8], [3], 0)) := vOk_in fun ρ η h => by
  obtain ⟨f0, f1, f2, f3, f4, f5, f6, f7, f8, f9, f10, f11, f12, f13, f14, f15, f16, f17, f18, f19, f20, f21, f22, f23, f24, f25, f26, f27, f28, f29, f30, f31, f32, f33, f34, f35, f36, f37, f38, f39, f40, f41, f42, f43, f44, f45, f46, f47, f48, f49, f50, f51, f52, f53, f54, f55, f56, f57, f58, f59, f60, f61, f62, f63, f64, f65, f66, f67, f68, f69, f70, f71, f72, f73, _⟩ := h
  exact q_300_49 (q0 := q0) (n0 := ρ 8) (n1 := ρ 7) (n2 := ρ 6) (n3 := ρ 5) (n4 := ρ 4) (n5 := ρ 3) (n6 := ρ 2) (n7 := ρ 1) (n8 := ρ 0) (n9 := ρ 9) (n10 := ρ 10) (n11 := ρ 11) (n12 := ρ 12) (n13 := ρ 13) (n14 := ρ 14) (n15 := ρ 15) (n16 := ρ 16) (n17 := ρ 17) (n18 := ρ 18) (n19 := ρ 19) (n20 := ρ 20) (n21 := ρ 21) (n22 := ρ 22) (n23 := ρ 23) (n24 := ρ 24) (n25 := ρ 25) (n26 := ρ 26) (n27 := ρ 27) (n28 := ρ 28) (n29 := ρ 29) (H0 := η 0) (H1 := η 1) (H2 := η 2) (H3 := η 3) f73 f72 f71 f70 f69 f68 f67 f66 f65 f64 f63 f62 f61 f60 f59 f58 f57 f56 f55 f54 f53 f52 f51 f50 f49 f48 f47 f46 f45 f44 f43 f42 f41 f40 f39 f38 f37 f36 f35 f34 f33 f32 f31 f30 f29 f28 f27 f26 f25 f24 f23 f22 f21 f20 f19 f18 f17 f16 f15 f14 f13 f12 f11 f10 f9 f8 f7 f6 f5 f4 f3 f2 f1 f0
theorem c_300_39_42 {q0 : Nat} : vOkm T0 (eP e_300 L_300 A_300 mu_300 (some q0)) 3 ([(40, [8, 7], [], 0), (40, [23, 27], [], 0), (22, [27, 24, 26], [1], 0), (90, [27], [], -1), (91, [27], [], 9999), (22, [26, 25, 8], [1], 0), (90, [26], [], 0), (91, [26], [], 1007), (20, [25, 3], [1], 83), (0, [25], [], 344), (20, [24, 3], [1], 26), (0, [24], [], 300), (22, [23, 20, 22], [1], 0), (90, [23], [], -1), (91, [23], [], 9999), (22, [22, 21, 7], [1], 0), (90, [22], [], 0), (91, [22], [], 1007), (20, [21, 3], [1], 83), (0, [21], [], 344), (20, [20, 3], [1], 26), (0, [20], [], 300), (40, [18, 19], [], 0), (0, [19], [], 1), (22, [18, 15, 17], [1], 0), (90, [18], [], 0), (91, [18], [], 5), (22, [17, 16, 8], [1], 0), (90, [17], [], 0), (91, [17], [], 1007), (20, [16, 3], [1], 83), (0, [16], [], 344), (20, [15, 3], [1], 24), (0, [15], [], 298), (40, [13, 14], [], 0), (0, [14], [], 1), (22, [13, 10, 12], [1], 0), (90, [13], [], 0), (91, [13], [], 5), (22, [12, 11, 7], [1], 0), (90, [12], [], 0), (91, [12], [], 1007), (20, [11, 3], [1], 83), (0, [11], [], 344), (20, [10, 3], [1], 24), (0, [10], [], 298), (42, [8, 9], [], 0), (20, [9, 3], [1], 82), (90, [9], [], 0), (91, [9], [], 40), (5000, [0, 1, 2, 3, 4, 5, 6, 7, 8], [0, 1], 39), (0, [0], [], 285), (90, [1], [], -2147483648), (91, [1], [], 2147483647), (90, [2], [], -2147483648), (91, [2], [], 2147483647), (0, [3], [], 285), (90, [4], [], -2147483648), (91, [4], [], 2147483647), (90, [5], [], -2147483648), (91, [5], [], 2147483647), (90, [6], [], -2147483648), (91, [6], [], 2147483647), (90, [7], [], 0), (91, [7], [], 39), (90, [8], [], 0), (91, [8], [], 40)], (91, [8], [], 39)) := vOk_in fun ρ η h => by
  obtain ⟨f0, f1, f2, f3, f4, f5, f6, f7, f8, f9, f10, f11, f12, f13, f14, f15, f16, f17, f18, f19, f20, f21, f22, f23, f24, f25, f26, f27, f28, f29, f30, f31, f32, f33, f34, f35, f36, f37, f38, f39, f40, f41, f42, f43, f44, f45, f46, f47, f48, f49, f50, f51, f52, f53, f54, f55, f56, f57, f58, f59, f60, f61, f62, f63, f64, f65, f66, _⟩ := h
  exact q_300_48 (q0 := q0) (n0 := ρ 8) (n1 := ρ 7) (n2 := ρ 6) (n3 := ρ 5) (n4 := ρ 4) (n5 := ρ 3) (n6 := ρ 2) (n7 := ρ 1) (n8 := ρ 0) (n9 := ρ 9) (n10 := ρ 10) (n11 := ρ 11) (n12 := ρ 12) (n13 := ρ 13) (n14 := ρ 14) (n15 := ρ 15) (n16 := ρ 16) (n17 := ρ 17) (n18 := ρ 18) (n19 := ρ 19) (n20 := ρ 20) (n21 := ρ 21) (n22 := ρ 22) (n23 := ρ 23) (n24 := ρ 24) (n25 := ρ 25) (n26 := ρ 26) (n27 := ρ 27) (H0 := η 0) (H1 := η 1) f66 f65 f64 f63 f62 f61 f60 f59 f58 f57 f56 f55 f54 f53 f52 f51 f50 f49 f48 f47 f46 f45 f44 f43 f42 f41 f40 f39 f38 f37 f36 f35 f34 f33 f32 f31 f30 f29 f28 f27 f26 f25 f24 f23 f22 f21 f20 f19 f18 f17 f16 f15 f14 f13 f12 f11 f10 f9 f8 f7 f6 f5 f4 f3 f2 f1 f0
theorem q_300_50 {q0 : Nat} {n0 n1 n2 n3 n4 n5 n6 n7 n8 n9 n10 n11 n12 n13 n14 n15 n16 n17 n18 n19 n20 n21 n22 n23 n24 n25 n26 n27 n28 n29 n30 : Int} {H0 H1 H2 H3 H4 : gH} (f0 : n0 ≤ 40) (f1 : 0 ≤ n0) (f2 : n1 ≤ 39) (f3 : 0 ≤ n1) (f4 : n2 ≤ 2147483647) (f5 : (-2147483648) ≤ n2) (f6 : n3 ≤ 2147483647) (f7 : (-2147483648) ≤ n3) (f8 : n4 ≤ 2147483647) (f9 : (-2147483648) ≤ n4) (f10 : n5 = 285) (f11 : n6 ≤ 2147483647) (f12 : (-2147483648) ≤ n6) (f13 : n7 ≤ 2147483647) (f14 : (-2147483648) ≤ n7) (f15 : n8 = 285) (f16 : (hLe T0 H0 H1 ∧ hFr s_300.2.2.2.2 H0 H1 ∧ hWt T0 H1) ∧ (Ab_300_39 n8 n7 n6 n5 n4 n3 n2 n1 n0 H0 H1 ∧ preb_300 n8 n7 n6 H0) ∧ some q0 = some (mub_300_39 n8 n7 n6 n5 n4 n3 n2 n1 n0 H0 H1)) (f17 : n9 ≤ 40) (f18 : 0 ≤ n9) (f19 : n9 = hV H1 (n5).toNat 82) (f20 : n0 < n9) (f21 : n10 = 298) (f22 : n10 = hV H1 (n5).toNat 24) (f23 : n11 = 344) (f24 : n11 = hV H1 (n5).toNat 83) (f25 : n12 ≤ 1007) (f26 : 0 ≤ n12) (f27 : n12 = hV H1 (n11).toNat (n1).toNat) (f28 : n13 ≤ 5) (f29 : 0 ≤ n13) (f30 : n13 = hV H1 (n10).toNat (n12).toNat) (f31 : n14 = 1) (f32 : n13 = n14) (f33 : n15 = 298) (f34 : n15 = hV H1 (n5).toNat 24) (f35 : n16 = 344) (f36 : n16 = hV H1 (n5).toNat 83) (f37 : n17 ≤ 1007) (f38 : 0 ≤ n17) (f39 : n17 = hV H1 (n16).toNat (n0).toNat) (f40 : n18 ≤ 5) (f41 : 0 ≤ n18) (f42 : n18 = hV H1 (n15).toNat (n17).toNat) (f43 : n19 = 1) (f44 : n18 = n19) (f45 : n20 = 300) (f46 : n20 = hV H1 (n5).toNat 26) (f47 : n21 = 344) (f48 : n21 = hV H1 (n5).toNat 83) (f49 : n22 ≤ 1007) (f50 : 0 ≤ n22) (f51 : n22 = hV H1 (n21).toNat (n1).toNat) (f52 : n23 ≤ 9999) (f53 : (-1) ≤ n23) (f54 : n23 = hV H1 (n20).toNat (n22).toNat) (f55 : n24 = 300) (f56 : n24 = hV H1 (n5).toNat 26) (f57 : n25 = 344) (f58 : n25 = hV H1 (n5).toNat 83) (f59 : n26 ≤ 1007) (f60 : 0 ≤ n26) (f61 : n26 = hV H1 (n25).toNat (n0).toNat) (f62 : n27 ≤ 9999) (f63 : (-1) ≤ n27) (f64 : n27 = hV H1 (n24).toNat (n26).toNat) (f65 : n23 = n27) (f66 : n28 ≤ 10999) (f67 : (-10999) ≤ n28) (f68 : (hLe T0 H1 H2 ∧ hFr s_271.2.2.2.2 H1 H2 ∧ ((0 : Int) = 0 → H2.length = H1.length) ∧ hWt T0 H2) ∧ True) (f69 : n29 ≤ 10999) (f70 : (-10999) ≤ n29) (f71 : (hLe T0 H2 H3 ∧ hFr s_271.2.2.2.2 H2 H3 ∧ ((0 : Int) = 0 → H3.length = H2.length) ∧ hWt T0 H3) ∧ True) (f72 : n28 < n29) (f73 : n0 = n1) (f74 : n30 ≤ 10999) (f75 : (-10999) ≤ n30) (f76 : (hLe T0 H3 H4 ∧ hFr s_271.2.2.2.2 H3 H4 ∧ ((0 : Int) = 0 → H4.length = H3.length) ∧ hWt T0 H4) ∧ True) : preb_272 n5 n0 H4 := by
  have g4 := f16.2.1.1
  unfold Ab_300_39 at g4
  have g3 := f16.2.1.2
  unfold preb_300 at g3
  unfold preb_272
  have e0 : n9 = hV H1 285 82 := (by rw [f10] at f19; exact f19 : n9 = hV H1 285 82)
  have e1 : n12 = hV H1 344 (n1).toNat := (by rw [f23] at f27; exact f27 : n12 = hV H1 344 (n1).toNat)
  have e2 : hV H1 298 = hV H0 298 := fRow f16.1.2.1 298 (by decide +kernel)
  have e3 : n13 = hV H0 298 (n12).toNat := (by rw [f21] at f30; exact f30 : n13 = hV H1 298 (n12).toNat).trans ((congrFun e2 _))
  have e4 : n17 = hV H1 344 (n0).toNat := (by rw [f35] at f39; exact f39 : n17 = hV H1 344 (n0).toNat)
  have e5 : n18 = hV H0 298 (n17).toNat := (by rw [f33] at f42; exact f42 : n18 = hV H1 298 (n17).toNat).trans ((congrFun e2 _))
  have e6 : n22 = hV H1 344 (n1).toNat := (by rw [f47] at f51; exact f51 : n22 = hV H1 344 (n1).toNat)
  have e7 : hV H1 300 = hV H0 300 := fRow f16.1.2.1 300 (by decide +kernel)
  have e8 : n23 = hV H0 300 (n22).toNat := (by rw [f45] at f54; exact f54 : n23 = hV H1 300 (n22).toNat).trans ((congrFun e7 _))
  have e9 : n26 = hV H1 344 (n0).toNat := (by rw [f57] at f61; exact f61 : n26 = hV H1 344 (n0).toNat)
  have e10 : n27 = hV H0 300 (n26).toNat := (by rw [f55] at f64; exact f64 : n27 = hV H1 300 (n26).toNat).trans ((congrFun e7 _))
  have e11 : hV H1 301 = hV H0 301 := fRow f16.1.2.1 301 (by decide +kernel)
  have e12 : hV H1 302 = hV H0 302 := fRow f16.1.2.1 302 (by decide +kernel)
  have e13 : hV H1 303 = hV H0 303 := fRow f16.1.2.1 303 (by decide +kernel)
  have e14 : hV H1 305 = hV H0 305 := fRow f16.1.2.1 305 (by decide +kernel)
  have e15 : hV H4 285 82 = hV H3 285 82 := f76.1.2.1.1 285 82 (by decide +kernel)
  have e16 : hV H3 285 82 = hV H2 285 82 := f71.1.2.1.1 285 82 (by decide +kernel)
  have e17 : hV H2 285 82 = hV H1 285 82 := f68.1.2.1.1 285 82 (by decide +kernel)
  have e18 : hV H4 285 82 = hV H1 285 82 := (e15).trans ((e16).trans e17)
  have e19 : hV H4 298 = hV H3 298 := fRow f76.1.2.1 298 (by decide +kernel)
  have e20 : hV H3 298 = hV H2 298 := fRow f71.1.2.1 298 (by decide +kernel)
  have e21 : hV H2 298 = hV H1 298 := fRow f68.1.2.1 298 (by decide +kernel)
  have e22 : hV H2 298 = hV H0 298 := e21.trans e2
  have e23 : hV H3 298 = hV H0 298 := e20.trans e22
  have e24 : hV H4 298 = hV H0 298 := e19.trans e23
  have e25 : hV H4 300 = hV H3 300 := fRow f76.1.2.1 300 (by decide +kernel)
  have e26 : hV H3 300 = hV H2 300 := fRow f71.1.2.1 300 (by decide +kernel)
  have e27 : hV H2 300 = hV H1 300 := fRow f68.1.2.1 300 (by decide +kernel)
  have e28 : hV H2 300 = hV H0 300 := e27.trans e7
  have e29 : hV H3 300 = hV H0 300 := e26.trans e28
  have e30 : hV H4 300 = hV H0 300 := e25.trans e29
  have e31 : hV H4 301 = hV H3 301 := fRow f76.1.2.1 301 (by decide +kernel)
  have e32 : hV H3 301 = hV H2 301 := fRow f71.1.2.1 301 (by decide +kernel)
  have e33 : hV H2 301 = hV H1 301 := fRow f68.1.2.1 301 (by decide +kernel)
  have e34 : hV H2 301 = hV H0 301 := e33.trans e11
  have e35 : hV H3 301 = hV H0 301 := e32.trans e34
  have e36 : hV H4 301 = hV H0 301 := e31.trans e35
  have e37 : hV H4 302 = hV H3 302 := fRow f76.1.2.1 302 (by decide +kernel)
  have e38 : hV H3 302 = hV H2 302 := fRow f71.1.2.1 302 (by decide +kernel)
  have e39 : hV H2 302 = hV H1 302 := fRow f68.1.2.1 302 (by decide +kernel)
  have e40 : hV H2 302 = hV H0 302 := e39.trans e12
  have e41 : hV H3 302 = hV H0 302 := e38.trans e40
  have e42 : hV H4 302 = hV H0 302 := e37.trans e41
  have e43 : hV H4 303 = hV H3 303 := fRow f76.1.2.1 303 (by decide +kernel)
  have e44 : hV H3 303 = hV H2 303 := fRow f71.1.2.1 303 (by decide +kernel)
  have e45 : hV H2 303 = hV H1 303 := fRow f68.1.2.1 303 (by decide +kernel)
  have e46 : hV H2 303 = hV H0 303 := e45.trans e13
  have e47 : hV H3 303 = hV H0 303 := e44.trans e46
  have e48 : hV H4 303 = hV H0 303 := e43.trans e47
  have e49 : hV H4 305 = hV H3 305 := fRow f76.1.2.1 305 (by decide +kernel)
  have e50 : hV H3 305 = hV H2 305 := fRow f71.1.2.1 305 (by decide +kernel)
  have e51 : hV H2 305 = hV H1 305 := fRow f68.1.2.1 305 (by decide +kernel)
  have e52 : hV H2 305 = hV H0 305 := e51.trans e14
  have e53 : hV H3 305 = hV H0 305 := e50.trans e52
  have e54 : hV H4 305 = hV H0 305 := e49.trans e53
  have e55 : hV H4 344 = hV H3 344 := fRow f76.1.2.1 344 (by decide +kernel)
  have e56 : hV H3 344 = hV H2 344 := fRow f71.1.2.1 344 (by decide +kernel)
  have e57 : hV H2 344 = hV H1 344 := fRow f68.1.2.1 344 (by decide +kernel)
  have e58 : hV H3 344 = hV H1 344 := e56.trans e57
  have e59 : hV H4 344 = hV H1 344 := e55.trans e58
  have e60 : (0 : Int) ≤ hV H1 285 82 ∧ hV H1 285 82 ≤ 40 := f16.1.2.2 285 82 _ _ (by decide +kernel)
  have e61 : (0 : Int) ≤ hV H4 285 82 ∧ hV H4 285 82 ≤ 40 := f76.1.2.2.2 285 82 _ _ (by decide +kernel)
  try simp only [XQ] at *
  try simp only [e2, e7, e11, e12, e13, e14, e18, e24, e30, e36, e42, e48, e54, e59] at f16
  try simp only [e2, e7, e11, e12, e13, e14, e18, e24, e30, e36, e42, e48, e54, e59] at e60
  try simp only [e2, e7, e11, e12, e13, e14, e18, e24, e30, e36, e42, e48, e54, e59] at e61
  try simp only [e2, e7, e11, e12, e13, e14, e18, e24, e30, e36, e42, e48, e54, e59] at g3
  try simp only [e2, e7, e11, e12, e13, e14, e18, e24, e30, e36, e42, e48, e54, e59] at g4
  try simp only [e2, e7, e11, e12, e13, e14, e18, e24, e30, e36, e42, e48, e54, e59]
  have k0 := g4.1
  have k1 := g4.2.1
  have y0 := g4.2.2.1
  have y1 := g4.2.2.2
  have p0 := g3
  try simp only [e2, e7, e11, e12, e13, e14, e18, e24, e30, e36, e42, e48, e54, e59] at k0
  try simp only [e2, e7, e11, e12, e13, e14, e18, e24, e30, e36, e42, e48, e54, e59] at k1
  try simp only [e2, e7, e11, e12, e13, e14, e18, e24, e30, e36, e42, e48, e54, e59] at y0
  try simp only [e2, e7, e11, e12, e13, e14, e18, e24, e30, e36, e42, e48, e54, e59] at y1
  try simp only [e2, e7, e11, e12, e13, e14, e18, e24, e30, e36, e42, e48, e54, e59] at p0
  clear g3
  clear g4
  clear f19 f22 f24 f27 f30 f34 f36 f39 f42 f46 f48 f51 f54 f56 f58 f61 f64 e2 e7 e11 e12 e13 e14 e15 e16 e17 e18 e19 e20 e21 e22 e23 e24 e25 e26 e27 e28 e29 e30 e31 e32 e33 e34 e35 e36 e37 e38 e39 e40 e41 e42 e43 e44 e45 e46 e47 e48 e49 e50 e51 e52 e53 e54 e55 e56 e57 e58 e59
  subst e0
  subst e1
  subst e3
  subst e4
  subst e5
  subst e6
  subst e8
  subst e9
  subst e10
  try subst k1
  try subst k0
  refine ⟨?_, ?_, ?_⟩ <;> first | assumption | omega | trivial
theorem c_300_39_43 {q0 : Nat} : vOkm T0 (eP e_300 L_300 A_300 mu_300 (some q0)) 3 ([(1271, [30, 3, 8], [3, 4], 0), (90, [30], [], -10999), (91, [30], [], 10999), (40, [8, 7], [], 0), (42, [28, 29], [], 0), (1271, [29, 3, 7], [2, 3], 0), (90, [29], [], -10999), (91, [29], [], 10999), (1271, [28, 3, 8], [1, 2], 0), (90, [28], [], -10999), (91, [28], [], 10999), (40, [23, 27], [], 0), (22, [27, 24, 26], [1], 0), (90, [27], [], -1), (91, [27], [], 9999), (22, [26, 25, 8], [1], 0), (90, [26], [], 0), (91, [26], [], 1007), (20, [25, 3], [1], 83), (0, [25], [], 344), (20, [24, 3], [1], 26), (0, [24], [], 300), (22, [23, 20, 22], [1], 0), (90, [23], [], -1), (91, [23], [], 9999), (22, [22, 21, 7], [1], 0), (90, [22], [], 0), (91, [22], [], 1007), (20, [21, 3], [1], 83), (0, [21], [], 344), (20, [20, 3], [1], 26), (0, [20], [], 300), (40, [18, 19], [], 0), (0, [19], [], 1), (22, [18, 15, 17], [1], 0), (90, [18], [], 0), (91, [18], [], 5), (22, [17, 16, 8], [1], 0), (90, [17], [], 0), (91, [17], [], 1007), (20, [16, 3], [1], 83), (0, [16], [], 344), (20, [15, 3], [1], 24), (0, [15], [], 298), (40, [13, 14], [], 0), (0, [14], [], 1), (22, [13, 10, 12], [1], 0), (90, [13], [], 0), (91, [13], [], 5), (22, [12, 11, 7], [1], 0), (90, [12], [], 0), (91, [12], [], 1007), (20, [11, 3], [1], 83), (0, [11], [], 344), (20, [10, 3], [1], 24), (0, [10], [], 298), (42, [8, 9], [], 0), (20, [9, 3], [1], 82), (90, [9], [], 0), (91, [9], [], 40), (5000, [0, 1, 2, 3, 4, 5, 6, 7, 8], [0, 1], 39), (0, [0], [], 285), (90, [1], [], -2147483648), (91, [1], [], 2147483647), (90, [2], [], -2147483648), (91, [2], [], 2147483647), (0, [3], [], 285), (90, [4], [], -2147483648), (91, [4], [], 2147483647), (90, [5], [], -2147483648), (91, [5], [], 2147483647), (90, [6], [], -2147483648), (91, [6], [], 2147483647), (90, [7], [], 0), (91, [7], [], 39), (90, [8], [], 0), (91, [8], [], 40)], (2272, [3, 8], [4], 0)) := vOk_in fun ρ η h => by
  obtain ⟨f0, f1, f2, f3, f4, f5, f6, f7, f8, f9, f10, f11, f12, f13, f14, f15, f16, f17, f18, f19, f20, f21, f22, f23, f24, f25, f26, f27, f28, f29, f30, f31, f32, f33, f34, f35, f36, f37, f38, f39, f40, f41, f42, f43, f44, f45, f46, f47, f48, f49, f50, f51, f52, f53, f54, f55, f56, f57, f58, f59, f60, f61, f62, f63, f64, f65, f66, f67, f68, f69, f70, f71, f72, f73, f74, f75, f76, _⟩ := h
  exact q_300_50 (q0 := q0) (n0 := ρ 8) (n1 := ρ 7) (n2 := ρ 6) (n3 := ρ 5) (n4 := ρ 4) (n5 := ρ 3) (n6 := ρ 2) (n7 := ρ 1) (n8 := ρ 0) (n9 := ρ 9) (n10 := ρ 10) (n11 := ρ 11) (n12 := ρ 12) (n13 := ρ 13) (n14 := ρ 14) (n15 := ρ 15) (n16 := ρ 16) (n17 := ρ 17) (n18 := ρ 18) (n19 := ρ 19) (n20 := ρ 20) (n21 := ρ 21) (n22 := ρ 22) (n23 := ρ 23) (n24 := ρ 24) (n25 := ρ 25) (n26 := ρ 26) (n27 := ρ 27) (n28 := ρ 28) (n29 := ρ 29) (n30 := ρ 30) (H0 := η 0) (H1 := η 1) (H2 := η 2) (H3 := η 3) (H4 := η 4) f76 f75 f74 f73 f72 f71 f70 f69 f68 f67 f66 f65 f64 f63 f62 f61 f60 f59 f58 f57 f56 f55 f54 f53 f52 f51 f50 f49 f48 f47 f46 f45 f44 f43 f42 f41 f40 f39 f38 f37 f36 f35 f34 f33 f32 f31 f30 f29 f28 f27 f26 f25 f24 f23 f22 f21 f20 f19 f18 f17 f16 f15 f14 f13 f12 f11 f10 f9 f8 f7 f6 f5 f4 f3 f2 f1 f0
theorem q_300_51 {q0 : Nat} {n0 n1 n2 n3 n4 n5 n6 n7 n8 n9 n10 n11 n12 n13 n14 n15 n16 n17 n18 n19 n20 n21 n22 n23 n24 n25 n26 n27 n28 n29 : Int} {H0 H1 : gH} (f0 : n0 ≤ 40) (f1 : 0 ≤ n0) (f2 : n1 ≤ 39) (f3 : 0 ≤ n1) (f4 : n2 ≤ 2147483647) (f5 : (-2147483648) ≤ n2) (f6 : n3 ≤ 2147483647) (f7 : (-2147483648) ≤ n3) (f8 : n4 ≤ 2147483647) (f9 : (-2147483648) ≤ n4) (f10 : n5 = 285) (f11 : n6 ≤ 2147483647) (f12 : (-2147483648) ≤ n6) (f13 : n7 ≤ 2147483647) (f14 : (-2147483648) ≤ n7) (f15 : n8 = 285) (f16 : (hLe T0 H0 H1 ∧ hFr s_300.2.2.2.2 H0 H1 ∧ hWt T0 H1) ∧ (Ab_300_39 n8 n7 n6 n5 n4 n3 n2 n1 n0 H0 H1 ∧ preb_300 n8 n7 n6 H0) ∧ some q0 = some (mub_300_39 n8 n7 n6 n5 n4 n3 n2 n1 n0 H0 H1)) (f17 : n9 ≤ 40) (f18 : 0 ≤ n9) (f19 : n9 = hV H1 (n5).toNat 82) (f20 : n0 < n9) (f21 : n10 = 298) (f22 : n10 = hV H1 (n5).toNat 24) (f23 : n11 = 344) (f24 : n11 = hV H1 (n5).toNat 83) (f25 : n12 ≤ 1007) (f26 : 0 ≤ n12) (f27 : n12 = hV H1 (n11).toNat (n1).toNat) (f28 : n13 ≤ 5) (f29 : 0 ≤ n13) (f30 : n13 = hV H1 (n10).toNat (n12).toNat) (f31 : n14 = 1) (f32 : n13 = n14) (f33 : n15 = 298) (f34 : n15 = hV H1 (n5).toNat 24) (f35 : n16 = 344) (f36 : n16 = hV H1 (n5).toNat 83) (f37 : n17 ≤ 1007) (f38 : 0 ≤ n17) (f39 : n17 = hV H1 (n16).toNat (n0).toNat) (f40 : n18 ≤ 5) (f41 : 0 ≤ n18) (f42 : n18 = hV H1 (n15).toNat (n17).toNat) (f43 : n19 = 1) (f44 : n18 = n19) (f45 : n20 = 300) (f46 : n20 = hV H1 (n5).toNat 26) (f47 : n21 = 344) (f48 : n21 = hV H1 (n5).toNat 83) (f49 : n22 ≤ 1007) (f50 : 0 ≤ n22) (f51 : n22 = hV H1 (n21).toNat (n1).toNat) (f52 : n23 ≤ 9999) (f53 : (-1) ≤ n23) (f54 : n23 = hV H1 (n20).toNat (n22).toNat) (f55 : n24 = 300) (f56 : n24 = hV H1 (n5).toNat 26) (f57 : n25 = 344) (f58 : n25 = hV H1 (n5).toNat 83) (f59 : n26 ≤ 1007) (f60 : 0 ≤ n26) (f61 : n26 = hV H1 (n25).toNat (n0).toNat) (f62 : n27 ≤ 9999) (f63 : (-1) ≤ n27) (f64 : n27 = hV H1 (n24).toNat (n26).toNat) (f65 : n23 = n27) (f66 : n0 = n1) (f67 : n2 ≠ 0) (f68 : n28 = w32 (n2 + (-1))) (f69 : n29 = w32 (n0 + 1)) : 0 ≤ n29 := by
  have g4 := f16.2.1.1
  unfold Ab_300_39 at g4
  have g3 := f16.2.1.2
  unfold preb_300 at g3
  have e0 : n9 = hV H1 285 82 := (by rw [f10] at f19; exact f19 : n9 = hV H1 285 82)
  have e1 : n12 = hV H1 344 (n1).toNat := (by rw [f23] at f27; exact f27 : n12 = hV H1 344 (n1).toNat)
  have e2 : hV H1 298 = hV H0 298 := fRow f16.1.2.1 298 (by decide +kernel)
  have e3 : n13 = hV H0 298 (n12).toNat := (by rw [f21] at f30; exact f30 : n13 = hV H1 298 (n12).toNat).trans ((congrFun e2 _))
  have e4 : n17 = hV H1 344 (n0).toNat := (by rw [f35] at f39; exact f39 : n17 = hV H1 344 (n0).toNat)
  have e5 : n18 = hV H0 298 (n17).toNat := (by rw [f33] at f42; exact f42 : n18 = hV H1 298 (n17).toNat).trans ((congrFun e2 _))
  have e6 : n22 = hV H1 344 (n1).toNat := (by rw [f47] at f51; exact f51 : n22 = hV H1 344 (n1).toNat)
  have e7 : hV H1 300 = hV H0 300 := fRow f16.1.2.1 300 (by decide +kernel)
  have e8 : n23 = hV H0 300 (n22).toNat := (by rw [f45] at f54; exact f54 : n23 = hV H1 300 (n22).toNat).trans ((congrFun e7 _))
  have e9 : n26 = hV H1 344 (n0).toNat := (by rw [f57] at f61; exact f61 : n26 = hV H1 344 (n0).toNat)
  have e10 : n27 = hV H0 300 (n26).toNat := (by rw [f55] at f64; exact f64 : n27 = hV H1 300 (n26).toNat).trans ((congrFun e7 _))
  have e11 : hV H1 301 = hV H0 301 := fRow f16.1.2.1 301 (by decide +kernel)
  have e12 : hV H1 302 = hV H0 302 := fRow f16.1.2.1 302 (by decide +kernel)
  have e13 : hV H1 303 = hV H0 303 := fRow f16.1.2.1 303 (by decide +kernel)
  have e14 : hV H1 305 = hV H0 305 := fRow f16.1.2.1 305 (by decide +kernel)
  have e15 : (0 : Int) ≤ hV H1 285 82 ∧ hV H1 285 82 ≤ 40 := f16.1.2.2 285 82 _ _ (by decide +kernel)
  try simp only [XQ] at *
  try simp only [e2, e7, e11, e12, e13, e14] at f16
  try simp only [e2, e7, e11, e12, e13, e14] at e15
  try simp only [e2, e7, e11, e12, e13, e14] at g3
  try simp only [e2, e7, e11, e12, e13, e14] at g4
  try simp only [e2, e7, e11, e12, e13, e14]
  have k0 := g4.1
  have k1 := g4.2.1
  have y0 := g4.2.2.1
  have y1 := g4.2.2.2
  have p0 := g3
  try simp only [e2, e7, e11, e12, e13, e14] at k0
  try simp only [e2, e7, e11, e12, e13, e14] at k1
  try simp only [e2, e7, e11, e12, e13, e14] at y0
  try simp only [e2, e7, e11, e12, e13, e14] at y1
  try simp only [e2, e7, e11, e12, e13, e14] at p0
  clear g3
  clear g4
  clear f19 f22 f24 f27 f30 f34 f36 f39 f42 f46 f48 f51 f54 f56 f58 f61 f64 e2 e7 e11 e12 e13 e14
  subst e0
  subst e1
  subst e3
  subst e4
  subst e5
  subst e6
  subst e8
  subst e9
  subst e10
  unfold w32 at *
  try (have ix0 : n29 = n0 + 1 := (by omega); subst ix0)
  try subst k1
  try subst k0
  omega
theorem c_300_39_44 {q0 : Nat} : vOkm T0 (eP e_300 L_300 A_300 mu_300 (some q0)) 3 ([(10, [33, 8], [], 1), (10, [32, 6], [], -1), (31, [6], [], 0), (40, [8, 7], [], 0), (40, [23, 27], [], 0), (22, [27, 24, 26], [1], 0), (90, [27], [], -1), (91, [27], [], 9999), (22, [26, 25, 8], [1], 0), (90, [26], [], 0), (91, [26], [], 1007), (20, [25, 3], [1], 83), (0, [25], [], 344), (20, [24, 3], [1], 26), (0, [24], [], 300), (22, [23, 20, 22], [1], 0), (90, [23], [], -1), (91, [23], [], 9999), (22, [22, 21, 7], [1], 0), (90, [22], [], 0), (91, [22], [], 1007), (20, [21, 3], [1], 83), (0, [21], [], 344), (20, [20, 3], [1], 26), (0, [20], [], 300), (40, [18, 19], [], 0), (0, [19], [], 1), (22, [18, 15, 17], [1], 0), (90, [18], [], 0), (91, [18], [], 5), (22, [17, 16, 8], [1], 0), (90, [17], [], 0), (91, [17], [], 1007), (20, [16, 3], [1], 83), (0, [16], [], 344), (20, [15, 3], [1], 24), (0, [15], [], 298), (40, [13, 14], [], 0), (0, [14], [], 1), (22, [13, 10, 12], [1], 0), (90, [13], [], 0), (91, [13], [], 5), (22, [12, 11, 7], [1], 0), (90, [12], [], 0), (91, [12], [], 1007), (20, [11, 3], [1], 83), (0, [11], [], 344), (20, [10, 3], [1], 24), (0, [10], [], 298), (42, [8, 9], [], 0), (20, [9, 3], [1], 82), (90, [9], [], 0), (91, [9], [], 40), (5000, [0, 1, 2, 3, 4, 5, 6, 7, 8], [0, 1], 39), (0, [0], [], 285), (90, [1], [], -2147483648), (91, [1], [], 2147483647), (90, [2], [], -2147483648), (91, [2], [], 2147483647), (0, [3], [], 285), (90, [4], [], -2147483648), (91, [4], [], 2147483647), (90, [5], [], -2147483648), (91, [5], [], 2147483647), (90, [6], [], -2147483648), (91, [6], [], 2147483647), (90, [7], [], 0), (91, [7], [], 39), (90, [8], [], 0), (91, [8], [], 40)], (90, [33], [], 0)) := vOk_in fun ρ η h => by
  obtain ⟨f0, f1, f2, f3, f4, f5, f6, f7, f8, f9, f10, f11, f12, f13, f14, f15, f16, f17, f18, f19, f20, f21, f22, f23, f24, f25, f26, f27, f28, f29, f30, f31, f32, f33, f34, f35, f36, f37, f38, f39, f40, f41, f42, f43, f44, f45, f46, f47, f48, f49, f50, f51, f52, f53, f54, f55, f56, f57, f58, f59, f60, f61, f62, f63, f64, f65, f66, f67, f68, f69, _⟩ := h
  exact q_300_51 (q0 := q0) (n0 := ρ 8) (n1 := ρ 7) (n2 := ρ 6) (n3 := ρ 5) (n4 := ρ 4) (n5 := ρ 3) (n6 := ρ 2) (n7 := ρ 1) (n8 := ρ 0) (n9 := ρ 9) (n10 := ρ 10) (n11 := ρ 11) (n12 := ρ 12) (n13 := ρ 13) (n14 := ρ 14) (n15 := ρ 15) (n16 := ρ 16) (n17 := ρ 17) (n18 := ρ 18) (n19 := ρ 19) (n20 := ρ 20) (n21 := ρ 21) (n22 := ρ 22) (n23 := ρ 23) (n24 := ρ 24) (n25 := ρ 25) (n26 := ρ 26) (n27 := ρ 27) (n28 := ρ 32) (n29 := ρ 33) (H0 := η 0) (H1 := η 1) f69 f68 f67 f66 f65 f64 f63 f62 f61 f60 f59 f58 f57 f56 f55 f54 f53 f52 f51 f50 f49 f48 f47 f46 f45 f44 f43 f42 f41 f40 f39 f38 f37 f36 f35 f34 f33 f32 f31 f30 f29 f28 f27 f26 f25 f24 f23 f22 f21 f20 f19 f18 f17 f16 f15 f14 f13 f12 f11 f10 f9 f8 f7 f6 f5 f4 f3 f2 f1 f0
theorem q_300_52 {q0 : Nat} {n0 n1 n2 n3 n4 n5 n6 n7 n8 n9 n10 n11 n12 n13 n14 n15 n16 n17 n18 n19 n20 n21 n22 n23 n24 n25 n26 n27 n28 n29 : Int} {H0 H1 : gH} (f0 : n0 ≤ 40) (f1 : 0 ≤ n0) (f2 : n1 ≤ 39) (f3 : 0 ≤ n1) (f4 : n2 ≤ 2147483647) (f5 : (-2147483648) ≤ n2) (f6 : n3 ≤ 2147483647) (f7 : (-2147483648) ≤ n3) (f8 : n4 ≤ 2147483647) (f9 : (-2147483648) ≤ n4) (f10 : n5 = 285) (f11 : n6 ≤ 2147483647) (f12 : (-2147483648) ≤ n6) (f13 : n7 ≤ 2147483647) (f14 : (-2147483648) ≤ n7) (f15 : n8 = 285) (f16 : (hLe T0 H0 H1 ∧ hFr s_300.2.2.2.2 H0 H1 ∧ hWt T0 H1) ∧ (Ab_300_39 n8 n7 n6 n5 n4 n3 n2 n1 n0 H0 H1 ∧ preb_300 n8 n7 n6 H0) ∧ some q0 = some (mub_300_39 n8 n7 n6 n5 n4 n3 n2 n1 n0 H0 H1)) (f17 : n9 ≤ 40) (f18 : 0 ≤ n9) (f19 : n9 = hV H1 (n5).toNat 82) (f20 : n0 < n9) (f21 : n10 = 298) (f22 : n10 = hV H1 (n5).toNat 24) (f23 : n11 = 344) (f24 : n11 = hV H1 (n5).toNat 83) (f25 : n12 ≤ 1007) (f26 : 0 ≤ n12) (f27 : n12 = hV H1 (n11).toNat (n1).toNat) (f28 : n13 ≤ 5) (f29 : 0 ≤ n13) (f30 : n13 = hV H1 (n10).toNat (n12).toNat) (f31 : n14 = 1) (f32 : n13 = n14) (f33 : n15 = 298) (f34 : n15 = hV H1 (n5).toNat 24) (f35 : n16 = 344) (f36 : n16 = hV H1 (n5).toNat 83) (f37 : n17 ≤ 1007) (f38 : 0 ≤ n17) (f39 : n17 = hV H1 (n16).toNat (n0).toNat) (f40 : n18 ≤ 5) (f41 : 0 ≤ n18) (f42 : n18 = hV H1 (n15).toNat (n17).toNat) (f43 : n19 = 1) (f44 : n18 = n19) (f45 : n20 = 300) (f46 : n20 = hV H1 (n5).toNat 26) (f47 : n21 = 344) (f48 : n21 = hV H1 (n5).toNat 83) (f49 : n22 ≤ 1007) (f50 : 0 ≤ n22) (f51 : n22 = hV H1 (n21).toNat (n1).toNat) (f52 : n23 ≤ 9999) (f53 : (-1) ≤ n23) (f54 : n23 = hV H1 (n20).toNat (n22).toNat) (f55 : n24 = 300) (f56 : n24 = hV H1 (n5).toNat 26) (f57 : n25 = 344) (f58 : n25 = hV H1 (n5).toNat 83) (f59 : n26 ≤ 1007) (f60 : 0 ≤ n26) (f61 : n26 = hV H1 (n25).toNat (n0).toNat) (f62 : n27 ≤ 9999) (f63 : (-1) ≤ n27) (f64 : n27 = hV H1 (n24).toNat (n26).toNat) (f65 : n23 = n27) (f66 : n0 = n1) (f67 : n2 ≠ 0) (f68 : n28 = w32 (n2 + (-1))) (f69 : n29 = w32 (n0 + 1)) : n29 ≤ 40 := by
  have g4 := f16.2.1.1
  unfold Ab_300_39 at g4
  have g3 := f16.2.1.2
  unfold preb_300 at g3
  have e0 : n9 = hV H1 285 82 := (by rw [f10] at f19; exact f19 : n9 = hV H1 285 82)
  have e1 : n12 = hV H1 344 (n1).toNat := (by rw [f23] at f27; exact f27 : n12 = hV H1 344 (n1).toNat)
  have e2 : hV H1 298 = hV H0 298 := fRow f16.1.2.1 298 (by decide +kernel)
  have e3 : n13 = hV H0 298 (n12).toNat := (by rw [f21] at f30; exact f30 : n13 = hV H1 298 (n12).toNat).trans ((congrFun e2 _))
  have e4 : n17 = hV H1 344 (n0).toNat := (by rw [f35] at f39; exact f39 : n17 = hV H1 344 (n0).toNat)
  have e5 : n18 = hV H0 298 (n17).toNat := (by rw [f33] at f42; exact f42 : n18 = hV H1 298 (n17).toNat).trans ((congrFun e2 _))
  have e6 : n22 = hV H1 344 (n1).toNat := (by rw [f47] at f51; exact f51 : n22 = hV H1 344 (n1).toNat)
  have e7 : hV H1 300 = hV H0 300 := fRow f16.1.2.1 300 (by decide +kernel)
  have e8 : n23 = hV H0 300 (n22).toNat := (by rw [f45] at f54; exact f54 : n23 = hV H1 300 (n22).toNat).trans ((congrFun e7 _))
  have e9 : n26 = hV H1 344 (n0).toNat := (by rw [f57] at f61; exact f61 : n26 = hV H1 344 (n0).toNat)
  have e10 : n27 = hV H0 300 (n26).toNat := (by rw [f55] at f64; exact f64 : n27 = hV H1 300 (n26).toNat).trans ((congrFun e7 _))
  have e11 : hV H1 301 = hV H0 301 := fRow f16.1.2.1 301 (by decide +kernel)
  have e12 : hV H1 302 = hV H0 302 := fRow f16.1.2.1 302 (by decide +kernel)
  have e13 : hV H1 303 = hV H0 303 := fRow f16.1.2.1 303 (by decide +kernel)
  have e14 : hV H1 305 = hV H0 305 := fRow f16.1.2.1 305 (by decide +kernel)
  have e15 : (0 : Int) ≤ hV H1 285 82 ∧ hV H1 285 82 ≤ 40 := f16.1.2.2 285 82 _ _ (by decide +kernel)
  try simp only [XQ] at *
  try simp only [e2, e7, e11, e12, e13, e14] at f16
  try simp only [e2, e7, e11, e12, e13, e14] at e15
  try simp only [e2, e7, e11, e12, e13, e14] at g3
  try simp only [e2, e7, e11, e12, e13, e14] at g4
  try simp only [e2, e7, e11, e12, e13, e14]
  have k0 := g4.1
  have k1 := g4.2.1
  have y0 := g4.2.2.1
  have y1 := g4.2.2.2
  have p0 := g3
  try simp only [e2, e7, e11, e12, e13, e14] at k0
  try simp only [e2, e7, e11, e12, e13, e14] at k1
  try simp only [e2, e7, e11, e12, e13, e14] at y0
  try simp only [e2, e7, e11, e12, e13, e14] at y1
  try simp only [e2, e7, e11, e12, e13, e14] at p0
  clear g3
  clear g4
  clear f19 f22 f24 f27 f30 f34 f36 f39 f42 f46 f48 f51 f54 f56 f58 f61 f64 e2 e7 e11 e12 e13 e14
  subst e0
  subst e1
  subst e3
  subst e4
  subst e5
  subst e6
  subst e8
  subst e9
  subst e10
  unfold w32 at *
  try (have ix0 : n29 = n0 + 1 := (by omega); subst ix0)
  try subst k1
  try subst k0
  omega
theorem c_300_39_45 {q0 : Nat} : vOkm T0 (eP e_300 L_300 A_300 mu_300 (some q0)) 3 ([(10, [33, 8], [], 1), (10, [32, 6], [], -1), (31, [6], [], 0), (40, [8, 7], [], 0), (40, [23, 27], [], 0), (22, [27, 24, 26], [1], 0), (90, [27], [], -1), (91, [27], [], 9999), (22, [26, 25, 8], [1], 0), (90, [26], [], 0), (91, [26], [], 1007), (20, [25, 3], [1], 83), (0, [25], [], 344), (20, [24, 3], [1], 26), (0, [24], [], 300), (22, [23, 20, 22], [1], 0), (90, [23], [], -1), (91, [23], [], 9999), (22, [22, 21, 7], [1], 0), (90, [22], [], 0), (91, [22], [], 1007), (20, [21, 3], [1], 83), (0, [21], [], 344), (20, [20, 3], [1], 26), (0, [20], [], 300), (40, [18, 19], [], 0), (0, [19], [], 1), (22, [18, 15, 17], [1], 0), (90, [18], [], 0), (91, [18], [], 5), (22, [17, 16, 8], [1], 0), (90, [17], [], 0), (91, [17], [], 1007), (20, [16, 3], [1], 83), (0, [16], [], 344), (20, [15, 3], [1], 24), (0, [15], [], 298), (40, [13, 14], [], 0), (0, [14], [], 1), (22, [13, 10, 12], [1], 0), (90, [13], [], 0), (91, [13], [], 5), (22, [12, 11, 7], [1], 0), (90, [12], [], 0), (91, [12], [], 1007), (20, [11, 3], [1], 83), (0, [11], [], 344), (20, [10, 3], [1], 24), (0, [10], [], 298), (42, [8, 9], [], 0), (20, [9, 3], [1], 82), (90, [9], [], 0), (91, [9], [], 40), (5000, [0, 1, 2, 3, 4, 5, 6, 7, 8], [0, 1], 39), (0, [0], [], 285), (90, [1], [], -2147483648), (91, [1], [], 2147483647), (90, [2], [], -2147483648), (91, [2], [], 2147483647), (0, [3], [], 285), (90, [4], [], -2147483648), (91, [4], [], 2147483647), (90, [5], [], -2147483648), (91, [5], [], 2147483647), (90, [6], [], -2147483648), (91, [6], [], 2147483647), (90, [7], [], 0), (91, [7], [], 39), (90, [8], [], 0), (91, [8], [], 40)], (91, [33], [], 40)) := vOk_in fun ρ η h => by
  obtain ⟨f0, f1, f2, f3, f4, f5, f6, f7, f8, f9, f10, f11, f12, f13, f14, f15, f16, f17, f18, f19, f20, f21, f22, f23, f24, f25, f26, f27, f28, f29, f30, f31, f32, f33, f34, f35, f36, f37, f38, f39, f40, f41, f42, f43, f44, f45, f46, f47, f48, f49, f50, f51, f52, f53, f54, f55, f56, f57, f58, f59, f60, f61, f62, f63, f64, f65, f66, f67, f68, f69, _⟩ := h
  exact q_300_52 (q0 := q0) (n0 := ρ 8) (n1 := ρ 7) (n2 := ρ 6) (n3 := ρ 5) (n4 := ρ 4) (n5 := ρ 3) (n6 := ρ 2) (n7 := ρ 1) (n8 := ρ 0) (n9 := ρ 9) (n10 := ρ 10) (n11 := ρ 11) (n12 := ρ 12) (n13 := ρ 13) (n14 := ρ 14) (n15 := ρ 15) (n16 := ρ 16) (n17 := ρ 17) (n18 := ρ 18) (n19 := ρ 19) (n20 := ρ 20) (n21 := ρ 21) (n22 := ρ 22) (n23 := ρ 23) (n24 := ρ 24) (n25 := ρ 25) (n26 := ρ 26) (n27 := ρ 27) (n28 := ρ 32) (n29 := ρ 33) (H0 := η 0) (H1 := η 1) f69 f68 f67 f66 f65 f64 f63 f62 f61 f60 f59 f58 f57 f56 f55 f54 f53 f52 f51 f50 f49 f48 f47 f46 f45 f44 f43 f42 f41 f40 f39 f38 f37 f36 f35 f34 f33 f32 f31 f30 f29 f28 f27 f26 f25 f24 f23 f22 f21 f20 f19 f18 f17 f16 f15 f14 f13 f12 f11 f10 f9 f8 f7 f6 f5 f4 f3 f2 f1 f0
theorem q_300_53 {q0 : Nat} {n0 n1 n2 n3 n4 n5 n6 n7 n8 n9 n10 n11 n12 n13 n14 n15 n16 n17 n18 n19 n20 n21 n22 n23 n24 n25 n26 n27 n28 n29 n30 n31 n32 n33 : Int} {H0 H1 H2 H3 H4 H5 : gH} (f0 : n0 ≤ 40) (f1 : 0 ≤ n0) (f2 : n1 ≤ 39) (f3 : 0 ≤ n1) (f4 : n2 ≤ 2147483647) (f5 : (-2147483648) ≤ n2) (f6 : n3 ≤ 2147483647) (f7 : (-2147483648) ≤ n3) (f8 : n4 ≤ 2147483647) (f9 : (-2147483648) ≤ n4) (f10 : n5 = 285) (f11 : n6 ≤ 2147483647) (f12 : (-2147483648) ≤ n6) (f13 : n7 ≤ 2147483647) (f14 : (-2147483648) ≤ n7) (f15 : n8 = 285) (f16 : (hLe T0 H0 H1 ∧ hFr s_300.2.2.2.2 H0 H1 ∧ hWt T0 H1) ∧ (Ab_300_39 n8 n7 n6 n5 n4 n3 n2 n1 n0 H0 H1 ∧ preb_300 n8 n7 n6 H0) ∧ some q0 = some (mub_300_39 n8 n7 n6 n5 n4 n3 n2 n1 n0 H0 H1)) (f17 : n9 ≤ 40) (f18 : 0 ≤ n9) (f19 : n9 = hV H1 (n5).toNat 82) (f20 : n0 < n9) (f21 : n10 = 298) (f22 : n10 = hV H1 (n5).toNat 24) (f23 : n11 = 344) (f24 : n11 = hV H1 (n5).toNat 83) (f25 : n12 ≤ 1007) (f26 : 0 ≤ n12) (f27 : n12 = hV H1 (n11).toNat (n1).toNat) (f28 : n13 ≤ 5) (f29 : 0 ≤ n13) (f30 : n13 = hV H1 (n10).toNat (n12).toNat) (f31 : n14 = 1) (f32 : n13 = n14) (f33 : n15 = 298) (f34 : n15 = hV H1 (n5).toNat 24) (f35 : n16 = 344) (f36 : n16 = hV H1 (n5).toNat 83) (f37 : n17 ≤ 1007) (f38 : 0 ≤ n17) (f39 : n17 = hV H1 (n16).toNat (n0).toNat) (f40 : n18 ≤ 5) (f41 : 0 ≤ n18) (f42 : n18 = hV H1 (n15).toNat (n17).toNat) (f43 : n19 = 1) (f44 : n18 = n19) (f45 : n20 = 300) (f46 : n20 = hV H1 (n5).toNat 26) (f47 : n21 = 344) (f48 : n21 = hV H1 (n5).toNat 83) (f49 : n22 ≤ 1007) (f50 : 0 ≤ n22) (f51 : n22 = hV H1 (n21).toNat (n1).toNat) (f52 : n23 ≤ 9999) (f53 : (-1) ≤ n23) (f54 : n23 = hV H1 (n20).toNat (n22).toNat) (f55 : n24 = 300) (f56 : n24 = hV H1 (n5).toNat 26) (f57 : n25 = 344) (f58 : n25 = hV H1 (n5).toNat 83) (f59 : n26 ≤ 1007) (f60 : 0 ≤ n26) (f61 : n26 = hV H1 (n25).toNat (n0).toNat) (f62 : n27 ≤ 9999) (f63 : (-1) ≤ n27) (f64 : n27 = hV H1 (n24).toNat (n26).toNat) (f65 : n23 = n27) (f66 : n28 ≤ 10999) (f67 : (-10999) ≤ n28) (f68 : (hLe T0 H1 H2 ∧ hFr s_271.2.2.2.2 H1 H2 ∧ ((0 : Int) = 0 → H2.length = H1.length) ∧ hWt T0 H2) ∧ True) (f69 : n29 ≤ 10999) (f70 : (-10999) ≤ n29) (f71 : (hLe T0 H2 H3 ∧ hFr s_271.2.2.2.2 H2 H3 ∧ ((0 : Int) = 0 → H3.length = H2.length) ∧ hWt T0 H3) ∧ True) (f72 : n28 < n29) (f73 : n0 = n1) (f74 : n30 ≤ 10999) (f75 : (-10999) ≤ n30) (f76 : (hLe T0 H3 H4 ∧ hFr s_271.2.2.2.2 H3 H4 ∧ ((0 : Int) = 0 → H4.length = H3.length) ∧ hWt T0 H4) ∧ True) (f77 : n31 ≤ 10999) (f78 : (-10999) ≤ n31) (f79 : (hLe T0 H4 H5 ∧ hFr s_272.2.2.2.2 H4 H5 ∧ ((0 : Int) = 0 → H5.length = H4.length) ∧ hWt T0 H5) ∧ True) (f80 : n30 < n31) (f81 : n2 ≠ 0) (f82 : n32 = w32 (n2 + (-1))) (f83 : n33 = w32 (n0 + 1)) : Ab_300_39 n8 n7 n6 n5 n4 n3 n32 n1 n33 H0 H5 ∧ ∀ q, some q0 = some q → mub_300_39 n8 n7 n6 n5 n4 n3 n32 n1 n33 H0 H5 < q := by
  have g4 := f16.2.1.1
  unfold Ab_300_39 at g4
  have g3 := f16.2.1.2
  unfold preb_300 at g3
  have g5 := Option.some.inj f16.2.2
  unfold mub_300_39 at g5
  unfold Ab_300_39
  unfold mub_300_39
  have e0 : n9 = hV H1 285 82 := (by rw [f10] at f19; exact f19 : n9 = hV H1 285 82)
  have e1 : n12 = hV H1 344 (n1).toNat := (by rw [f23] at f27; exact f27 : n12 = hV H1 344 (n1).toNat)
  have e2 : hV H1 298 = hV H0 298 := fRow f16.1.2.1 298 (by decide +kernel)
  have e3 : n13 = hV H0 298 (n12).toNat := (by rw [f21] at f30; exact f30 : n13 = hV H1 298 (n12).toNat).trans ((congrFun e2 _))
  have e4 : n17 = hV H1 344 (n0).toNat := (by rw [f35] at f39; exact f39 : n17 = hV H1 344 (n0).toNat)
  have e5 : n18 = hV H0 298 (n17).toNat := (by rw [f33] at f42; exact f42 : n18 = hV H1 298 (n17).toNat).trans ((congrFun e2 _))
  have e6 : n22 = hV H1 344 (n1).toNat := (by rw [f47] at f51; exact f51 : n22 = hV H1 344 (n1).toNat)
  have e7 : hV H1 300 = hV H0 300 := fRow f16.1.2.1 300 (by decide +kernel)
  have e8 : n23 = hV H0 300 (n22).toNat := (by rw [f45] at f54; exact f54 : n23 = hV H1 300 (n22).toNat).trans ((congrFun e7 _))
  have e9 : n26 = hV H1 344 (n0).toNat := (by rw [f57] at f61; exact f61 : n26 = hV H1 344 (n0).toNat)
  have e10 : n27 = hV H0 300 (n26).toNat := (by rw [f55] at f64; exact f64 : n27 = hV H1 300 (n26).toNat).trans ((congrFun e7 _))
  have e11 : hV H1 301 = hV H0 301 := fRow f16.1.2.1 301 (by decide +kernel)
  have e12 : hV H1 302 = hV H0 302 := fRow f16.1.2.1 302 (by decide +kernel)
  have e13 : hV H1 303 = hV H0 303 := fRow f16.1.2.1 303 (by decide +kernel)
  have e14 : hV H1 305 = hV H0 305 := fRow f16.1.2.1 305 (by decide +kernel)
  have e15 : hV H5 285 82 = hV H4 285 82 := f79.1.2.1.1 285 82 (by decide +kernel)
  have e16 : hV H4 285 82 = hV H3 285 82 := f76.1.2.1.1 285 82 (by decide +kernel)
  have e17 : hV H3 285 82 = hV H2 285 82 := f71.1.2.1.1 285 82 (by decide +kernel)
  have e18 : hV H2 285 82 = hV H1 285 82 := f68.1.2.1.1 285 82 (by decide +kernel)
  have e19 : hV H5 285 82 = hV H1 285 82 := (e15).trans ((e16).trans ((e17).trans e18))
  have e20 : hV H5 298 = hV H4 298 := fRow f79.1.2.1 298 (by decide +kernel)
  have e21 : hV H4 298 = hV H3 298 := fRow f76.1.2.1 298 (by decide +kernel)
  have e22 : hV H3 298 = hV H2 298 := fRow f71.1.2.1 298 (by decide +kernel)
  have e23 : hV H2 298 = hV H1 298 := fRow f68.1.2.1 298 (by decide +kernel)
  have e24 : hV H2 298 = hV H0 298 := e23.trans e2
  have e25 : hV H3 298 = hV H0 298 := e22.trans e24
  have e26 : hV H4 298 = hV H0 298 := e21.trans e25
  have e27 : hV H5 298 = hV H0 298 := e20.trans e26
  have e28 : hV H5 300 = hV H4 300 := fRow f79.1.2.1 300 (by decide +kernel)
  have e29 : hV H4 300 = hV H3 300 := fRow f76.1.2.1 300 (by decide +kernel)
  have e30 : hV H3 300 = hV H2 300 := fRow f71.1.2.1 300 (by decide +kernel)
  have e31 : hV H2 300 = hV H1 300 := fRow f68.1.2.1 300 (by decide +kernel)
  have e32 : hV H2 300 = hV H0 300 := e31.trans e7
  have e33 : hV H3 300 = hV H0 300 := e30.trans e32
  have e34 : hV H4 300 = hV H0 300 := e29.trans e33
  have e35 : hV H5 300 = hV H0 300 := e28.trans e34
  have e36 : hV H5 301 = hV H4 301 := fRow f79.1.2.1 301 (by decide +kernel)
  have e37 : hV H4 301 = hV H3 301 := fRow f76.1.2.1 301 (by decide +kernel)
  have e38 : hV H3 301 = hV H2 301 := fRow f71.1.2.1 301 (by decide +kernel)
  have e39 : hV H2 301 = hV H1 301 := fRow f68.1.2.1 301 (by decide +kernel)
  have e40 : hV H2 301 = hV H0 301 := e39.trans e11
  have e41 : hV H3 301 = hV H0 301 := e38.trans e40
  have e42 : hV H4 301 = hV H0 301 := e37.trans e41
  have e43 : hV H5 301 = hV H0 301 := e36.trans e42
  have e44 : hV H5 302 = hV H4 302 := fRow f79.1.2.1 302 (by decide +kernel)
  have e45 : hV H4 302 = hV H3 302 := fRow f76.1.2.1 302 (by decide +kernel)
  have e46 : hV H3 302 = hV H2 302 := fRow f71.1.2.1 302 (by decide +kernel)
  have e47 : hV H2 302 = hV H1 302 := fRow f68.1.2.1 302 (by decide +kernel)
  have e48 : hV H2 302 = hV H0 302 := e47.trans e12
  have e49 : hV H3 302 = hV H0 302 := e46.trans e48
  have e50 : hV H4 302 = hV H0 302 := e45.trans e49
  have e51 : hV H5 302 = hV H0 302 := e44.trans e50
  have e52 : hV H5 303 = hV H4 303 := fRow f79.1.2.1 303 (by decide +kernel)
  have e53 : hV H4 303 = hV H3 303 := fRow f76.1.2.1 303 (by decide +kernel)
  have e54 : hV H3 303 = hV H2 303 := fRow f71.1.2.1 303 (by decide +kernel)
  have e55 : hV H2 303 = hV H1 303 := fRow f68.1.2.1 303 (by decide +kernel)
  have e56 : hV H2 303 = hV H0 303 := e55.trans e13
  have e57 : hV H3 303 = hV H0 303 := e54.trans e56
  have e58 : hV H4 303 = hV H0 303 := e53.trans e57
  have e59 : hV H5 303 = hV H0 303 := e52.trans e58
  have e60 : hV H5 305 = hV H4 305 := fRow f79.1.2.1 305 (by decide +kernel)
  have e61 : hV H4 305 = hV H3 305 := fRow f76.1.2.1 305 (by decide +kernel)
  have e62 : hV H3 305 = hV H2 305 := fRow f71.1.2.1 305 (by decide +kernel)
  have e63 : hV H2 305 = hV H1 305 := fRow f68.1.2.1 305 (by decide +kernel)
  have e64 : hV H2 305 = hV H0 305 := e63.trans e14
  have e65 : hV H3 305 = hV H0 305 := e62.trans e64
  have e66 : hV H4 305 = hV H0 305 := e61.trans e65
  have e67 : hV H5 305 = hV H0 305 := e60.trans e66
  have e68 : hV H5 344 = hV H4 344 := fRow f79.1.2.1 344 (by decide +kernel)
  have e69 : hV H4 344 = hV H3 344 := fRow f76.1.2.1 344 (by decide +kernel)
  have e70 : hV H3 344 = hV H2 344 := fRow f71.1.2.1 344 (by decide +kernel)
  have e71 : hV H2 344 = hV H1 344 := fRow f68.1.2.1 344 (by decide +kernel)
  have e72 : hV H3 344 = hV H1 344 := e70.trans e71
  have e73 : hV H4 344 = hV H1 344 := e69.trans e72
  have e74 : hV H5 344 = hV H1 344 := e68.trans e73
  have e75 : (0 : Int) ≤ hV H1 285 82 ∧ hV H1 285 82 ≤ 40 := f16.1.2.2 285 82 _ _ (by decide +kernel)
  have e76 : (0 : Int) ≤ hV H5 285 82 ∧ hV H5 285 82 ≤ 40 := f79.1.2.2.2 285 82 _ _ (by decide +kernel)
  try simp only [XQ] at *
  try simp only [e2, e7, e11, e12, e13, e14, e19, e27, e35, e43, e51, e59, e67, e74] at f16
  try simp only [e2, e7, e11, e12, e13, e14, e19, e27, e35, e43, e51, e59, e67, e74] at e75
  try simp only [e2, e7, e11, e12, e13, e14, e19, e27, e35, e43, e51, e59, e67, e74] at e76
  try simp only [e2, e7, e11, e12, e13, e14, e19, e27, e35, e43, e51, e59, e67, e74] at g3
  try simp only [e2, e7, e11, e12, e13, e14, e19, e27, e35, e43, e51, e59, e67, e74] at g4
  try simp only [e2, e7, e11, e12, e13, e14, e19, e27, e35, e43, e51, e59, e67, e74] at g5
  try simp only [e2, e7, e11, e12, e13, e14, e19, e27, e35, e43, e51, e59, e67, e74]
  have k0 := g4.1
  have k1 := g4.2.1
  have y0 := g4.2.2.1
  have y1 := g4.2.2.2
  have p0 := g3
  try simp only [e2, e7, e11, e12, e13, e14, e19, e27, e35, e43, e51, e59, e67, e74] at k0
  try simp only [e2, e7, e11, e12, e13, e14, e19, e27, e35, e43, e51, e59, e67, e74] at k1
  try simp only [e2, e7, e11, e12, e13, e14, e19, e27, e35, e43, e51, e59, e67, e74] at y0
  try simp only [e2, e7, e11, e12, e13, e14, e19, e27, e35, e43, e51, e59, e67, e74] at y1
  try simp only [e2, e7, e11, e12, e13, e14, e19, e27, e35, e43, e51, e59, e67, e74] at p0
  clear g3
  clear g4
  clear f19 f22 f24 f27 f30 f34 f36 f39 f42 f46 f48 f51 f54 f56 f58 f61 f64 e2 e7 e11 e12 e13 e14 e15 e16 e17 e18 e19 e20 e21 e22 e23 e24 e25 e26 e27 e28 e29 e30 e31 e32 e33 e34 e35 e36 e37 e38 e39 e40 e41 e42 e43 e44 e45 e46 e47 e48 e49 e50 e51 e52 e53 e54 e55 e56 e57 e58 e59 e60 e61 e62 e63 e64 e65 e66 e67 e68 e69 e70 e71 e72 e73 e74
  subst e0
  subst e1
  subst e3
  subst e4
  subst e5
  subst e6
  subst e8
  subst e9
  subst e10
  unfold w32 at *
  try (have ix0 : n32 = n2 + -1 := (by omega); subst ix0)
  try (have ix1 : n33 = n0 + 1 := (by omega); subst ix1)
  try subst k1
  try subst k0
  refine ⟨?_, fun q hq => ?_⟩
  · refine ⟨?_, ?_, ?_, ?_⟩ <;> first | assumption | omega | trivial
  · have g6 := Option.some.inj hq
    subst g6
    omega
theorem c_300_39_46 {q0 : Nat} : vOkm T0 (eP e_300 L_300 A_300 mu_300 (some q0)) 3 ([(10, [33, 8], [], 1), (10, [32, 6], [], -1), (31, [6], [], 0), (42, [30, 31], [], 0), (1272, [31, 3, 8], [4, 5], 0), (90, [31], [], -10999), (91, [31], [], 10999), (1271, [30, 3, 8], [3, 4], 0), (90, [30], [], -10999), (91, [30], [], 10999), (40, [8, 7], [], 0), (42, [28, 29], [], 0), (1271, [29, 3, 7], [2, 3], 0), (90, [29], [], -10999), (91, [29], [], 10999), (1271, [28, 3, 8], [1, 2], 0), (90, [28], [], -10999), (91, [28], [], 10999), (40, [23, 27], [], 0), (22, [27, 24, 26], [1], 0), (90, [27], [], -1), (91, [27], [], 9999), (22, [26, 25, 8], [1], 0), (90, [26], [], 0), (91, [26], [], 1007), (20, [25, 3], [1], 83), (0, [25], [], 344), (20, [24, 3], [1], 26), (0, [24], [], 300), (22, [23, 20, 22], [1], 0), (90, [23], [], -1), (91, [23], [], 9999), (22, [22, 21, 7], [1], 0), (90, [22], [], 0), (91, [22], [], 1007), (20, [21, 3], [1], 83), (0, [21], [], 344), (20, [20, 3], [1], 26), (0, [20], [], 300), (40, [18, 19], [], 0), (0, [19], [], 1), (22, [18, 15, 17], [1], 0), (90, [18], [], 0), (91, [18], [], 5), (22, [17, 16, 8], [1], 0), (90, [17], [], 0), (91, [17], [], 1007), (20, [16, 3], [1], 83), (0, [16], [], 344), (20, [15, 3], [1], 24), (0, [15], [], 298), (40, [13, 14], [], 0), (0, [14], [], 1), (22, [13, 10, 12], [1], 0), (90, [13], [], 0), (91, [13], [], 5), (22, [12, 11, 7], [1], 0), (90, [12], [], 0), (91, [12], [], 1007), (20, [11, 3], [1], 83), (0, [11], [], 344), (20, [10, 3], [1], 24), (0, [10], [], 298), (42, [8, 9], [], 0), (20, [9, 3], [1], 82), (90, [9], [], 0), (91, [9], [], 40), (5000, [0, 1, 2, 3, 4, 5, 6, 7, 8], [0, 1], 39), (0, [0], [], 285), (90, [1], [], -2147483648), (91, [1], [], 2147483647), (90, [2], [], -2147483648), (91, [2], [], 2147483647), (0, [3], [], 285), (90, [4], [], -2147483648), (91, [4], [], 2147483647), (90, [5], [], -2147483648), (91, [5], [], 2147483647), (90, [6], [], -2147483648), (91, [6], [], 2147483647), (90, [7], [], 0), (91, [7], [], 39), (90, [8], [], 0), (91, [8], [], 40)], (4000, [3, 4, 5, 32, 7, 33], [5], 39)) := vOk_in fun ρ η h => by
  obtain ⟨f0, f1, f2, f3, f4, f5, f6, f7, f8, f9, f10, f11, f12, f13, f14, f15, f16, f17, f18, f19, f20, f21, f22, f23, f24, f25, f26, f27, f28, f29, f30, f31, f32, f33, f34, f35, f36, f37, f38, f39, f40, f41, f42, f43, f44, f45, f46, f47, f48, f49, f50, f51, f52, f53, f54, f55, f56, f57, f58, f59, f60, f61, f62, f63, f64, f65, f66, f67, f68, f69, f70, f71, f72, f73, f74, f75, f76, f77, f78, f79, f80, f81, f82, f83, _⟩ := h
  exact q_300_53 (q0 := q0) (n0 := ρ 8) (n1 := ρ 7) (n2 := ρ 6) (n3 := ρ 5) (n4 := ρ 4) (n5 := ρ 3) (n6 := ρ 2) (n7 := ρ 1) (n8 := ρ 0) (n9 := ρ 9) (n10 := ρ 10) (n11 := ρ 11) (n12 := ρ 12) (n13 := ρ 13) (n14 := ρ 14) (n15 := ρ 15) (n16 := ρ 16) (n17 := ρ 17) (n18 := ρ 18) (n19 := ρ 19) (n20 := ρ 20) (n21 := ρ 21) (n22 := ρ 22) (n23 := ρ 23) (n24 := ρ 24) (n25 := ρ 25) (n26 := ρ 26) (n27 := ρ 27) (n28 := ρ 28) (n29 := ρ 29) (n30 := ρ 30) (n31 := ρ 31) (n32 := ρ 32) (n33 := ρ 33) (H0 := η 0) (H1 := η 1) (H2 := η 2) (H3 := η 3) (H4 := η 4) (H5 := η 5) f83 f82 f81 f80 f79 f78 f77 f76 f75 f74 f73 f72 f71 f70 f69 f68 f67 f66 f65 f64 f63 f62 f61 f60 f59 f58 f57 f56 f55 f54 f53 f52 f51 f50 f49 f48 f47 f46 f45 f44 f43 f42 f41 f40 f39 f38 f37 f36 f35 f34 f33 f32 f31 f30 f29 f28 f27 f26 f25 f24 f23 f22 f21 f20 f19 f18 f17 f16 f15 f14 f13 f12 f11 f10 f9 f8 f7 f6 f5 f4 f3 f2 f1 f0
theorem q_300_54 {q0 : Nat} {n0 n1 n2 n3 n4 n5 n6 n7 n8 n9 n10 n11 n12 n13 n14 n15 n16 n17 n18 n19 n20 n21 n22 n23 n24 n25 n26 n27 n28 : Int} {H0 H1 : gH} (f0 : n0 ≤ 40) (f1 : 0 ≤ n0) (f2 : n1 ≤ 39) (f3 : 0 ≤ n1) (f4 : n2 ≤ 2147483647) (f5 : (-2147483648) ≤ n2) (f6 : n3 ≤ 2147483647) (f7 : (-2147483648) ≤ n3) (f8 : n4 ≤ 2147483647) (f9 : (-2147483648) ≤ n4) (f10 : n5 = 285) (f11 : n6 ≤ 2147483647) (f12 : (-2147483648) ≤ n6) (f13 : n7 ≤ 2147483647) (f14 : (-2147483648) ≤ n7) (f15 : n8 = 285) (f16 : (hLe T0 H0 H1 ∧ hFr s_300.2.2.2.2 H0 H1 ∧ hWt T0 H1) ∧ (Ab_300_39 n8 n7 n6 n5 n4 n3 n2 n1 n0 H0 H1 ∧ preb_300 n8 n7 n6 H0) ∧ some q0 = some (mub_300_39 n8 n7 n6 n5 n4 n3 n2 n1 n0 H0 H1)) (f17 : n9 ≤ 40) (f18 : 0 ≤ n9) (f19 : n9 = hV H1 (n5).toNat 82) (f20 : n0 < n9) (f21 : n10 = 298) (f22 : n10 = hV H1 (n5).toNat 24) (f23 : n11 = 344) (f24 : n11 = hV H1 (n5).toNat 83) (f25 : n12 ≤ 1007) (f26 : 0 ≤ n12) (f27 : n12 = hV H1 (n11).toNat (n1).toNat) (f28 : n13 ≤ 5) (f29 : 0 ≤ n13) (f30 : n13 = hV H1 (n10).toNat (n12).toNat) (f31 : n14 = 1) (f32 : n13 = n14) (f33 : n15 = 298) (f34 : n15 = hV H1 (n5).toNat 24) (f35 : n16 = 344) (f36 : n16 = hV H1 (n5).toNat 83) (f37 : n17 ≤ 1007) (f38 : 0 ≤ n17) (f39 : n17 = hV H1 (n16).toNat (n0).toNat) (f40 : n18 ≤ 5) (f41 : 0 ≤ n18) (f42 : n18 = hV H1 (n15).toNat (n17).toNat) (f43 : n19 = 1) (f44 : n18 = n19) (f45 : n20 = 300) (f46 : n20 = hV H1 (n5).toNat 26) (f47 : n21 = 344) (f48 : n21 = hV H1 (n5).toNat 83) (f49 : n22 ≤ 1007) (f50 : 0 ≤ n22) (f51 : n22 = hV H1 (n21).toNat (n1).toNat) (f52 : n23 ≤ 9999) (f53 : (-1) ≤ n23) (f54 : n23 = hV H1 (n20).toNat (n22).toNat) (f55 : n24 = 300) (f56 : n24 = hV H1 (n5).toNat 26) (f57 : n25 = 344) (f58 : n25 = hV H1 (n5).toNat 83) (f59 : n26 ≤ 1007) (f60 : 0 ≤ n26) (f61 : n26 = hV H1 (n25).toNat (n0).toNat) (f62 : n27 ≤ 9999) (f63 : (-1) ≤ n27) (f64 : n27 = hV H1 (n24).toNat (n26).toNat) (f65 : n23 = n27) (f66 : n0 = n1) (f67 : n28 = w32 (n0 + 1)) : 0 ≤ n28 := by
  have g4 := f16.2.1.1
  unfold Ab_300_39 at g4
  have g3 := f16.2.1.2
  unfold preb_300 at g3
  have e0 : n9 = hV H1 285 82 := (by rw [f10] at f19; exact f19 : n9 = hV H1 285 82)
  have e1 : n12 = hV H1 344 (n1).toNat := (by rw [f23] at f27; exact f27 : n12 = hV H1 344 (n1).toNat)
  have e2 : hV H1 298 = hV H0 298 := fRow f16.1.2.1 298 (by decide +kernel)
  have e3 : n13 = hV H0 298 (n12).toNat := (by rw [f21] at f30; exact f30 : n13 = hV H1 298 (n12).toNat).trans ((congrFun e2 _))
  have e4 : n17 = hV H1 344 (n0).toNat := (by rw [f35] at f39; exact f39 : n17 = hV H1 344 (n0).toNat)
  have e5 : n18 = hV H0 298 (n17).toNat := (by rw [f33] at f42; exact f42 : n18 = hV H1 298 (n17).toNat).trans ((congrFun e2 _))
  have e6 : n22 = hV H1 344 (n1).toNat := (by rw [f47] at f51; exact f51 : n22 = hV H1 344 (n1).toNat)
  have e7 : hV H1 300 = hV H0 300 := fRow f16.1.2.1 300 (by decide +kernel)
  have e8 : n23 = hV H0 300 (n22).toNat := (by rw [f45] at f54; exact f54 : n23 = hV H1 300 (n22).toNat).trans ((congrFun e7 _))
  have e9 : n26 = hV H1 344 (n0).toNat := (by rw [f57] at f61; exact f61 : n26 = hV H1 344 (n0).toNat)
  have e10 : n27 = hV H0 300 (n26).toNat := (by rw [f55] at f64; exact f64 : n27 = hV H1 300 (n26).toNat).trans ((congrFun e7 _))
  have e11 : hV H1 301 = hV H0 301 := fRow f16.1.2.1 301 (by decide +kernel)
  have e12 : hV H1 302 = hV H0 302 := fRow f16.1.2.1 302 (by decide +kernel)
  have e13 : hV H1 303 = hV H0 303 := fRow f16.1.2.1 303 (by decide +kernel)
  have e14 : hV H1 305 = hV H0 305 := fRow f16.1.2.1 305 (by decide +kernel)
  have e15 : (0 : Int) ≤ hV H1 285 82 ∧ hV H1 285 82 ≤ 40 := f16.1.2.2 285 82 _ _ (by decide +kernel)
  try simp only [XQ] at *
  try simp only [e2, e7, e11, e12, e13, e14] at f16
  try simp only [e2, e7, e11, e12, e13, e14] at e15
  try simp only [e2, e7, e11, e12, e13, e14] at g3
  try simp only [e2, e7, e11, e12, e13, e14] at g4
  try simp only [e2, e7, e11, e12, e13, e14]
  have k0 := g4.1
  have k1 := g4.2.1
  have y0 := g4.2.2.1
  have y1 := g4.2.2.2
  have p0 := g3
  try simp only [e2, e7, e11, e12, e13, e14] at k0
  try simp only [e2, e7, e11, e12, e13, e14] at k1
  try simp only [e2, e7, e11, e12, e13, e14] at y0
  try simp only [e2, e7, e11, e12, e13, e14] at y1
  try simp only [e2, e7, e11, e12, e13, e14] at p0
  clear g3
  clear g4
  clear f19 f22 f24 f27 f30 f34 f36 f39 f42 f46 f48 f51 f54 f56 f58 f61 f64 e2 e7 e11 e12 e13 e14
  subst e0
  subst e1
  subst e3
  subst e4
  subst e5
  subst e6
  subst e8
  subst e9
  subst e10
  unfold w32 at *
  try (have ix0 : n28 = n0 + 1 := (by omega); subst ix0)
  try subst k1
  try subst k0
  omega
theorem c_300_39_47 {q0 : Nat} : vOkm T0 (eP e_300 L_300 A_300 mu_300 (some q0)) 3 ([(10, [32, 8], [], 1), (40, [8, 7], [], 0), (40, [23, 27], [], 0), (22, [27, 24, 26], [1], 0), (90, [27], [], -1), (91, [27], [], 9999), (22, [26, 25, 8], [1], 0), (90, [26], [], 0), (91, [26], [], 1007), (20, [25, 3], [1], 83), (0, [25], [], 344), (20, [24, 3], [1], 26), (0, [24], [], 300), (22, [23, 20, 22], [1], 0), (90, [23], [], -1), (91, [23], [], 9999), (22, [22, 21, 7], [1], 0), (90, [22], [], 0), (91, [22], [], 1007), (20, [21, 3], [1], 83), (0, [21], [], 344), (20, [20, 3], [1], 26), (0, [20], [], 300), (40, [18, 19], [], 0), (0, [19], [], 1), (22, [18, 15, 17], [1], 0), (90, [18], [], 0), (91, [18], [], 5), (22, [17, 16, 8], [1], 0), (90, [17], [], 0), (91, [17], [], 1007), (20, [16, 3], [1], 83), (0, [16], [], 344), (20, [15, 3], [1], 24), (0, [15], [], 298), (40, [13, 14], [], 0), (0, [14], [], 1), (22, [13, 10, 12], [1], 0), (90, [13], [], 0), (91, [13], [], 5), (22, [12, 11, 7], [1], 0), (90, [12], [], 0), (91, [12], [], 1007), (20, [11, 3], [1], 83), (0, [11], [], 344), (20, [10, 3], [1], 24), (0, [10], [], 298), (42, [8, 9], [], 0), (20, [9, 3], [1], 82), (90, [9], [], 0), (91, [9], [], 40), (5000, [0, 1, 2, 3, 4, 5, 6, 7, 8], [0, 1], 39), (0, [0], [], 285), (90, [1], [], -2147483648), (91, [1], [], 2147483647), (90, [2], [], -2147483648), (91, [2], [], 2147483647), (0, [3], [], 285), (90, [4], [], -2147483648), (91, [4], [], 2147483647), (90, [5], [], -2147483648), (91, [5], [], 2147483647), (90, [6], [], -2147483648), (91, [6], [], 2147483647), (90, [7], [], 0), (91, [7], [], 39), (90, [8], [], 0), (91, [8], [], 40)], (90, [32], [], 0)) := vOk_in fun ρ η h => by
  obtain ⟨f0, f1, f2, f3, f4, f5, f6, f7, f8, f9, f10, f11, f12, f13, f14, f15, f16, f17, f18, f19, f20, f21, f22, f23, f24, f25, f26, f27, f28, f29, f30, f31, f32, f33, f34, f35, f36, f37, f38, f39, f40, f41, f42, f43, f44, f45, f46, f47, f48, f49, f50, f51, f52, f53, f54, f55, f56, f57, f58, f59, f60, f61, f62, f63, f64, f65, f66, f67, _⟩ := h
  exact q_300_54 (q0 := q0) (n0 := ρ 8) (n1 := ρ 7) (n2 := ρ 6) (n3 := ρ 5) (n4 := ρ 4) (n5 := ρ 3) (n6 := ρ 2) (n7 := ρ 1) (n8 := ρ 0) (n9 := ρ 9) (n10 := ρ 10) (n11 := ρ 11) (n12 := ρ 12) (n13 := ρ 13) (n14 := ρ 14) (n15 := ρ 15) (n16 := ρ 16) (n17 := ρ 17) (n18 := ρ 18) (n19 := ρ 19) (n20 := ρ 20) (n21 := ρ 21) (n22 := ρ 22) (n23 := ρ 23) (n24 := ρ 24) (n25 := ρ 25) (n26 := ρ 26) (n27 := ρ 27) (n28 := ρ 32) (H0 := η 0) (H1 := η 1) f67 f66 f65 f64 f63 f62 f61 f60 f59 f58 f57 f56 f55 f54 f53 f52 f51 f50 f49 f48 f47 f46 f45 f44 f43 f42 f41 f40 f39 f38 f37 f36 f35 f34 f33 f32 f31 f30 f29 f28 f27 f26 f25 f24 f23 f22 f21 f20 f19 f18 f17 f16 f15 f14 f13 f12 f11 f10 f9 f8 f7 f6 f5 f4 f3 f2 f1 f0
theorem q_300_55 {q0 : Nat} {n0 n1 n2 n3 n4 n5 n6 n7 n8 n9 n10 n11 n12 n13 n14 n15 n16 n17 n18 n19 n20 n21 n22 n23 n24 n25 n26 n27 n28 : Int} {H0 H1 : gH} (f0 : n0 ≤ 40) (f1 : 0 ≤ n0) (f2 : n1 ≤ 39) (f3 : 0 ≤ n1) (f4 : n2 ≤ 2147483647) (f5 : (-2147483648) ≤ n2) (f6 : n3 ≤ 2147483647) (f7 : (-2147483648) ≤ n3) (f8 : n4 ≤ 2147483647) (f9 : (-2147483648) ≤ n4) (f10 : n5 = 285) (f11 : n6 ≤ 2147483647) (f12 : (-2147483648) ≤ n6) (f13 : n7 ≤ 2147483647) (f14 : (-2147483648) ≤ n7) (f15 : n8 = 285) (f16 : (hLe T0 H0 H1 ∧ hFr s_300.2.2.2.2 H0 H1 ∧ hWt T0 H1) ∧ (Ab_300_39 n8 n7 n6 n5 n4 n3 n2 n1 n0 H0 H1 ∧ preb_300 n8 n7 n6 H0) ∧ some q0 = some (mub_300_39 n8 n7 n6 n5 n4 n3 n2 n1 n0 H0 H1)) (f17 : n9 ≤ 40) (f18 : 0 ≤ n9) (f19 : n9 = hV H1 (n5).toNat 82) (f20 : n0 < n9) (f21 : n10 = 298) (f22 : n10 = hV H1 (n5).toNat 24) (f23 : n11 = 344) (f24 : n11 = hV H1 (n5).toNat 83) (f25 : n12 ≤ 1007) (f26 : 0 ≤ n12) (f27 : n12 = hV H1 (n11).toNat (n1).toNat) (f28 : n13 ≤ 5) (f29 : 0 ≤ n13) (f30 : n13 = hV H1 (n10).toNat (n12).toNat) (f31 : n14 = 1) (f32 : n13 = n14) (f33 : n15 = 298) (f34 : n15 = hV H1 (n5).toNat 24) (f35 : n16 = 344) (f36 : n16 = hV H1 (n5).toNat 83) (f37 : n17 ≤ 1007) (f38 : 0 ≤ n17) (f39 : n17 = hV H1 (n16).toNat (n0).toNat) (f40 : n18 ≤ 5) (f41 : 0 ≤ n18) (f42 : n18 = hV H1 (n15).toNat (n17).toNat) (f43 : n19 = 1) (f44 : n18 = n19) (f45 : n20 = 300) (f46 : n20 = hV H1 (n5).toNat 26) (f47 : n21 = 344) (f48 : n21 = hV H1 (n5).toNat 83) (f49 : n22 ≤ 1007) (f50 : 0 ≤ n22) (f51 : n22 = hV H1 (n21).toNat (n1).toNat) (f52 : n23 ≤ 9999) (f53 : (-1) ≤ n23) (f54 : n23 = hV H1 (n20).toNat (n22).toNat) (f55 : n24 = 300) (f56 : n24 = hV H1 (n5).toNat 26) (f57 : n25 = 344) (f58 : n25 = hV H1 (n5).toNat 83) (f59 : n26 ≤ 1007) (f60 : 0 ≤ n26) (f61 : n26 = hV H1 (n25).toNat (n0).toNat) (f62 : n27 ≤ 9999) (f63 : (-1) ≤ n27) (f64 : n27 = hV H1 (n24).toNat (n26).toNat) (f65 : n23 = n27) (f66 : n0 = n1) (f67 : n28 = w32 (n0 + 1)) : n28 ≤ 40 := by
  have g4 := f16.2.1.1
  unfold Ab_300_39 at g4
  have g3 := f16.2.1.2
  unfold preb_300 at g3
  have e0 : n9 = hV H1 285 82 := (by rw [f10] at f19; exact f19 : n9 = hV H1 285 82)
  have e1 : n12 = hV H1 344 (n1).toNat := (by rw [f23] at f27; exact f27 : n12 = hV H1 344 (n1).toNat)
  have e2 : hV H1 298 = hV H0 298 := fRow f16.1.2.1 298 (by decide +kernel)
  have e3 : n13 = hV H0 298 (n12).toNat := (by rw [f21] at f30; exact f30 : n13 = hV H1 298 (n12).toNat).trans ((congrFun e2 _))
  have e4 : n17 = hV H1 344 (n0).toNat := (by rw [f35] at f39; exact f39 : n17 = hV H1 344 (n0).toNat)
  have e5 : n18 = hV H0 298 (n17).toNat := (by rw [f33] at f42; exact f42 : n18 = hV H1 298 (n17).toNat).trans ((congrFun e2 _))
  have e6 : n22 = hV H1 344 (n1).toNat := (by rw [f47] at f51; exact f51 : n22 = hV H1 344 (n1).toNat)
  have e7 : hV H1 300 = hV H0 300 := fRow f16.1.2.1 300 (by decide +kernel)
  have e8 : n23 = hV H0 300 (n22).toNat := (by rw [f45] at f54; exact f54 : n23 = hV H1 300 (n22).toNat).trans ((congrFun e7 _))
  have e9 : n26 = hV H1 344 (n0).toNat := (by rw [f57] at f61; exact f61 : n26 = hV H1 344 (n0).toNat)
  have e10 : n27 = hV H0 300 (n26).toNat := (by rw [f55] at f64; exact f64 : n27 = hV H1 300 (n26).toNat).trans ((congrFun e7 _))
  have e11 : hV H1 301 = hV H0 301 := fRow f16.1.2.1 301 (by decide +kernel)
  have e12 : hV H1 302 = hV H0 302 := fRow f16.1.2.1 302 (by decide +kernel)
  have e13 : hV H1 303 = hV H0 303 := fRow f16.1.2.1 303 (by decide +kernel)
  have e14 : hV H1 305 = hV H0 305 := fRow f16.1.2.1 305 (by decide +kernel)
  have e15 : (0 : Int) ≤ hV H1 285 82 ∧ hV H1 285 82 ≤ 40 := f16.1.2.2 285 82 _ _ (by decide +kernel)
  try simp only [XQ] at *
  try simp only [e2, e7, e11, e12, e13, e14] at f16
  try simp only [e2, e7, e11, e12, e13, e14] at e15
  try simp only [e2, e7, e11, e12, e13, e14] at g3
  try simp only [e2, e7, e11, e12, e13, e14] at g4
  try simp only [e2, e7, e11, e12, e13, e14]
  have k0 := g4.1
  have k1 := g4.2.1
  have y0 := g4.2.2.1
  have y1 := g4.2.2.2
  have p0 := g3
  try simp only [e2, e7, e11, e12, e13, e14] at k0
  try simp only [e2, e7, e11, e12, e13, e14] at k1
  try simp only [e2, e7, e11, e12, e13, e14] at y0
  try simp only [e2, e7, e11, e12, e13, e14] at y1
  try simp only [e2, e7, e11, e12, e13, e14] at p0
  clear g3
  clear g4
  clear f19 f22 f24 f27 f30 f34 f36 f39 f42 f46 f48 f51 f54 f56 f58 f61 f64 e2 e7 e11 e12 e13 e14
  subst e0
  subst e1
  subst e3
  subst e4
  subst e5
  subst e6
  subst e8
  subst e9
  subst e10
  unfold w32 at *
  try (have ix0 : n28 = n0 + 1 := (by omega); subst ix0)
  try subst k1
  try subst k0
  omega
theorem c_300_39_48 {q0 : Nat} : vOkm T0 (eP e_300 L_300 A_300 mu_300 (some q0)) 3 ([(10, [32, 8], [], 1), (40, [8, 7], [], 0), (40, [23, 27], [], 0), (22, [27, 24, 26], [1], 0), (90, [27], [], -1), (91, [27], [], 9999), (22, [26, 25, 8], [1], 0), (90, [26], [], 0), (91, [26], [], 1007), (20, [25, 3], [1], 83), (0, [25], [], 344), (20, [24, 3], [1], 26), (0, [24], [], 300), (22, [23, 20, 22], [1], 0), (90, [23], [], -1), (91, [23], [], 9999), (22, [22, 21, 7], [1], 0), (90, [22], [], 0), (91, [22], [], 1007), (20, [21, 3], [1], 83), (0, [21], [], 344), (20, [20, 3], [1], 26), (0, [20], [], 300), (40, [18, 19], [], 0), (0, [19], [], 1), (22, [18, 15, 17], [1], 0), (90, [18], [], 0), (91, [18], [], 5), (22, [17, 16, 8], [1], 0), (90, [17], [], 0), (91, [17], [], 1007), (20, [16, 3], [1], 83), (0, [16], [], 344), (20, [15, 3], [1], 24), (0, [15], [], 298), (40, [13, 14], [], 0), (0, [14], [], 1), (22, [13, 10, 12], [1], 0), (90, [13], [], 0), (91, [13], [], 5), (22, [12, 11, 7], [1], 0), (90, [12], [], 0), (91, [12], [], 1007), (20, [11, 3], [1], 83), (0, [11], [], 344), (20, [10, 3], [1], 24), (0, [10], [], 298), (42, [8, 9], [], 0), (20, [9, 3], [1], 82), (90, [9], [], 0), (91, [9], [], 40), (5000, [0, 1, 2, 3, 4, 5, 6, 7, 8], [0, 1], 39), (0, [0], [], 285), (90, [1], [], -2147483648), (91, [1], [], 2147483647), (90, [2], [], -2147483648), (91, [2], [], 2147483647), (0, [3], [], 285), (90, [4], [], -2147483648), (91, [4], [], 2147483647), (90, [5], [], -2147483648), (91, [5], [], 2147483647), (90, [6], [], -2147483648), (91, [6], [], 2147483647), (90, [7], [], 0), (91, [7], [], 39), (90, [8], [], 0), (91, [8], [], 40)], (91, [32], [], 40)) := vOk_in fun ρ η h => by
  obtain ⟨f0, f1, f2, f3, f4, f5, f6, f7, f8, f9, f10, f11, f12, f13, f14, f15, f16, f17, f18, f19, f20, f21, f22, f23, f24, f25, f26, f27, f28, f29, f30, f31, f32, f33, f34, f35, f36, f37, f38, f39, f40, f41, f42, f43, f44, f45, f46, f47, f48, f49, f50, f51, f52, f53, f54, f55, f56, f57, f58, f59, f60, f61, f62, f63, f64, f65, f66, f67, _⟩ := h
  exact q_300_55 (q0 := q0) (n0 := ρ 8) (n1 := ρ 7) (n2 := ρ 6) (n3 := ρ 5) (n4 := ρ 4) (n5 := ρ 3) (n6 := ρ 2) (n7 := ρ 1) (n8 := ρ 0) (n9 := ρ 9) (n10 := ρ 10) (n11 := ρ 11) (n12 := ρ 12) (n13 := ρ 13) (n14 := ρ 14) (n15 := ρ 15) (n16 := ρ 16) (n17 := ρ 17) (n18 := ρ 18) (n19 := ρ 19) (n20 := ρ 20) (n21 := ρ 21) (n22 := ρ 22) (n23 := ρ 23) (n24 := ρ 24) (n25 := ρ 25) (n26 := ρ 26) (n27 := ρ 27) (n28 := ρ 32) (H0 := η 0) (H1 := η 1) f67 f66 f65 f64 f63 f62 f61 f60 f59 f58 f57 f56 f55 f54 f53 f52 f51 f50 f49 f48 f47 f46 f45 f44 f43 f42 f41 f40 f39 f38 f37 f36 f35 f34 f33 f32 f31 f30 f29 f28 f27 f26 f25 f24 f23 f22 f21 f20 f19 f18 f17 f16 f15 f14 f13 f12 f11 f10 f9 f8 f7 f6 f5 f4 f3 f2 f1 f0
theorem q_300_56 {q0 : Nat} {n0 n1 n2 n3 n4 n5 n6 n7 n8 n9 n10 n11 n12 n13 n14 n15 n16 n17 n18 n19 n20 n21 n22 n23 n24 n25 n26 n27 n28 n29 n30 n31 n32 : Int} {H0 H1 H2 H3 H4 H5 : gH} (f0 : n0 ≤ 40) (f1 : 0 ≤ n0) (f2 : n1 ≤ 39) (f3 : 0 ≤ n1) (f4 : n2 ≤ 2147483647) (f5 : (-2147483648) ≤ n2) (f6 : n3 ≤ 2147483647) (f7 : (-2147483648) ≤ n3) (f8 : n4 ≤ 2147483647) (f9 : (-2147483648) ≤ n4) (f10 : n5 = 285) (f11 : n6 ≤ 2147483647) (f12 : (-2147483648) ≤ n6) (f13 : n7 ≤ 2147483647) (f14 : (-2147483648) ≤ n7) (f15 : n8 = 285) (f16 : (hLe T0 H0 H1 ∧ hFr s_300.2.2.2.2 H0 H1 ∧ hWt T0 H1) ∧ (Ab_300_39 n8 n7 n6 n5 n4 n3 n2 n1 n0 H0 H1 ∧ preb_300 n8 n7 n6 H0) ∧ some q0 = some (mub_300_39 n8 n7 n6 n5 n4 n3 n2 n1 n0 H0 H1)) (f17 : n9 ≤ 40) (f18 : 0 ≤ n9) (f19 : n9 = hV H1 (n5).toNat 82) (f20 : n0 < n9) (f21 : n10 = 298) (f22 : n10 = hV H1 (n5).toNat 24) (f23 : n11 = 344) (f24 : n11 = hV H1 (n5).toNat 83) (f25 : n12 ≤ 1007) (f26 : 0 ≤ n12) (f27 : n12 = hV H1 (n11).toNat (n1).toNat) (f28 : n13 ≤ 5) (f29 : 0 ≤ n13) (f30 : n13 = hV H1 (n10).toNat (n12).toNat) (f31 : n14 = 1) (f32 : n13 = n14) (f33 : n15 = 298) (f34 : n15 = hV H1 (n5).toNat 24) (f35 : n16 = 344) (f36 : n16 = hV H1 (n5).toNat 83) (f37 : n17 ≤ 1007) (f38 : 0 ≤ n17) (f39 : n17 = hV H1 (n16).toNat (n0).toNat) (f40 : n18 ≤ 5) (f41 : 0 ≤ n18) (f42 : n18 = hV H1 (n15).toNat (n17).toNat) (f43 : n19 = 1) (f44 : n18 = n19) (f45 : n20 = 300) (f46 : n20 = hV H1 (n5).toNat 26) (f47 : n21 = 344) (f48 : n21 = hV H1 (n5).toNat 83) (f49 : n22 ≤ 1007) (f50 : 0 ≤ n22) (f51 : n22 = hV H1 (n21).toNat (n1).toNat) (f52 : n23 ≤ 9999) (f53 : (-1) ≤ n23) (f54 : n23 = hV H1 (n20).toNat (n22).toNat) (f55 : n24 = 300) (f56 : n24 = hV H1 (n5).toNat 26) (f57 : n25 = 344) (f58 : n25 = hV H1 (n5).toNat 83) (f59 : n26 ≤ 1007) (f60 : 0 ≤ n26) (f61 : n26 = hV H1 (n25).toNat (n0).toNat) (f62 : n27 ≤ 9999) (f63 : (-1) ≤ n27) (f64 : n27 = hV H1 (n24).toNat (n26).toNat) (f65 : n23 = n27) (f66 : n28 ≤ 10999) (f67 : (-10999) ≤ n28) (f68 : (hLe T0 H1 H2 ∧ hFr s_271.2.2.2.2 H1 H2 ∧ ((0 : Int) = 0 → H2.length = H1.length) ∧ hWt T0 H2) ∧ True) (f69 : n29 ≤ 10999) (f70 : (-10999) ≤ n29) (f71 : (hLe T0 H2 H3 ∧ hFr s_271.2.2.2.2 H2 H3 ∧ ((0 : Int) = 0 → H3.length = H2.length) ∧ hWt T0 H3) ∧ True) (f72 : n28 < n29) (f73 : n0 = n1) (f74 : n30 ≤ 10999) (f75 : (-10999) ≤ n30) (f76 : (hLe T0 H3 H4 ∧ hFr s_271.2.2.2.2 H3 H4 ∧ ((0 : Int) = 0 → H4.length = H3.length) ∧ hWt T0 H4) ∧ True) (f77 : n31 ≤ 10999) (f78 : (-10999) ≤ n31) (f79 : (hLe T0 H4 H5 ∧ hFr s_272.2.2.2.2 H4 H5 ∧ ((0 : Int) = 0 → H5.length = H4.length) ∧ hWt T0 H5) ∧ True) (f80 : n31 ≤ n30) (f81 : n32 = w32 (n0 + 1)) : Ab_300_39 n8 n7 n6 n5 n4 n3 n2 n1 n32 H0 H5 ∧ ∀ q, some q0 = some q → mub_300_39 n8 n7 n6 n5 n4 n3 n2 n1 n32 H0 H5 < q := by
  have g4 := f16.2.1.1
  unfold Ab_300_39 at g4
  have g3 := f16.2.1.2
  unfold preb_300 at g3
  have g5 := Option.some.inj f16.2.2
  unfold mub_300_39 at g5
  unfold Ab_300_39
  unfold mub_300_39
  have e0 : n9 = hV H1 285 82 := (by rw [f10] at f19; exact f19 : n9 = hV H1 285 82)
  have e1 : n12 = hV H1 344 (n1).toNat := (by rw [f23] at f27; exact f27 : n12 = hV H1 344 (n1).toNat)
  have e2 : hV H1 298 = hV H0 298 := fRow f16.1.2.1 298 (by decide +kernel)
  have e3 : n13 = hV H0 298 (n12).toNat := (by rw [f21] at f30; exact f30 : n13 = hV H1 298 (n12).toNat).trans ((congrFun e2 _))
  have e4 : n17 = hV H1 344 (n0).toNat := (by rw [f35] at f39; exact f39 : n17 = hV H1 344 (n0).toNat)
  have e5 : n18 = hV H0 298 (n17).toNat := (by rw [f33] at f42; exact f42 : n18 = hV H1 298 (n17).toNat).trans ((congrFun e2 _))
  have e6 : n22 = hV H1 344 (n1).toNat := (by rw [f47] at f51; exact f51 : n22 = hV H1 344 (n1).toNat)
  have e7 : hV H1 300 = hV H0 300 := fRow f16.1.2.1 300 (by decide +kernel)
  have e8 : n23 = hV H0 300 (n22).toNat := (by rw [f45] at f54; exact f54 : n23 = hV H1 300 (n22).toNat).trans ((congrFun e7 _))
  have e9 : n26 = hV H1 344 (n0).toNat := (by rw [f57] at f61; exact f61 : n26 = hV H1 344 (n0).toNat)
  have e10 : n27 = hV H0 300 (n26).toNat := (by rw [f55] at f64; exact f64 : n27 = hV H1 300 (n26).toNat).trans ((congrFun e7 _))
  have e11 : hV H1 301 = hV H0 301 := fRow f16.1.2.1 301 (by decide +kernel)
  have e12 : hV H1 302 = hV H0 302 := fRow f16.1.2.1 302 (by decide +kernel)
  have e13 : hV H1 303 = hV H0 303 := fRow f16.1.2.1 303 (by decide +kernel)
  have e14 : hV H1 305 = hV H0 305 := fRow f16.1.2.1 305 (by decide +kernel)
  have e15 : hV H5 285 82 = hV H4 285 82 := f79.1.2.1.1 285 82 (by decide +kernel)
  have e16 : hV H4 285 82 = hV H3 285 82 := f76.1.2.1.1 285 82 (by decide +kernel)
  have e17 : hV H3 285 82 = hV H2 285 82 := f71.1.2.1.1 285 82 (by decide +kernel)
  have e18 : hV H2 285 82 = hV H1 285 82 := f68.1.2.1.1 285 82 (by decide +kernel)
  have e19 : hV H5 285 82 = hV H1 285 82 := (e15).trans ((e16).trans ((e17).trans e18))
  have e20 : hV H5 298 = hV H4 298 := fRow f79.1.2.1 298 (by decide +kernel)
  have e21 : hV H4 298 = hV H3 298 := fRow f76.1.2.1 298 (by decide +kernel)
  have e22 : hV H3 298 = hV H2 298 := fRow f71.1.2.1 298 (by decide +kernel)
  have e23 : hV H2 298 = hV H1 298 := fRow f68.1.2.1 298 (by decide +kernel)
  have e24 : hV H2 298 = hV H0 298 := e23.trans e2
  have e25 : hV H3 298 = hV H0 298 := e22.trans e24
  have e26 : hV H4 298 = hV H0 298 := e21.trans e25
  have e27 : hV H5 298 = hV H0 298 := e20.trans e26
  have e28 : hV H5 300 = hV H4 300 := fRow f79.1.2.1 300 (by decide +kernel)
  have e29 : hV H4 300 = hV H3 300 := fRow f76.1.2.1 300 (by decide +kernel)
  have e30 : hV H3 300 = hV H2 300 := fRow f71.1.2.1 300 (by decide +kernel)
  have e31 : hV H2 300 = hV H1 300 := fRow f68.1.2.1 300 (by decide +kernel)
  have e32 : hV H2 300 = hV H0 300 := e31.trans e7
  have e33 : hV H3 300 = hV H0 300 := e30.trans e32
  have e34 : hV H4 300 = hV H0 300 := e29.trans e33
  have e35 : hV H5 300 = hV H0 300 := e28.trans e34
  have e36 : hV H5 301 = hV H4 301 := fRow f79.1.2.1 301 (by decide +kernel)
  have e37 : hV H4 301 = hV H3 301 := fRow f76.1.2.1 301 (by decide +kernel)
  have e38 : hV H3 301 = hV H2 301 := fRow f71.1.2.1 301 (by decide +kernel)
  have e39 : hV H2 301 = hV H1 301 := fRow f68.1.2.1 301 (by decide +kernel)
  have e40 : hV H2 301 = hV H0 301 := e39.trans e11
  have e41 : hV H3 301 = hV H0 301 := e38.trans e40
  have e42 : hV H4 301 = hV H0 301 := e37.trans e41
  have e43 : hV H5 301 = hV H0 301 := e36.trans e42
  have e44 : hV H5 302 = hV H4 302 := fRow f79.1.2.1 302 (by decide +kernel)
  have e45 : hV H4 302 = hV H3 302 := fRow f76.1.2.1 302 (by decide +kernel)
  have e46 : hV H3 302 = hV H2 302 := fRow f71.1.2.1 302 (by decide +kernel)
  have e47 : hV H2 302 = hV H1 302 := fRow f68.1.2.1 302 (by decide +kernel)
  have e48 : hV H2 302 = hV H0 302 := e47.trans e12
  have e49 : hV H3 302 = hV H0 302 := e46.trans e48
  have e50 : hV H4 302 = hV H0 302 := e45.trans e49
  have e51 : hV H5 302 = hV H0 302 := e44.trans e50
  have e52 : hV H5 303 = hV H4 303 := fRow f79.1.2.1 303 (by decide +kernel)
  have e53 : hV H4 303 = hV H3 303 := fRow f76.1.2.1 303 (by decide +kernel)
  have e54 : hV H3 303 = hV H2 303 := fRow f71.1.2.1 303 (by decide +kernel)
  have e55 : hV H2 303 = hV H1 303 := fRow f68.1.2.1 303 (by decide +kernel)
  have e56 : hV H2 303 = hV H0 303 := e55.trans e13
  have e57 : hV H3 303 = hV H0 303 := e54.trans e56
  have e58 : hV H4 303 = hV H0 303 := e53.trans e57
  have e59 : hV H5 303 = hV H0 303 := e52.trans e58
  have e60 : hV H5 305 = hV H4 305 := fRow f79.1.2.1 305 (by decide +kernel)
  have e61 : hV H4 305 = hV H3 305 := fRow f76.1.2.1 305 (by decide +kernel)
  have e62 : hV H3 305 = hV H2 305 := fRow f71.1.2.1 305 (by decide +kernel)
  have e63 : hV H2 305 = hV H1 305 := fRow f68.1.2.1 305 (by decide +kernel)
  have e64 : hV H2 305 = hV H0 305 := e63.trans e14
  have e65 : hV H3 305 = hV H0 305 := e62.trans e64
  have e66 : hV H4 305 = hV H0 305 := e61.trans e65
  have e67 : hV H5 305 = hV H0 305 := e60.trans e66
  have e68 : hV H5 344 = hV H4 344 := fRow f79.1.2.1 344 (by decide +kernel)
  have e69 : hV H4 344 = hV H3 344 := fRow f76.1.2.1 344 (by decide +kernel)
  have e70 : hV H3 344 = hV H2 344 := fRow f71.1.2.1 344 (by decide +kernel)
  have e71 : hV H2 344 = hV H1 344 := fRow f68.1.2.1 344 (by decide +kernel)
  have e72 : hV H3 344 = hV H1 344 := e70.trans e71
  have e73 : hV H4 344 = hV H1 344 := e69.trans e72
  have e74 : hV H5 344 = hV H1 344 := e68.trans e73
  have e75 : (0 : Int) ≤ hV H1 285 82 ∧ hV H1 285 82 ≤ 40 := f16.1.2.2 285 82 _ _ (by decide +kernel)
  have e76 : (0 : Int) ≤ hV H5 285 82 ∧ hV H5 285 82 ≤ 40 := f79.1.2.2.2 285 82 _ _ (by decide +kernel)
  try simp only [XQ] at *
  try simp only [e2, e7, e11, e12, e13, e14, e19, e27, e35, e43, e51, e59, e67, e74] at f16
  try simp only [e2, e7, e11, e12, e13, e14, e19, e27, e35, e43, e51, e59, e67, e74] at e75
  try simp only [e2, e7, e11, e12, e13, e14, e19, e27, e35, e43, e51, e59, e67, e74] at e76
  try simp only [e2, e7, e11, e12, e13, e14, e19, e27, e35, e43, e51, e59, e67, e74] at g3
  try simp only [e2, e7, e11, e12, e13, e14, e19, e27, e35, e43, e51, e59, e67, e74] at g4
  try simp only [e2, e7, e11, e12, e13, e14, e19, e27, e35, e43, e51, e59, e67, e74] at g5
  try simp only [e2, e7, e11, e12, e13, e14, e19, e27, e35, e43, e51, e59, e67, e74]
  have k0 := g4.1
  have k1 := g4.2.1
  have y0 := g4.2.2.1
  have y1 := g4.2.2.2
  have p0 := g3
  try simp only [e2, e7, e11, e12, e13, e14, e19, e27, e35, e43, e51, e59, e67, e74] at k0
  try simp only [e2, e7, e11, e12, e13, e14, e19, e27, e35, e43, e51, e59, e67, e74] at k1
  try simp only [e2, e7, e11, e12, e13, e14, e19, e27, e35, e43, e51, e59, e67, e74] at y0
  try simp only [e2, e7, e11, e12, e13, e14, e19, e27, e35, e43, e51, e59, e67, e74] at y1
  try simp only [e2, e7, e11, e12, e13, e14, e19, e27, e35, e43, e51, e59, e67, e74] at p0
  clear g3
  clear g4
  clear f19 f22 f24 f27 f30 f34 f36 f39 f42 f46 f48 f51 f54 f56 f58 f61 f64 e2 e7 e11 e12 e13 e14 e15 e16 e17 e18 e19 e20 e21 e22 e23 e24 e25 e26 e27 e28 e29 e30 e31 e32 e33 e34 e35 e36 e37 e38 e39 e40 e41 e42 e43 e44 e45 e46 e47 e48 e49 e50 e51 e52 e53 e54 e55 e56 e57 e58 e59 e60 e61 e62 e63 e64 e65 e66 e67 e68 e69 e70 e71 e72 e73 e74
  subst e0
  subst e1
  subst e3
  subst e4
  subst e5
  subst e6
  subst e8
  subst e9
  subst e10
  unfold w32 at *
  try (have ix0 : n32 = n0 + 1 := (by omega); subst ix0)
  try subst k1
  try subst k0
  refine ⟨?_, fun q hq => ?_⟩
  · refine ⟨?_, ?_, ?_, ?_⟩ <;> first | assumption | omega | trivial
  · have g6 := Option.some.inj hq
    subst g6
    omega
theorem c_300_39_49 {q0 : Nat} : vOkm T0 (eP e_300 L_300 A_300 mu_300 (some q0)) 3 ([(10, [32, 8], [], 1), (43, [30, 31], [], 0), (1272, [31, 3, 8], [4, 5], 0), (90, [31], [], -10999), (91, [31], [], 10999), (1271, [30, 3, 8], [3, 4], 0), (90, [30], [], -10999), (91, [30], [], 10999), (40, [8, 7], [], 0), (42, [28, 29], [], 0), (1271, [29, 3, 7], [2, 3], 0), (90, [29], [], -10999), (91, [29], [], 10999), (1271, [28, 3, 8], [1, 2], 0), (90, [28], [], -10999), (91, [28], [], 10999), (40, [23, 27], [], 0), (22, [27, 24, 26], [1], 0), (90, [27], [], -1), (91, [27], [], 9999), (22, [26, 25, 8], [1], 0), (90, [26], [], 0), (91, [26], [], 1007), (20, [25, 3], [1], 83), (0, [25], [], 344), (20, [24, 3], [1], 26), (0, [24], [], 300), (22, [23, 20, 22], [1], 0), (90, [23], [], -1), (91, [23], [], 9999), (22, [22, 21, 7], [1], 0), (90, [22], [], 0), (91, [22], [], 1007), (20, [21, 3], [1], 83), (0, [21], [], 344), (20, [20, 3], [1], 26), (0, [20], [], 300), (40, [18, 19], [], 0), (0, [19], [], 1), (22, [18, 15, 17], [1], 0), (90, [18], [], 0), (91, [18], [], 5), (22, [17, 16, 8], [1], 0), (90, [17], [], 0), (91, [17], [], 1007), (20, [16, 3], [1], 83), (0, [16], [], 344), (20, [15, 3], [1], 24), (0, [15], [], 298), (40, [13, 14], [], 0), (0, [14], [], 1), (22, [13, 10, 12], [1], 0), (90, [13], [], 0), (91, [13], [], 5), (22, [12, 11, 7], [1], 0), (90, [12], [], 0), (91, [12], [], 1007), (20, [11, 3], [1], 83), (0, [11], [], 344), (20, [10, 3], [1], 24), (0, [10], [], 298), (42, [8, 9], [], 0), (20, [9, 3], [1], 82), (90, [9], [], 0), (91, [9], [], 40), (5000, [0, 1, 2, 3, 4, 5, 6, 7, 8], [0, 1], 39), (0, [0], [], 285), (90, [1], [], -2147483648), (91, [1], [], 2147483647), (90, [2], [], -2147483648), (91, [2], [], 2147483647), (0, [3], [], 285), (90, [4], [], -2147483648), (91, [4], [], 2147483647), (90, [5], [], -2147483648), (91, [5], [], 2147483647), (90, [6], [], -2147483648), (91, [6], [], 2147483647), (90, [7], [], 0), (91, [7], [], 39), (90, [8], [], 0), (91, [8], [], 40)], (4000, [3, 4, 5, 6, 7, 32], [5], 39)) := vOk_in fun ρ η h => by
  obtain ⟨f0, f1, f2, f3, f4, f5, f6, f7, f8, f9, f10, f11, f12, f13, f14, f15, f16, f17, f18, f19, f20, f21, f22, f23, f24, f25, f26, f27, f28, f29, f30, f31, f32, f33, f34, f35, f36, f37, f38, f39, f40, f41, f42, f43, f44, f45, f46, f47, f48, f49, f50, f51, f52, f53, f54, f55, f56, f57, f58, f59, f60, f61, f62, f63, f64, f65, f66, f67, f68, f69, f70, f71, f72, f73, f74, f75, f76, f77, f78, f79, f80, f81, _⟩ := h
  exact q_300_56 (q0 := q0) (n0 := ρ 8) (n1 := ρ 7) (n2 := ρ 6) (n3 := ρ 5) (n4 := ρ 4) (n5 := ρ 3) (n6 := ρ 2) (n7 := ρ 1) (n8 := ρ 0) (n9 := ρ 9) (n10 := ρ 10) (n11 := ρ 11) (n12 := ρ 12) (n13 := ρ 13) (n14 := ρ 14) (n15 := ρ 15) (n16 := ρ 16) (n17 := ρ 17) (n18 := ρ 18) (n19 := ρ 19) (n20 := ρ 20) (n21 := ρ 21) (n22 := ρ 22) (n23 := ρ 23) (n24 := ρ 24) (n25 := ρ 25) (n26 := ρ 26) (n27 := ρ 27) (n28 := ρ 28) (n29 := ρ 29) (n30 := ρ 30) (n31 := ρ 31) (n32 := ρ 32) (H0 := η 0) (H1 := η 1) (H2 := η 2) (H3 := η 3) (H4 := η 4) (H5 := η 5) f81 f80 f79 f78 f77 f76 f75 f74 f73 f72 f71 f70 f69 f68 f67 f66 f65 f64 f63 f62 f61 f60 f59 f58 f57 f56 f55 f54 f53 f52 f51 f50 f49 f48 f47 f46 f45 f44 f43 f42 f41 f40 f39 f38 f37 f36 f35 f34 f33 f32 f31 f30 f29 f28 f27 f26 f25 f24 f23 f22 f21 f20 f19 f18 f17 f16 f15 f14 f13 f12 f11 f10 f9 f8 f7 f6 f5 f4 f3 f2 f1 f0
theorem q_300_57 {q0 : Nat} {n0 n1 n2 n3 n4 n5 n6 n7 n8 n9 n10 n11 n12 n13 n14 n15 n16 n17 n18 n19 n20 n21 n22 n23 n24 n25 n26 n27 n28 : Int} {H0 H1 : gH} (f0 : n0 ≤ 40) (f1 : 0 ≤ n0) (f2 : n1 ≤ 39) (f3 : 0 ≤ n1) (f4 : n2 ≤ 2147483647) (f5 : (-2147483648) ≤ n2) (f6 : n3 ≤ 2147483647) (f7 : (-2147483648) ≤ n3) (f8 : n4 ≤ 2147483647) (f9 : (-2147483648) ≤ n4) (f10 : n5 = 285) (f11 : n6 ≤ 2147483647) (f12 : (-2147483648) ≤ n6) (f13 : n7 ≤ 2147483647) (f14 : (-2147483648) ≤ n7) (f15 : n8 = 285) (f16 : (hLe T0 H0 H1 ∧ hFr s_300.2.2.2.2 H0 H1 ∧ hWt T0 H1) ∧ (Ab_300_39 n8 n7 n6 n5 n4 n3 n2 n1 n0 H0 H1 ∧ preb_300 n8 n7 n6 H0) ∧ some q0 = some (mub_300_39 n8 n7 n6 n5 n4 n3 n2 n1 n0 H0 H1)) (f17 : n9 ≤ 40) (f18 : 0 ≤ n9) (f19 : n9 = hV H1 (n5).toNat 82) (f20 : n0 < n9) (f21 : n10 = 298) (f22 : n10 = hV H1 (n5).toNat 24) (f23 : n11 = 344) (f24 : n11 = hV H1 (n5).toNat 83) (f25 : n12 ≤ 1007) (f26 : 0 ≤ n12) (f27 : n12 = hV H1 (n11).toNat (n1).toNat) (f28 : n13 ≤ 5) (f29 : 0 ≤ n13) (f30 : n13 = hV H1 (n10).toNat (n12).toNat) (f31 : n14 = 1) (f32 : n13 = n14) (f33 : n15 = 298) (f34 : n15 = hV H1 (n5).toNat 24) (f35 : n16 = 344) (f36 : n16 = hV H1 (n5).toNat 83) (f37 : n17 ≤ 1007) (f38 : 0 ≤ n17) (f39 : n17 = hV H1 (n16).toNat (n0).toNat) (f40 : n18 ≤ 5) (f41 : 0 ≤ n18) (f42 : n18 = hV H1 (n15).toNat (n17).toNat) (f43 : n19 = 1) (f44 : n18 = n19) (f45 : n20 = 300) (f46 : n20 = hV H1 (n5).toNat 26) (f47 : n21 = 344) (f48 : n21 = hV H1 (n5).toNat 83) (f49 : n22 ≤ 1007) (f50 : 0 ≤ n22) (f51 : n22 = hV H1 (n21).toNat (n1).toNat) (f52 : n23 ≤ 9999) (f53 : (-1) ≤ n23) (f54 : n23 = hV H1 (n20).toNat (n22).toNat) (f55 : n24 = 300) (f56 : n24 = hV H1 (n5).toNat 26) (f57 : n25 = 344) (f58 : n25 = hV H1 (n5).toNat 83) (f59 : n26 ≤ 1007) (f60 : 0 ≤ n26) (f61 : n26 = hV H1 (n25).toNat (n0).toNat) (f62 : n27 ≤ 9999) (f63 : (-1) ≤ n27) (f64 : n27 = hV H1 (n24).toNat (n26).toNat) (f65 : n23 ≠ n27) (f66 : n28 = w32 (n0 + 1)) : 0 ≤ n28 := by
  have g4 := f16.2.1.1
  unfold Ab_300_39 at g4
  have g3 := f16.2.1.2
  unfold preb_300 at g3
  have e0 : n9 = hV H1 285 82 := (by rw [f10] at f19; exact f19 : n9 = hV H1 285 82)
  have e1 : n12 = hV H1 344 (n1).toNat := (by rw [f23] at f27; exact f27 : n12 = hV H1 344 (n1).toNat)
  have e2 : hV H1 298 = hV H0 298 := fRow f16.1.2.1 298 (by decide +kernel)
  have e3 : n13 = hV H0 298 (n12).toNat := (by rw [f21] at f30; exact f30 : n13 = hV H1 298 (n12).toNat).trans ((congrFun e2 _))
  have e4 : n17 = hV H1 344 (n0).toNat := (by rw [f35] at f39; exact f39 : n17 = hV H1 344 (n0).toNat)
  have e5 : n18 = hV H0 298 (n17).toNat := (by rw [f33] at f42; exact f42 : n18 = hV H1 298 (n17).toNat).trans ((congrFun e2 _))
  have e6 : n22 = hV H1 344 (n1).toNat := (by rw [f47] at f51; exact f51 : n22 = hV H1 344 (n1).toNat)
  have e7 : hV H1 300 = hV H0 300 := fRow f16.1.2.1 300 (by decide +kernel)
  have e8 : n23 = hV H0 300 (n22).toNat := (by rw [f45] at f54; exact f54 : n23 = hV H1 300 (n22).toNat).trans ((congrFun e7 _))
  have e9 : n26 = hV H1 344 (n0).toNat := (by rw [f57] at f61; exact f61 : n26 = hV H1 344 (n0).toNat)
  have e10 : n27 = hV H0 300 (n26).toNat := (by rw [f55] at f64; exact f64 : n27 = hV H1 300 (n26).toNat).trans ((congrFun e7 _))
  have e11 : hV H1 301 = hV H0 301 := fRow f16.1.2.1 301 (by decide +kernel)
  have e12 : hV H1 302 = hV H0 302 := fRow f16.1.2.1 302 (by decide +kernel)
  have e13 : hV H1 303 = hV H0 303 := fRow f16.1.2.1 303 (by decide +kernel)
  have e14 : hV H1 305 = hV H0 305 := fRow f16.1.2.1 305 (by decide +kernel)
  have e15 : (0 : Int) ≤ hV H1 285 82 ∧ hV H1 285 82 ≤ 40 := f16.1.2.2 285 82 _ _ (by decide +kernel)
  try simp only [XQ] at *
  try simp only [e2, e7, e11, e12, e13, e14] at f16
  try simp only [e2, e7, e11, e12, e13, e14] at e15
  try simp only [e2, e7, e11, e12, e13, e14] at g3
  try simp only [e2, e7, e11, e12, e13, e14] at g4
  try simp only [e2, e7, e11, e12, e13, e14]
  have k0 := g4.1
  have k1 := g4.2.1
  have y0 := g4.2.2.1
  have y1 := g4.2.2.2
  have p0 := g3
  try simp only [e2, e7, e11, e12, e13, e14] at k0
  try simp only [e2, e7, e11, e12, e13, e14] at k1
  try simp only [e2, e7, e11, e12, e13, e14] at y0
  try simp only [e2, e7, e11, e12, e13, e14] at y1
  try simp only [e2, e7, e11, e12, e13, e14] at p0
  clear g3
  clear g4
  clear f19 f22 f24 f27 f30 f34 f36 f39 f42 f46 f48 f51 f54 f56 f58 f61 f64 e2 e7 e11 e12 e13 e14
  subst e0
  subst e1
  subst e3
  subst e4
  subst e5
  subst e6
  subst e8
  subst e9
  subst e10
  unfold w32 at *
  try (have ix0 : n28 = n0 + 1 := (by omega); subst ix0)
  try subst k1
  try subst k0
  omega
theorem c_300_39_50 {q0 : Nat} : vOkm T0 (eP e_300 L_300 A_300 mu_300 (some q0)) 3 ([(10, [28, 8], [], 1), (41, [23, 27], [], 0), (22, [27, 24, 26], [1], 0), (90, [27], [], -1), (91, [27], [], 9999), (22, [26, 25, 8], [1], 0), (90, [26], [], 0), (91, [26], [], 1007), (20, [25, 3], [1], 83), (0, [25], [], 344), (20, [24, 3], [1], 26), (0, [24], [], 300), (22, [23, 20, 22], [1], 0), (90, [23], [], -1), (91, [23], [], 9999), (22, [22, 21, 7], [1], 0), (90, [22], [], 0), (91, [22], [], 1007), (20, [21, 3], [1], 83), (0, [21], [], 344), (20, [20, 3], [1], 26), (0, [20], [], 300), (40, [18, 19], [], 0), (0, [19], [], 1), (22, [18, 15, 17], [1], 0), (90, [18], [], 0), (91, [18], [], 5), (22, [17, 16, 8], [1], 0), (90, [17], [], 0), (91, [17], [], 1007), (20, [16, 3], [1], 83), (0, [16], [], 344), (20, [15, 3], [1], 24), (0, [15], [], 298), (40, [13, 14], [], 0), (0, [14], [], 1), (22, [13, 10, 12], [1], 0), (90, [13], [], 0), (91, [13], [], 5), (22, [12, 11, 7], [1], 0), (90, [12], [], 0), (91, [12], [], 1007), (20, [11, 3], [1], 83), (0, [11], [], 344), (20, [10, 3], [1], 24), (0, [10], [], 298), (42, [8, 9], [], 0), (20, [9, 3], [1], 82), (90, [9], [], 0), (91, [9], [], 40), (5000, [0, 1, 2, 3, 4, 5, 6, 7, 8], [0, 1], 39), (0, [0], [], 285), (90, [1], [], -2147483648), (91, [1], [], 2147483647), (90, [2], [], -2147483648), (91, [2], [], 2147483647), (0, [3], [], 285), (90, [4], [], -2147483648), (91, [4], [], 2147483647), (90, [5], [], -2147483648), (91, [5], [], 2147483647), (90, [6], [], -2147483648), (91, [6], [], 2147483647), (90, [7], [], 0), (91, [7], [], 39), (90, [8], [], 0), (91, [8], [], 40)], (90, [28], [], 0)) := vOk_in fun ρ η h => by
  obtain ⟨f0, f1, f2, f3, f4, f5, f6, f7, f8, f9, f10, f11, f12, f13, f14, f15, f16, f17, f18, f19, f20, f21, f22, f23, f24, f25, f26, f27, f28, f29, f30, f31, f32, f33, f34, f35, f36, f37, f38, f39, f40, f41, f42, f43, f44, f45, f46, f47, f48, f49, f50, f51, f52, f53, f54, f55, f56, f57, f58, f59, f60, f61, f62, f63, f64, f65, f66, _⟩ := h
  exact q_300_57 (q0 := q0) (n0 := ρ 8) (n1 := ρ 7) (n2 := ρ 6) (n3 := ρ 5) (n4 := ρ 4) (n5 := ρ 3) (n6 := ρ 2) (n7 := ρ 1) (n8 := ρ 0) (n9 := ρ 9) (n10 := ρ 10) (n11 := ρ 11) (n12 := ρ 12) (n13 := ρ 13) (n14 := ρ 14) (n15 := ρ 15) (n16 := ρ 16) (n17 := ρ 17) (n18 := ρ 18) (n19 := ρ 19) (n20 := ρ 20) (n21 := ρ 21) (n22 := ρ 22) (n23 := ρ 23) (n24 := ρ 24) (n25 := ρ 25) (n26 := ρ 26) (n27 := ρ 27) (n28 := ρ 28) (H0 := η 0) (H1 := η 1) f66 f65 f64 f63 f62 f61 f60 f59 f58 f57 f56 f55 f54 f53 f52 f51 f50 f49 f48 f47 f46 f45 f44 f43 f42 f41 f40 f39 f38 f37 f36 f35 f34 f33 f32 f31 f30 f29 f28 f27 f26 f25 f24 f23 f22 f21 f20 f19 f18 f17 f16 f15 f14 f13 f12 f11 f10 f9 f8 f7 f6 f5 f4 f3 f2 f1 f0
theorem q_300_58 {q0 : Nat} {n0 n1 n2 n3 n4 n5 n6 n7 n8 n9 n10 n11 n12 n13 n14 n15 n16 n17 n18 n19 n20 n21 n22 n23 n24 n25 n26 n27 n28 : Int} {H0 H1 : gH} (f0 : n0 ≤ 40) (f1 : 0 ≤ n0) (f2 : n1 ≤ 39) (f3 : 0 ≤ n1) (f4 : n2 ≤ 2147483647) (f5 : (-2147483648) ≤ n2) (f6 : n3 ≤ 2147483647) (f7 : (-2147483648) ≤ n3) (f8 : n4 ≤ 2147483647) (f9 : (-2147483648) ≤ n4) (f10 : n5 = 285) (f11 : n6 ≤ 2147483647) (f12 : (-2147483648) ≤ n6) (f13 : n7 ≤ 2147483647) (f14 : (-2147483648) ≤ n7) (f15 : n8 = 285) (f16 : (hLe T0 H0 H1 ∧ hFr s_300.2.2.2.2 H0 H1 ∧ hWt T0 H1) ∧ (Ab_300_39 n8 n7 n6 n5 n4 n3 n2 n1 n0 H0 H1 ∧ preb_300 n8 n7 n6 H0) ∧ some q0 = some (mub_300_39 n8 n7 n6 n5 n4 n3 n2 n1 n0 H0 H1)) (f17 : n9 ≤ 40) (f18 : 0 ≤ n9) (f19 : n9 = hV H1 (n5).toNat 82) (f20 : n0 < n9) (f21 : n10 = 298) (f22 : n10 = hV H1 (n5).toNat 24) (f23 : n11 = 344) (f24 : n11 = hV H1 (n5).toNat 83) (f25 : n12 ≤ 1007) (f26 : 0 ≤ n12) (f27 : n12 = hV H1 (n11).toNat (n1).toNat) (f28 : n13 ≤ 5) (f29 : 0 ≤ n13) (f30 : n13 = hV H1 (n10).toNat (n12).toNat) (f31 : n14 = 1) (f32 : n13 = n14) (f33 : n15 = 298) (f34 : n15 = hV H1 (n5).toNat 24) (f35 : n16 = 344) (f36 : n16 = hV H1 (n5).toNat 83) (f37 : n17 ≤ 1007) (f38 : 0 ≤ n17) (f39 : n17 = hV H1 (n16).toNat (n0).toNat) (f40 : n18 ≤ 5) (f41 : 0 ≤ n18) (f42 : n18 = hV H1 (n15).toNat (n17).toNat) (f43 : n19 = 1) (f44 : n18 = n19) (f45 : n20 = 300) (f46 : n20 = hV H1 (n5).toNat 26) (f47 : n21 = 344) (f48 : n21 = hV H1 (n5).toNat 83) (f49 : n22 ≤ 1007) (f50 : 0 ≤ n22) (f51 : n22 = hV H1 (n21).toNat (n1).toNat) (f52 : n23 ≤ 9999) (f53 : (-1) ≤ n23) (f54 : n23 = hV H1 (n20).toNat (n22).toNat) (f55 : n24 = 300) (f56 : n24 = hV H1 (n5).toNat 26) (f57 : n25 = 344) (f58 : n25 = hV H1 (n5).toNat 83) (f59 : n26 ≤ 1007) (f60 : 0 ≤ n26) (f61 : n26 = hV H1 (n25).toNat (n0).toNat) (f62 : n27 ≤ 9999) (f63 : (-1) ≤ n27) (f64 : n27 = hV H1 (n24).toNat (n26).toNat) (f65 : n23 ≠ n27) (f66 : n28 = w32 (n0 + 1)) : n28 ≤ 40 := by
  have g4 := f16.2.1.1
  unfold Ab_300_39 at g4
  have g3 := f16.2.1.2
  unfold preb_300 at g3
  have e0 : n9 = hV H1 285 82 := (by rw [f10] at f19; exact f19 : n9 = hV H1 285 82)
  have e1 : n12 = hV H1 344 (n1).toNat := (by rw [f23] at f27; exact f27 : n12 = hV H1 344 (n1).toNat)
  have e2 : hV H1 298 = hV H0 298 := fRow f16.1.2.1 298 (by decide +kernel)
  have e3 : n13 = hV H0 298 (n12).toNat := (by rw [f21] at f30; exact f30 : n13 = hV H1 298 (n12).toNat).trans ((congrFun e2 _))
  have e4 : n17 = hV H1 344 (n0).toNat := (by rw [f35] at f39; exact f39 : n17 = hV H1 344 (n0).toNat)
  have e5 : n18 = hV H0 298 (n17).toNat := (by rw [f33] at f42; exact f42 : n18 = hV H1 298 (n17).toNat).trans ((congrFun e2 _))
  have e6 : n22 = hV H1 344 (n1).toNat := (by rw [f47] at f51; exact f51 : n22 = hV H1 344 (n1).toNat)
  have e7 : hV H1 300 = hV H0 300 := fRow f16.1.2.1 300 (by decide +kernel)
  have e8 : n23 = hV H0 300 (n22).toNat := (by rw [f45] at f54; exact f54 : n23 = hV H1 300 (n22).toNat).trans ((congrFun e7 _))
  have e9 : n26 = hV H1 344 (n0).toNat := (by rw [f57] at f61; exact f61 : n26 = hV H1 344 (n0).toNat)
  have e10 : n27 = hV H0 300 (n26).toNat := (by rw [f55] at f64; exact f64 : n27 = hV H1 300 (n26).toNat).trans ((congrFun e7 _))
  have e11 : hV H1 301 = hV H0 301 := fRow f16.1.2.1 301 (by decide +kernel)
  have e12 : hV H1 302 = hV H0 302 := fRow f16.1.2.1 302 (by decide +kernel)
  have e13 : hV H1 303 = hV H0 303 := fRow f16.1.2.1 303 (by decide +kernel)
  have e14 : hV H1 305 = hV H0 305 := fRow f16.1.2.1 305 (by decide +kernel)
  have e15 : (0 : Int) ≤ hV H1 285 82 ∧ hV H1 285 82 ≤ 40 := f16.1.2.2 285 82 _ _ (by decide +kernel)
  try simp only [XQ] at *
  try simp only [e2, e7, e11, e12, e13, e14] at f16
  try simp only [e2, e7, e11, e12, e13, e14] at e15
  try simp only [e2, e7, e11, e12, e13, e14] at g3
  try simp only [e2, e7, e11, e12, e13, e14] at g4
  try simp only [e2, e7, e11, e12, e13, e14]
  have k0 := g4.1
  have k1 := g4.2.1
  have y0 := g4.2.2.1
  have y1 := g4.2.2.2
  have p0 := g3
  try simp only [e2, e7, e11, e12, e13, e14] at k0
  try simp only [e2, e7, e11, e12, e13, e14] at k1
  try simp only [e2, e7, e11, e12, e13, e14] at y0
  try simp only [e2, e7, e11, e12, e13, e14] at y1
  try simp only [e2, e7, e11, e12, e13, e14] at p0
  clear g3
  clear g4
  clear f19 f22 f24 f27 f30 f34 f36 f39 f42 f46 f48 f51 f54 f56 f58 f61 f64 e2 e7 e11 e12 e13 e14
  subst e0
  subst e1
  subst e3
  subst e4
  subst e5
  subst e6
  subst e8
  subst e9
  subst e10
  unfold w32 at *
  try (have ix0 : n28 = n0 + 1 := (by omega); subst ix0)
  try subst k1
  try subst k0
  omega
theorem c_300_39_51 {q0 : Nat} : vOkm T0 (eP e_300 L_300 A_300 mu_300 (some q0)) 3 ([(10, [28, 8], [], 1), (41, [23, 27], [], 0), (22, [27, 24, 26], [1], 0), (90, [27], [], -1), (91, [27], [], 9999), (22, [26, 25, 8], [1], 0), (90, [26], [], 0), (91, [26], [], 1007), (20, [25, 3], [1], 83), (0, [25], [], 344), (20, [24, 3], [1], 26), (0, [24], [], 300), (22, [23, 20, 22], [1], 0), (90, [23], [], -1), (91, [23], [], 9999), (22, [22, 21, 7], [1], 0), (90, [22], [], 0), (91, [22], [], 1007), (20, [21, 3], [1], 83), (0, [21], [], 344), (20, [20, 3], [1], 26), (0, [20], [], 300), (40, [18, 19], [], 0), (0, [19], [], 1), (22, [18, 15, 17], [1], 0), (90, [18], [], 0), (91, [18], [], 5), (22, [17, 16, 8], [1], 0), (90, [17], [], 0), (91, [17], [], 1007), (20, [16, 3], [1], 83), (0, [16], [], 344), (20, [15, 3], [1], 24), (0, [15], [], 298), (40, [13, 14], [], 0), (0, [14], [], 1), (22, [13, 10, 12], [1], 0), (90, [13], [], 0), (91, [13], [], 5), (22, [12, 11, 7], [1], 0), (90, [12], [], 0), (91, [12], [], 1007), (20, [11, 3], [1], 83), (0, [11], [], 344), (20, [10, 3], [1], 24), (0, [10], [], 298), (42, [8, 9], [], 0), (20, [9, 3], [1], 82), (90, [9], [], 0), (91, [9], [], 40), (5000, [0, 1, 2, 3, 4, 5, 6, 7, 8], [0, 1], 39), (0, [0], [], 285), (90, [1], [], -2147483648), (91, [1], [], 2147483647), (90, [2], [], -2147483648), (91, [2], [], 2147483647), (0, [3], [], 285), (90, [4], [], -2147483648), (91, [4], [], 2147483647), (90, [5], [], -2147483648), (91, [5], [], 2147483647), (90, [6], [], -2147483648), (91, [6], [], 2147483647), (90, [7], [], 0), (91, [7], [], 39), (90, [8], [], 0), (91, [8], [], 40)], (91, [28], [], 40)) := vOk_in fun ρ η h => by
  obtain ⟨f0, f1, f2, f3, f4, f5, f6, f7, f8, f9, f10, f11, f12, f13, f14, f15, f16, f17, f18, f19, f20, f21, f22, f23, f24, f25, f26, f27, f28, f29, f30, f31, f32, f33, f34, f35, f36, f37, f38, f39, f40, f41, f42, f43, f44, f45, f46, f47, f48, f49, f50, f51, f52, f53, f54, f55, f56, f57, f58, f59, f60, f61, f62, f63, f64, f65, f66, _⟩ := h
  exact q_300_58 (q0 := q0) (n0 := ρ 8) (n1 := ρ 7) (n2 := ρ 6) (n3 := ρ 5) (n4 := ρ 4) (n5 := ρ 3) (n6 := ρ 2) (n7 := ρ 1) (n8 := ρ 0) (n9 := ρ 9) (n10 := ρ 10) (n11 := ρ 11) (n12 := ρ 12) (n13 := ρ 13) (n14 := ρ 14) (n15 := ρ 15) (n16 := ρ 16) (n17 := ρ 17) (n18 := ρ 18) (n19 := ρ 19) (n20 := ρ 20) (n21 := ρ 21) (n22 := ρ 22) (n23 := ρ 23) (n24 := ρ 24) (n25 := ρ 25) (n26 := ρ 26) (n27 := ρ 27) (n28 := ρ 28) (H0 := η 0) (H1 := η 1) f66 f65 f64 f63 f62 f61 f60 f59 f58 f57 f56 f55 f54 f53 f52 f51 f50 f49 f48 f47 f46 f45 f44 f43 f42 f41 f40 f39 f38 f37 f36 f35 f34 f33 f32 f31 f30 f29 f28 f27 f26 f25 f24 f23 f22 f21 f20 f19 f18 f17 f16 f15 f14 f13 f12 f11 f10 f9 f8 f7 f6 f5 f4 f3 f2 f1 f0
theorem q_300_59 {q0 : Nat} {n0 n1 n2 n3 n4 n5 n6 n7 n8 n9 n10 n11 n12 n13 n14 n15 n16 n17 n18 n19 n20 n21 n22 n23 n24 n25 n26 n27 n28 : Int} {H0 H1 : gH} (f0 : n0 ≤ 40) (f1 : 0 ≤ n0) (f2 : n1 ≤ 39) (f3 : 0 ≤ n1) (f4 : n2 ≤ 2147483647) (f5 : (-2147483648) ≤ n2) (f6 : n3 ≤ 2147483647) (f7 : (-2147483648) ≤ n3) (f8 : n4 ≤ 2147483647) (f9 : (-2147483648) ≤ n4) (f10 : n5 = 285) (f11 : n6 ≤ 2147483647) (f12 : (-2147483648) ≤ n6) (f13 : n7 ≤ 2147483647) (f14 : (-2147483648) ≤ n7) (f15 : n8 = 285) (f16 : (hLe T0 H0 H1 ∧ hFr s_300.2.2.2.2 H0 H1 ∧ hWt T0 H1) ∧ (Ab_300_39 n8 n7 n6 n5 n4 n3 n2 n1 n0 H0 H1 ∧ preb_300 n8 n7 n6 H0) ∧ some q0 = some (mub_300_39 n8 n7 n6 n5 n4 n3 n2 n1 n0 H0 H1)) (f17 : n9 ≤ 40) (f18 : 0 ≤ n9) (f19 : n9 = hV H1 (n5).toNat 82) (f20 : n0 < n9) (f21 : n10 = 298) (f22 : n10 = hV H1 (n5).toNat 24) (f23 : n11 = 344) (f24 : n11 = hV H1 (n5).toNat 83) (f25 : n12 ≤ 1007) (f26 : 0 ≤ n12) (f27 : n12 = hV H1 (n11).toNat (n1).toNat) (f28 : n13 ≤ 5) (f29 : 0 ≤ n13) (f30 : n13 = hV H1 (n10).toNat (n12).toNat) (f31 : n14 = 1) (f32 : n13 = n14) (f33 : n15 = 298) (f34 : n15 = hV H1 (n5).toNat 24) (f35 : n16 = 344) (f36 : n16 = hV H1 (n5).toNat 83) (f37 : n17 ≤ 1007) (f38 : 0 ≤ n17) (f39 : n17 = hV H1 (n16).toNat (n0).toNat) (f40 : n18 ≤ 5) (f41 : 0 ≤ n18) (f42 : n18 = hV H1 (n15).toNat (n17).toNat) (f43 : n19 = 1) (f44 : n18 = n19) (f45 : n20 = 300) (f46 : n20 = hV H1 (n5).toNat 26) (f47 : n21 = 344) (f48 : n21 = hV H1 (n5).toNat 83) (f49 : n22 ≤ 1007) (f50 : 0 ≤ n22) (f51 : n22 = hV H1 (n21).toNat (n1).toNat) (f52 : n23 ≤ 9999) (f53 : (-1) ≤ n23) (f54 : n23 = hV H1 (n20).toNat (n22).toNat) (f55 : n24 = 300) (f56 : n24 = hV H1 (n5).toNat 26) (f57 : n25 = 344) (f58 : n25 = hV H1 (n5).toNat 83) (f59 : n26 ≤ 1007) (f60 : 0 ≤ n26) (f61 : n26 = hV H1 (n25).toNat (n0).toNat) (f62 : n27 ≤ 9999) (f63 : (-1) ≤ n27) (f64 : n27 = hV H1 (n24).toNat (n26).toNat) (f65 : n23 ≠ n27) (f66 : n28 = w32 (n0 + 1)) : Ab_300_39 n8 n7 n6 n5 n4 n3 n2 n1 n28 H0 H1 ∧ ∀ q, some q0 = some q → mub_300_39 n8 n7 n6 n5 n4 n3 n2 n1 n28 H0 H1 < q := by
  have g4 := f16.2.1.1
  unfold Ab_300_39 at g4
  have g3 := f16.2.1.2
  unfold preb_300 at g3
  have g5 := Option.some.inj f16.2.2
  unfold mub_300_39 at g5
  unfold Ab_300_39
  unfold mub_300_39
  have e0 : n9 = hV H1 285 82 := (by rw [f10] at f19; exact f19 : n9 = hV H1 285 82)
  have e1 : n12 = hV H1 344 (n1).toNat := (by rw [f23] at f27; exact f27 : n12 = hV H1 344 (n1).toNat)
  have e2 : hV H1 298 = hV H0 298 := fRow f16.1.2.1 298 (by decide +kernel)
  have e3 : n13 = hV H0 298 (n12).toNat := (by rw [f21] at f30; exact f30 : n13 = hV H1 298 (n12).toNat).trans ((congrFun e2 _))
  have e4 : n17 = hV H1 344 (n0).toNat := (by rw [f35] at f39; exact f39 : n17 = hV H1 344 (n0).toNat)
  have e5 : n18 = hV H0 298 (n17).toNat := (by rw [f33] at f42; exact f42 : n18 = hV H1 298 (n17).toNat).trans ((congrFun e2 _))
  have e6 : n22 = hV H1 344 (n1).toNat := (by rw [f47] at f51; exact f51 : n22 = hV H1 344 (n1).toNat)
  have e7 : hV H1 300 = hV H0 300 := fRow f16.1.2.1 300 (by decide +kernel)
  have e8 : n23 = hV H0 300 (n22).toNat := (by rw [f45] at f54; exact f54 : n23 = hV H1 300 (n22).toNat).trans ((congrFun e7 _))
  have e9 : n26 = hV H1 344 (n0).toNat := (by rw [f57] at f61; exact f61 : n26 = hV H1 344 (n0).toNat)
  have e10 : n27 = hV H0 300 (n26).toNat := (by rw [f55] at f64; exact f64 : n27 = hV H1 300 (n26).toNat).trans ((congrFun e7 _))
  have e11 : hV H1 301 = hV H0 301 := fRow f16.1.2.1 301 (by decide +kernel)
  have e12 : hV H1 302 = hV H0 302 := fRow f16.1.2.1 302 (by decide +kernel)
  have e13 : hV H1 303 = hV H0 303 := fRow f16.1.2.1 303 (by decide +kernel)
  have e14 : hV H1 305 = hV H0 305 := fRow f16.1.2.1 305 (by decide +kernel)
  have e15 : (0 : Int) ≤ hV H1 285 82 ∧ hV H1 285 82 ≤ 40 := f16.1.2.2 285 82 _ _ (by decide +kernel)
  try simp only [XQ] at *
  try simp only [e2, e7, e11, e12, e13, e14] at f16
  try simp only [e2, e7, e11, e12, e13, e14] at e15
  try simp only [e2, e7, e11, e12, e13, e14] at g3
  try simp only [e2, e7, e11, e12, e13, e14] at g4
  try simp only [e2, e7, e11, e12, e13, e14] at g5
  try simp only [e2, e7, e11, e12, e13, e14]
  have k0 := g4.1
  have k1 := g4.2.1
  have y0 := g4.2.2.1
  have y1 := g4.2.2.2
  have p0 := g3
  try simp only [e2, e7, e11, e12, e13, e14] at k0
  try simp only [e2, e7, e11, e12, e13, e14] at k1
  try simp only [e2, e7, e11, e12, e13, e14] at y0
  try simp only [e2, e7, e11, e12, e13, e14] at y1
  try simp only [e2, e7, e11, e12, e13, e14] at p0
  clear g3
  clear g4
  clear f19 f22 f24 f27 f30 f34 f36 f39 f42 f46 f48 f51 f54 f56 f58 f61 f64 e2 e7 e11 e12 e13 e14
  subst e0
  subst e1
  subst e3
  subst e4
  subst e5
  subst e6
  subst e8
  subst e9
  subst e10
  unfold w32 at *
  try (have ix0 : n28 = n0 + 1 := (by omega); subst ix0)
  try subst k1
  try subst k0
  refine ⟨?_, fun q hq => ?_⟩
  · refine ⟨?_, ?_, ?_, ?_⟩ <;> first | assumption | omega | trivial
  · have g6 := Option.some.inj hq
    subst g6
    omega
theorem c_300_39_52 {q0 : Nat} : vOkm T0 (eP e_300 L_300 A_300 mu_300 (some q0)) 3 ([(10, [28, 8], [], 1), (41, [23, 27], [], 0), (22, [27, 24, 26], [1], 0), (90, [27], [], -1), (91, [27], [], 9999), (22, [26, 25, 8], [1], 0), (90, [26], [], 0), (91, [26], [], 1007), (20, [25, 3], [1], 83), (0, [25], [], 344), (20, [24, 3], [1], 26), (0, [24], [], 300), (22, [23, 20, 22], [1], 0), (90, [23], [], -1), (91, [23], [], 9999), (22, [22, 21, 7], [1], 0), (90, [22], [], 0), (91, [22], [], 1007), (20, [21, 3], [1], 83), (0, [21], [], 344), (20, [20, 3], [1], 26), (0, [20], [], 300), (40, [18, 19], [], 0), (0, [19], [], 1), (22, [18, 15, 17], [1], 0), (90, [18], [], 0), (91, [18], [], 5), (22, [17, 16, 8], [1], 0), (90, [17], [], 0), (91, [17], [], 1007), (20, [16, 3], [1], 83), (0, [16], [], 344), (20, [15, 3], [1], 24), (0, [15], [], 298), (40, [13, 14], [], 0), (0, [14], [], 1), (22, [13, 10, 12], [1], 0), (90, [13], [], 0), (91, [13], [], 5), (22, [12, 11, 7], [1], 0), (90, [12], [], 0), (91, [12], [], 1007), (20, [11, 3], [1], 83), (0, [11], [], 344), (20, [10, 3], [1], 24), (0, [10], [], 298), (42, [8, 9], [], 0), (20, [9, 3], [1], 82), (90, [9], [], 0), (91, [9], [], 40), (5000, [0, 1, 2, 3, 4, 5, 6, 7, 8], [0, 1], 39), (0, [0], [], 285), (90, [1], [], -2147483648), (91, [1], [], 2147483647), (90, [2], [], -2147483648), (91, [2], [], 2147483647), (0, [3], [], 285), (90, [4], [], -2147483648), (91, [4], [], 2147483647), (90, [5], [], -2147483648), (91, [5], [], 2147483647), (90, [6], [], -2147483648), (91, [6], [], 2147483647), (90, [7], [], 0), (91, [7], [], 39), (90, [8], [], 0), (91, [8], [], 40)], (4000, [3, 4, 5, 6, 7, 28], [1], 39)) := vOk_in fun ρ η h => by
  obtain ⟨f0, f1, f2, f3, f4, f5, f6, f7, f8, f9, f10, f11, f12, f13, f14, f15, f16, f17, f18, f19, f20, f21, f22, f23, f24, f25, f26, f27, f28, f29, f30, f31, f32, f33, f34, f35, f36, f37, f38, f39, f40, f41, f42, f43, f44, f45, f46, f47, f48, f49, f50, f51, f52, f53, f54, f55, f56, f57, f58, f59, f60, f61, f62, f63, f64, f65, f66, _⟩ := h
  exact q_300_59 (q0 := q0) (n0 := ρ 8) (n1 := ρ 7) (n2 := ρ 6) (n3 := ρ 5) (n4 := ρ 4) (n5 := ρ 3) (n6 := ρ 2) (n7 := ρ 1) (n8 := ρ 0) (n9 := ρ 9) (n10 := ρ 10) (n11 := ρ 11) (n12 := ρ 12) (n13 := ρ 13) (n14 := ρ 14) (n15 := ρ 15) (n16 := ρ 16) (n17 := ρ 17) (n18 := ρ 18) (n19 := ρ 19) (n20 := ρ 20) (n21 := ρ 21) (n22 := ρ 22) (n23 := ρ 23) (n24 := ρ 24) (n25 := ρ 25) (n26 := ρ 26) (n27 := ρ 27) (n28 := ρ 28) (H0 := η 0) (H1 := η 1) f66 f65 f64 f63 f62 f61 f60 f59 f58 f57 f56 f55 f54 f53 f52 f51 f50 f49 f48 f47 f46 f45 f44 f43 f42 f41 f40 f39 f38 f37 f36 f35 f34 f33 f32 f31 f30 f29 f28 f27 f26 f25 f24 f23 f22 f21 f20 f19 f18 f17 f16 f15 f14 f13 f12 f11 f10 f9 f8 f7 f6 f5 f4 f3 f2 f1 f0
set_option maxHeartbeats 20000000 in
def p_300_39 : List vG := [([(10, [10, 7], [], 1), (43, [8, 9], [], 0), (20, [9, 3], [1], 82), (90, [9], [], 0), (91, [9], [], 40), (5000, [0, 1, 2, 3, 4, 5, 6, 7, 8], [0, 1], 39), (0, [0], [], 285), (90, [1], [], -2147483648), (91, [1], [], 2147483647), (90, [2], [], -2147483648), (91, [2], [], 2147483647), (0, [3], [], 285), (90, [4], [], -2147483648), (91, [4], [], 2147483647), (90, [5], [], -2147483648), (91, [5], [], 2147483647), (90, [6], [], -2147483648), (91, [6], [], 2147483647), (90, [7], [], 0), (91, [7], [], 39), (90, [8], [], 0), (91, [8], [], 40)], (90, [10], [], 0)),
  ([(10, [10, 7], [], 1), (43, [8, 9], [], 0), (20, [9, 3], [1], 82), (90, [9], [], 0), (91, [9], [], 40), (5000, [0, 1, 2, 3, 4, 5, 6, 7, 8], [0, 1], 39), (0, [0], [], 285), (90, [1], [], -2147483648), (91, [1], [], 2147483647), (90, [2], [], -2147483648), (91, [2], [], 2147483647), (0, [3], [], 285), (90, [4], [], -2147483648), (91, [4], [], 2147483647), (90, [5], [], -2147483648), (91, [5], [], 2147483647), (90, [6], [], -2147483648), (91, [6], [], 2147483647), (90, [7], [], 0), (91, [7], [], 39), (90, [8], [], 0), (91, [8], [], 40)], (91, [10], [], 40)),
  ([(10, [10, 7], [], 1), (43, [8, 9], [], 0), (20, [9, 3], [1], 82), (90, [9], [], 0), (91, [9], [], 40), (5000, [0, 1, 2, 3, 4, 5, 6, 7, 8], [0, 1], 39), (0, [0], [], 285), (90, [1], [], -2147483648), (91, [1], [], 2147483647), (90, [2], [], -2147483648), (91, [2], [], 2147483647), (0, [3], [], 285), (90, [4], [], -2147483648), (91, [4], [], 2147483647), (90, [5], [], -2147483648), (91, [5], [], 2147483647), (90, [6], [], -2147483648), (91, [6], [], 2147483647), (90, [7], [], 0), (91, [7], [], 39), (90, [8], [], 0), (91, [8], [], 40)], (4000, [3, 4, 5, 6, 10], [1], 24)),
  ([(10, [15, 8], [], 1), (41, [13, 14], [], 0), (0, [14], [], 1), (22, [13, 10, 12], [1], 0), (90, [13], [], 0), (91, [13], [], 5), (22, [12, 11, 7], [1], 0), (90, [12], [], 0), (91, [12], [], 1007), (20, [11, 3], [1], 83), (0, [11], [], 344), (20, [10, 3], [1], 24), (0, [10], [], 298), (42, [8, 9], [], 0), (20, [9, 3], [1], 82), (90, [9], [], 0), (91, [9], [], 40), (5000, [0, 1, 2, 3, 4, 5, 6, 7, 8], [0, 1], 39), (0, [0], [], 285), (90, [1], [], -2147483648), (91, [1], [], 2147483647), (90, [2], [], -2147483648), (91, [2], [], 2147483647), (0, [3], [], 285), (90, [4], [], -2147483648), (91, [4], [], 2147483647), (90, [5], [], -2147483648), (91, [5], [], 2147483647), (90, [6], [], -2147483648), (91, [6], [], 2147483647), (90, [7], [], 0), (91, [7], [], 39), (90, [8], [], 0), (91, [8], [], 40)], (90, [15], [], 0)),
  ([(10, [15, 8], [], 1), (41, [13, 14], [], 0), (0, [14], [], 1), (22, [13, 10, 12], [1], 0), (90, [13], [], 0), (91, [13], [], 5), (22, [12, 11, 7], [1], 0), (90, [12], [], 0), (91, [12], [], 1007), (20, [11, 3], [1], 83), (0, [11], [], 344), (20, [10, 3], [1], 24), (0, [10], [], 298), (42, [8, 9], [], 0), (20, [9, 3], [1], 82), (90, [9], [], 0), (91, [9], [], 40), (5000, [0, 1, 2, 3, 4, 5, 6, 7, 8], [0, 1], 39), (0, [0], [], 285), (90, [1], [], -2147483648), (91, [1], [], 2147483647), (90, [2], [], -2147483648), (91, [2], [], 2147483647), (0, [3], [], 285), (90, [4], [], -2147483648), (91, [4], [], 2147483647), (90, [5], [], -2147483648), (91, [5], [], 2147483647), (90, [6], [], -2147483648), (91, [6], [], 2147483647), (90, [7], [], 0), (91, [7], [], 39), (90, [8], [], 0), (91, [8], [], 40)], (91, [15], [], 40)),
  ([(10, [15, 8], [], 1), (41, [13, 14], [], 0), (0, [14], [], 1), (22, [13, 10, 12], [1], 0), (90, [13], [], 0), (91, [13], [], 5), (22, [12, 11, 7], [1], 0), (90, [12], [], 0), (91, [12], [], 1007), (20, [11, 3], [1], 83), (0, [11], [], 344), (20, [10, 3], [1], 24), (0, [10], [], 298), (42, [8, 9], [], 0), (20, [9, 3], [1], 82), (90, [9], [], 0), (91, [9], [], 40), (5000, [0, 1, 2, 3, 4, 5, 6, 7, 8], [0, 1], 39), (0, [0], [], 285), (90, [1], [], -2147483648), (91, [1], [], 2147483647), (90, [2], [], -2147483648), (91, [2], [], 2147483647), (0, [3], [], 285), (90, [4], [], -2147483648), (91, [4], [], 2147483647), (90, [5], [], -2147483648), (91, [5], [], 2147483647), (90, [6], [], -2147483648), (91, [6], [], 2147483647), (90, [7], [], 0), (91, [7], [], 39), (90, [8], [], 0), (91, [8], [], 40)], (4000, [3, 4, 5, 6, 7, 15], [1], 39)),
  ([(20, [16, 3], [1], 83), (0, [16], [], 344), (20, [15, 3], [1], 24), (0, [15], [], 298), (40, [13, 14], [], 0), (0, [14], [], 1), (22, [13, 10, 12], [1], 0), (90, [13], [], 0), (91, [13], [], 5), (22, [12, 11, 7], [1], 0), (90, [12], [], 0), (91, [12], [], 1007), (20, [11, 3], [1], 83), (0, [11], [], 344), (20, [10, 3], [1], 24), (0, [10], [], 298), (42, [8, 9], [], 0), (20, [9, 3], [1], 82), (90, [9], [], 0), (91, [9], [], 40), (5000, [0, 1, 2, 3, 4, 5, 6, 7, 8], [0, 1], 39), (0, [0], [], 285), (90, [1], [], -2147483648), (91, [1], [], 2147483647), (90, [2], [], -2147483648), (91, [2], [], 2147483647), (0, [3], [], 285), (90, [4], [], -2147483648), (91, [4], [], 2147483647), (90, [5], [], -2147483648), (91, [5], [], 2147483647), (90, [6], [], -2147483648), (91, [6], [], 2147483647), (90, [7], [], 0), (91, [7], [], 39), (90, [8], [], 0), (91, [8], [], 40)], (70, [8], [], 40)),
  ([(10, [20, 8], [], 1), (41, [18, 19], [], 0), (0, [19], [], 1), (22, [18, 15, 17], [1], 0), (90, [18], [], 0), (91, [18], [], 5), (22, [17, 16, 8], [1], 0), (90, [17], [], 0), (91, [17], [], 1007), (20, [16, 3], [1], 83), (0, [16], [], 344), (20, [15, 3], [1], 24), (0, [15], [], 298), (40, [13, 14], [], 0), (0, [14], [], 1), (22, [13, 10, 12], [1], 0), (90, [13], [], 0), (91, [13], [], 5), (22, [12, 11, 7], [1], 0), (90, [12], [], 0), (91, [12], [], 1007), (20, [11, 3], [1], 83), (0, [11], [], 344), (20, [10, 3], [1], 24), (0, [10], [], 298), (42, [8, 9], [], 0), (20, [9, 3], [1], 82), (90, [9], [], 0), (91, [9], [], 40), (5000, [0, 1, 2, 3, 4, 5, 6, 7, 8], [0, 1], 39), (0, [0], [], 285), (90, [1], [], -2147483648), (91, [1], [], 2147483647), (90, [2], [], -2147483648), (91, [2], [], 2147483647), (0, [3], [], 285), (90, [4], [], -2147483648), (91, [4], [], 2147483647), (90, [5], [], -2147483648), (91, [5], [], 2147483647), (90, [6], [], -2147483648), (91, [6], [], 2147483647), (90, [7], [], 0), (91, [7], [], 39), (90, [8], [], 0), (91, [8], [], 40)], (90, [20], [], 0)),
  ([(10, [20, 8], [], 1), (41, [18, 19], [], 0), (0, [19], [], 1), (22, [18, 15, 17], [1], 0), (90, [18], [], 0), (91, [18], [], 5), (22, [17, 16, 8], [1], 0), (90, [17], [], 0), (91, [17], [], 1007), (20, [16, 3], [1], 83), (0, [16], [], 344), (20, [15, 3], [1], 24), (0, [15], [], 298), (40, [13, 14], [], 0), (0, [14], [], 1), (22, [13, 10, 12], [1], 0), (90, [13], [], 0), (91, [13], [], 5), (22, [12, 11, 7], [1], 0), (90, [12], [], 0), (91, [12], [], 1007), (20, [11, 3], [1], 83), (0, [11], [], 344), (20, [10, 3], [1], 24), (0, [10], [], 298), (42, [8, 9], [], 0), (20, [9, 3], [1], 82), (90, [9], [], 0), (91, [9], [], 40), (5000, [0, 1, 2, 3, 4, 5, 6, 7, 8], [0, 1], 39), (0, [0], [], 285), (90, [1], [], -2147483648), (91, [1], [], 2147483647), (90, [2], [], -2147483648), (91, [2], [], 2147483647), (0, [3], [], 285), (90, [4], [], -2147483648), (91, [4], [], 2147483647), (90, [5], [], -2147483648), (91, [5], [], 2147483647), (90, [6], [], -2147483648), (91, [6], [], 2147483647), (90, [7], [], 0), (91, [7], [], 39), (90, [8], [], 0), (91, [8], [], 40)], (91, [20], [], 40)),
  ([(10, [20, 8], [], 1), (41, [18, 19], [], 0), (0, [19], [], 1), (22, [18, 15, 17], [1], 0), (90, [18], [], 0), (91, [18], [], 5), (22, [17, 16, 8], [1], 0), (90, [17], [], 0), (91, [17], [], 1007), (20, [16, 3], [1], 83), (0, [16], [], 344), (20, [15, 3], [1], 24), (0, [15], [], 298), (40, [13, 14], [], 0), (0, [14], [], 1), (22, [13, 10, 12], [1], 0), (90, [13], [], 0), (91, [13], [], 5), (22, [12, 11, 7], [1], 0), (90, [12], [], 0), (91, [12], [], 1007), (20, [11, 3], [1], 83), (0, [11], [], 344), (20, [10, 3], [1], 24), (0, [10], [], 298), (42, [8, 9], [], 0), (20, [9, 3], [1], 82), (90, [9], [], 0), (91, [9], [], 40), (5000, [0, 1, 2, 3, 4, 5, 6, 7, 8], [0, 1], 39), (0, [0], [], 285), (90, [1], [], -2147483648), (91, [1], [], 2147483647), (90, [2], [], -2147483648), (91, [2], [], 2147483647), (0, [3], [], 285), (90, [4], [], -2147483648), (91, [4], [], 2147483647), (90, [5], [], -2147483648), (91, [5], [], 2147483647), (90, [6], [], -2147483648), (91, [6], [], 2147483647), (90, [7], [], 0), (91, [7], [], 39), (90, [8], [], 0), (91, [8], [], 40)], (4000, [3, 4, 5, 6, 7, 20], [1], 39)),
  ([(20, [25, 3], [1], 83), (0, [25], [], 344), (20, [24, 3], [1], 26), (0, [24], [], 300), (22, [23, 20, 22], [1], 0), (90, [23], [], -1), (91, [23], [], 9999), (22, [22, 21, 7], [1], 0), (90, [22], [], 0), (91, [22], [], 1007), (20, [21, 3], [1], 83), (0, [21], [], 344), (20, [20, 3], [1], 26), (0, [20], [], 300), (40, [18, 19], [], 0), (0, [19], [], 1), (22, [18, 15, 17], [1], 0), (90, [18], [], 0), (91, [18], [], 5), (22, [17, 16, 8], [1], 0), (90, [17], [], 0), (91, [17], [], 1007), (20, [16, 3], [1], 83), (0, [16], [], 344), (20, [15, 3], [1], 24), (0, [15], [], 298), (40, [13, 14], [], 0), (0, [14], [], 1), (22, [13, 10, 12], [1], 0), (90, [13], [], 0), (91, [13], [], 5), (22, [12, 11, 7], [1], 0), (90, [12], [], 0), (91, [12], [], 1007), (20, [11, 3], [1], 83), (0, [11], [], 344), (20, [10, 3], [1], 24), (0, [10], [], 298), (42, [8, 9], [], 0), (20, [9, 3], [1], 82), (90, [9], [], 0), (91, [9], [], 40), (5000, [0, 1, 2, 3, 4, 5, 6, 7, 8], [0, 1], 39), (0, [0], [], 285), (90, [1], [], -2147483648), (91, [1], [], 2147483647), (90, [2], [], -2147483648), (91, [2], [], 2147483647), (0, [3], [], 285), (90, [4], [], -2147483648), (91, [4], [], 2147483647), (90, [5], [], -2147483648), (91, [5], [], 2147483647), (90, [6], [], -2147483648), (91, [6], [], 2147483647), (90, [7], [], 0), (91, [7], [], 39), (90, [8], [], 0), (91, [8], [], 40)], (70, [8], [], 40)),
  ([(40, [23, 27], [], 0), (22, [27, 24, 26], [1], 0), (90, [27], [], -1), (91, [27], [], 9999), (22, [26, 25, 8], [1], 0), (90, [26], [], 0), (91, [26], [], 1007), (20, [25, 3], [1], 83), (0, [25], [], 344), (20, [24, 3], [1], 26), (0, [24], [], 300), (22, [23, 20, 22], [1], 0), (90, [23], [], -1), (91, [23], [], 9999), (22, [22, 21, 7], [1], 0), (90, [22], [], 0), (91, [22], [], 1007), (20, [21, 3], [1], 83), (0, [21], [], 344), (20, [20, 3], [1], 26), (0, [20], [], 300), (40, [18, 19], [], 0), (0, [19], [], 1), (22, [18, 15, 17], [1], 0), (90, [18], [], 0), (91, [18], [], 5), (22, [17, 16, 8], [1], 0), (90, [17], [], 0), (91, [17], [], 1007), (20, [16, 3], [1], 83), (0, [16], [], 344), (20, [15, 3], [1], 24), (0, [15], [], 298), (40, [13, 14], [], 0), (0, [14], [], 1), (22, [13, 10, 12], [1], 0), (90, [13], [], 0), (91, [13], [], 5), (22, [12, 11, 7], [1], 0), (90, [12], [], 0), (91, [12], [], 1007), (20, [11, 3], [1], 83), (0, [11], [], 344), (20, [10, 3], [1], 24), (0, [10], [], 298), (42, [8, 9], [], 0), (20, [9, 3], [1], 82), (90, [9], [], 0), (91, [9], [], 40), (5000, [0, 1, 2, 3, 4, 5, 6, 7, 8], [0, 1], 39), (0, [0], [], 285), (90, [1], [], -2147483648), (91, [1], [], 2147483647), (90, [2], [], -2147483648), (91, [2], [], 2147483647), (0, [3], [], 285), (90, [4], [], -2147483648), (91, [4], [], 2147483647), (90, [5], [], -2147483648), (91, [5], [], 2147483647), (90, [6], [], -2147483648), (91, [6], [], 2147483647), (90, [7], [], 0), (91, [7], [], 39), (90, [8], [], 0), (91, [8], [], 40)], (91, [8], [], 39)),
  ([(40, [23, 27], [], 0), (22, [27, 24, 26], [1], 0), (90, [27], [], -1), (91, [27], [], 9999), (22, [26, 25, 8], [1], 0), (90, [26], [], 0), (91, [26], [], 1007), (20, [25, 3], [1], 83), (0, [25], [], 344), (20, [24, 3], [1], 26), (0, [24], [], 300), (22, [23, 20, 22], [1], 0), (90, [23], [], -1), (91, [23], [], 9999), (22, [22, 21, 7], [1], 0), (90, [22], [], 0), (91, [22], [], 1007), (20, [21, 3], [1], 83), (0, [21], [], 344), (20, [20, 3], [1], 26), (0, [20], [], 300), (40, [18, 19], [], 0), (0, [19], [], 1), (22, [18, 15, 17], [1], 0), (90, [18], [], 0), (91, [18], [], 5), (22, [17, 16, 8], [1], 0), (90, [17], [], 0), (91, [17], [], 1007), (20, [16, 3], [1], 83), (0, [16], [], 344), (20, [15, 3], [1], 24), (0, [15], [], 298), (40, [13, 14], [], 0), (0, [14], [], 1), (22, [13, 10, 12], [1], 0), (90, [13], [], 0), (91, [13], [], 5), (22, [12, 11, 7], [1], 0), (90, [12], [], 0), (91, [12], [], 1007), (20, [11, 3], [1], 83), (0, [11], [], 344), (20, [10, 3], [1], 24), (0, [10], [], 298), (42, [8, 9], [], 0), (20, [9, 3], [1], 82), (90, [9], [], 0), (91, [9], [], 40), (5000, [0, 1, 2, 3, 4, 5, 6, 7, 8], [0, 1], 39), (0, [0], [], 285), (90, [1], [], -2147483648), (91, [1], [], 2147483647), (90, [2], [], -2147483648), (91, [2], [], 2147483647), (0, [3], [], 285), (90, [4], [], -2147483648), (91, [4], [], 2147483647), (90, [5], [], -2147483648), (91, [5], [], 2147483647), (90, [6], [], -2147483648), (91, [6], [], 2147483647), (90, [7], [], 0), (91, [7], [], 39), (90, [8], [], 0), (91, [8], [], 40)], (2271, [3, 8], [1], 0)),
  ([(1271, [28, 3, 8], [1, 2], 0), (90, [28], [], -10999), (91, [28], [], 10999), (40, [23, 27], [], 0), (22, [27, 24, 26], [1], 0), (90, [27], [], -1), (91, [27], [], 9999), (22, [26, 25, 8], [1], 0), (90, [26], [], 0), (91, [26], [], 1007), (20, [25, 3], [1], 83), (0, [25], [], 344), (20, [24, 3], [1], 26), (0, [24], [], 300), (22, [23, 20, 22], [1], 0), (90, [23], [], -1), (91, [23], [], 9999), (22, [22, 21, 7], [1], 0), (90, [22], [], 0), (91, [22], [], 1007), (20, [21, 3], [1], 83), (0, [21], [], 344), (20, [20, 3], [1], 26), (0, [20], [], 300), (40, [18, 19], [], 0), (0, [19], [], 1), (22, [18, 15, 17], [1], 0), (90, [18], [], 0), (91, [18], [], 5), (22, [17, 16, 8], [1], 0), (90, [17], [], 0), (91, [17], [], 1007), (20, [16, 3], [1], 83), (0, [16], [], 344), (20, [15, 3], [1], 24), (0, [15], [], 298), (40, [13, 14], [], 0), (0, [14], [], 1), (22, [13, 10, 12], [1], 0), (90, [13], [], 0), (91, [13], [], 5), (22, [12, 11, 7], [1], 0), (90, [12], [], 0), (91, [12], [], 1007), (20, [11, 3], [1], 83), (0, [11], [], 344), (20, [10, 3], [1], 24), (0, [10], [], 298), (42, [8, 9], [], 0), (20, [9, 3], [1], 82), (90, [9], [], 0), (91, [9], [], 40), (5000, [0, 1, 2, 3, 4, 5, 6, 7, 8], [0, 1], 39), (0, [0], [], 285), (90, [1], [], -2147483648), (91, [1], [], 2147483647), (90, [2], [], -2147483648), (91, [2], [], 2147483647), (0, [3], [], 285), (90, [4], [], -2147483648), (91, [4], [], 2147483647), (90, [5], [], -2147483648), (91, [5], [], 2147483647), (90, [6], [], -2147483648), (91, [6], [], 2147483647), (90, [7], [], 0), (91, [7], [], 39), (90, [8], [], 0), (91, [8], [], 40)], (2271, [3, 7], [2], 0)),
  ([(41, [7, 7], [], 0), (43, [28, 29], [], 0), (1271, [29, 3, 7], [2, 3], 0), (90, [29], [], -10999), (91, [29], [], 10999), (1271, [28, 3, 8], [1, 2], 0), (90, [28], [], -10999), (91, [28], [], 10999), (40, [23, 27], [], 0), (22, [27, 24, 26], [1], 0), (90, [27], [], -1), (91, [27], [], 9999), (22, [26, 25, 8], [1], 0), (90, [26], [], 0), (91, [26], [], 1007), (20, [25, 3], [1], 83), (0, [25], [], 344), (20, [24, 3], [1], 26), (0, [24], [], 300), (22, [23, 20, 22], [1], 0), (90, [23], [], -1), (91, [23], [], 9999), (22, [22, 21, 7], [1], 0), (90, [22], [], 0), (91, [22], [], 1007), (20, [21, 3], [1], 83), (0, [21], [], 344), (20, [20, 3], [1], 26), (0, [20], [], 300), (40, [18, 19], [], 0), (0, [19], [], 1), (22, [18, 15, 17], [1], 0), (90, [18], [], 0), (91, [18], [], 5), (22, [17, 16, 8], [1], 0), (90, [17], [], 0), (91, [17], [], 1007), (20, [16, 3], [1], 83), (0, [16], [], 344), (20, [15, 3], [1], 24), (0, [15], [], 298), (40, [13, 14], [], 0), (0, [14], [], 1), (22, [13, 10, 12], [1], 0), (90, [13], [], 0), (91, [13], [], 5), (22, [12, 11, 7], [1], 0), (90, [12], [], 0), (91, [12], [], 1007), (20, [11, 3], [1], 83), (0, [11], [], 344), (20, [10, 3], [1], 24), (0, [10], [], 298), (42, [8, 9], [], 0), (20, [9, 3], [1], 82), (90, [9], [], 0), (91, [9], [], 40), (5000, [0, 1, 2, 3, 4, 5, 6, 7, 8], [0, 1], 39), (0, [0], [], 285), (90, [1], [], -2147483648), (91, [1], [], 2147483647), (90, [2], [], -2147483648), (91, [2], [], 2147483647), (0, [3], [], 285), (90, [4], [], -2147483648), (91, [4], [], 2147483647), (90, [5], [], -2147483648), (91, [5], [], 2147483647), (90, [6], [], -2147483648), (91, [6], [], 2147483647), (90, [7], [], 0), (91, [7], [], 39), (90, [8], [], 0), (91, [8], [], 40)], (2271, [3, 7], [3], 0)),
  ([(1271, [30, 3, 7], [3, 4], 0), (90, [30], [], -10999), (91, [30], [], 10999), (41, [7, 7], [], 0), (43, [28, 29], [], 0), (1271, [29, 3, 7], [2, 3], 0), (90, [29], [], -10999), (91, [29], [], 10999), (1271, [28, 3, 8], [1, 2], 0), (90, [28], [], -10999), (91, [28], [], 10999), (40, [23, 27], [], 0), (22, [27, 24, 26], [1], 0), (90, [27], [], -1), (91, [27], [], 9999), (22, [26, 25, 8], [1], 0), (90, [26], [], 0), (91, [26], [], 1007), (20, [25, 3], [1], 83), (0, [25], [], 344), (20, [24, 3], [1], 26), (0, [24], [], 300), (22, [23, 20, 22], [1], 0), (90, [23], [], -1), (91, [23], [], 9999), (22, [22, 21, 7], [1], 0), (90, [22], [], 0), (91, [22], [], 1007), (20, [21, 3], [1], 83), (0, [21], [], 344), (20, [20, 3], [1], 26), (0, [20], [], 300), (40, [18, 19], [], 0), (0, [19], [], 1), (22, [18, 15, 17], [1], 0), (90, [18], [], 0), (91, [18], [], 5), (22, [17, 16, 8], [1], 0), (90, [17], [], 0), (91, [17], [], 1007), (20, [16, 3], [1], 83), (0, [16], [], 344), (20, [15, 3], [1], 24), (0, [15], [], 298), (40, [13, 14], [], 0), (0, [14], [], 1), (22, [13, 10, 12], [1], 0), (90, [13], [], 0), (91, [13], [], 5), (22, [12, 11, 7], [1], 0), (90, [12], [], 0), (91, [12], [], 1007), (20, [11, 3], [1], 83), (0, [11], [], 344), (20, [10, 3], [1], 24), (0, [10], [], 298), (42, [8, 9], [], 0), (20, [9, 3], [1], 82), (90, [9], [], 0), (91, [9], [], 40), (5000, [0, 1, 2, 3, 4, 5, 6, 7, 8], [0, 1], 39), (0, [0], [], 285), (90, [1], [], -2147483648), (91, [1], [], 2147483647), (90, [2], [], -2147483648), (91, [2], [], 2147483647), (0, [3], [], 285), (90, [4], [], -2147483648), (91, [4], [], 2147483647), (90, [5], [], -2147483648), (91, [5], [], 2147483647), (90, [6], [], -2147483648), (91, [6], [], 2147483647), (90, [7], [], 0), (91, [7], [], 39), (90, [8], [], 0), (91, [8], [], 40)], (2272, [3, 7], [4], 0)),
  ([(10, [33, 8], [], 1), (10, [32, 6], [], -1), (31, [6], [], 0), (41, [7, 7], [], 0), (40, [23, 27], [], 0), (22, [27, 24, 26], [1], 0), (90, [27], [], -1), (91, [27], [], 9999), (22, [26, 25, 8], [1], 0), (90, [26], [], 0), (91, [26], [], 1007), (20, [25, 3], [1], 83), (0, [25], [], 344), (20, [24, 3], [1], 26), (0, [24], [], 300), (22, [23, 20, 22], [1], 0), (90, [23], [], -1), (91, [23], [], 9999), (22, [22, 21, 7], [1], 0), (90, [22], [], 0), (91, [22], [], 1007), (20, [21, 3], [1], 83), (0, [21], [], 344), (20, [20, 3], [1], 26), (0, [20], [], 300), (40, [18, 19], [], 0), (0, [19], [], 1), (22, [18, 15, 17], [1], 0), (90, [18], [], 0), (91, [18], [], 5), (22, [17, 16, 8], [1], 0), (90, [17], [], 0), (91, [17], [], 1007), (20, [16, 3], [1], 83), (0, [16], [], 344), (20, [15, 3], [1], 24), (0, [15], [], 298), (40, [13, 14], [], 0), (0, [14], [], 1), (22, [13, 10, 12], [1], 0), (90, [13], [], 0), (91, [13], [], 5), (22, [12, 11, 7], [1], 0), (90, [12], [], 0), (91, [12], [], 1007), (20, [11, 3], [1], 83), (0, [11], [], 344), (20, [10, 3], [1], 24), (0, [10], [], 298), (42, [8, 9], [], 0), (20, [9, 3], [1], 82), (90, [9], [], 0), (91, [9], [], 40), (5000, [0, 1, 2, 3, 4, 5, 6, 7, 8], [0, 1], 39), (0, [0], [], 285), (90, [1], [], -2147483648), (91, [1], [], 2147483647), (90, [2], [], -2147483648), (91, [2], [], 2147483647), (0, [3], [], 285), (90, [4], [], -2147483648), (91, [4], [], 2147483647), (90, [5], [], -2147483648), (91, [5], [], 2147483647), (90, [6], [], -2147483648), (91, [6], [], 2147483647), (90, [7], [], 0), (91, [7], [], 39), (90, [8], [], 0), (91, [8], [], 40)], (90, [33], [], 0)),
  ([(10, [33, 8], [], 1), (10, [32, 6], [], -1), (31, [6], [], 0), (41, [7, 7], [], 0), (40, [23, 27], [], 0), (22, [27, 24, 26], [1], 0), (90, [27], [], -1), (91, [27], [], 9999), (22, [26, 25, 8], [1], 0), (90, [26], [], 0), (91, [26], [], 1007), (20, [25, 3], [1], 83), (0, [25], [], 344), (20, [24, 3], [1], 26), (0, [24], [], 300), (22, [23, 20, 22], [1], 0), (90, [23], [], -1), (91, [23], [], 9999), (22, [22, 21, 7], [1], 0), (90, [22], [], 0), (91, [22], [], 1007), (20, [21, 3], [1], 83), (0, [21], [], 344), (20, [20, 3], [1], 26), (0, [20], [], 300), (40, [18, 19], [], 0), (0, [19], [], 1), (22, [18, 15, 17], [1], 0), (90, [18], [], 0), (91, [18], [], 5), (22, [17, 16, 8], [1], 0), (90, [17], [], 0), (91, [17], [], 1007), (20, [16, 3], [1], 83), (0, [16], [], 344), (20, [15, 3], [1], 24), (0, [15], [], 298), (40, [13, 14], [], 0), (0, [14], [], 1), (22, [13, 10, 12], [1], 0), (90, [13], [], 0), (91, [13], [], 5), (22, [12, 11, 7], [1], 0), (90, [12], [], 0), (91, [12], [], 1007), (20, [11, 3], [1], 83), (0, [11], [], 344), (20, [10, 3], [1], 24), (0, [10], [], 298), (42, [8, 9], [], 0), (20, [9, 3], [1], 82), (90, [9], [], 0), (91, [9], [], 40), (5000, [0, 1, 2, 3, 4, 5, 6, 7, 8], [0, 1], 39), (0, [0], [], 285), (90, [1], [], -2147483648), (91, [1], [], 2147483647), (90, [2], [], -2147483648), (91, [2], [], 2147483647), (0, [3], [], 285), (90, [4], [], -2147483648), (91, [4], [], 2147483647), (90, [5], [], -2147483648), (91, [5], [], 2147483647), (90, [6], [], -2147483648), (91, [6], [], 2147483647), (90, [7], [], 0), (91, [7], [], 39), (90, [8], [], 0), (91, [8], [], 40)], (91, [33], [], 40)),
  ([(10, [33, 8], [], 1), (10, [32, 6], [], -1), (31, [6], [], 0), (42, [30, 31], [], 0), (1272, [31, 3, 7], [4, 5], 0), (90, [31], [], -10999), (91, [31], [], 10999), (1271, [30, 3, 7], [3, 4], 0), (90, [30], [], -10999), (91, [30], [], 10999), (41, [7, 7], [], 0), (43, [28, 29], [], 0), (1271, [29, 3, 7], [2, 3], 0), (90, [29], [], -10999), (91, [29], [], 10999), (1271, [28, 3, 8], [1, 2], 0), (90, [28], [], -10999), (91, [28], [], 10999), (40, [23, 27], [], 0), (22, [27, 24, 26], [1], 0), (90, [27], [], -1), (91, [27], [], 9999), (22, [26, 25, 8], [1], 0), (90, [26], [], 0), (91, [26], [], 1007), (20, [25, 3], [1], 83), (0, [25], [], 344), (20, [24, 3], [1], 26), (0, [24], [], 300), (22, [23, 20, 22], [1], 0), (90, [23], [], -1), (91, [23], [], 9999), (22, [22, 21, 7], [1], 0), (90, [22], [], 0), (91, [22], [], 1007), (20, [21, 3], [1], 83), (0, [21], [], 344), (20, [20, 3], [1], 26), (0, [20], [], 300), (40, [18, 19], [], 0), (0, [19], [], 1), (22, [18, 15, 17], [1], 0), (90, [18], [], 0), (91, [18], [], 5), (22, [17, 16, 8], [1], 0), (90, [17], [], 0), (91, [17], [], 1007), (20, [16, 3], [1], 83), (0, [16], [], 344), (20, [15, 3], [1], 24), (0, [15], [], 298), (40, [13, 14], [], 0), (0, [14], [], 1), (22, [13, 10, 12], [1], 0), (90, [13], [], 0), (91, [13], [], 5), (22, [12, 11, 7], [1], 0), (90, [12], [], 0), (91, [12], [], 1007), (20, [11, 3], [1], 83), (0, [11], [], 344), (20, [10, 3], [1], 24), (0, [10], [], 298), (42, [8, 9], [], 0), (20, [9, 3], [1], 82), (90, [9], [], 0), (91, [9], [], 40), (5000, [0, 1, 2, 3, 4, 5, 6, 7, 8], [0, 1], 39), (0, [0], [], 285), (90, [1], [], -2147483648), (91, [1], [], 2147483647), (90, [2], [], -2147483648), (91, [2], [], 2147483647), (0, [3], [], 285), (90, [4], [], -2147483648), (91, [4], [], 2147483647), (90, [5], [], -2147483648), (91, [5], [], 2147483647), (90, [6], [], -2147483648), (91, [6], [], 2147483647), (90, [7], [], 0), (91, [7], [], 39), (90, [8], [], 0), (91, [8], [], 40)], (4000, [3, 4, 5, 32, 7, 33], [5], 39)),
  ([(10, [32, 8], [], 1), (41, [7, 7], [], 0), (40, [23, 27], [], 0), (22, [27, 24, 26], [1], 0), (90, [27], [], -1), (91, [27], [], 9999), (22, [26, 25, 8], [1], 0), (90, [26], [], 0), (91, [26], [], 1007), (20, [25, 3], [1], 83), (0, [25], [], 344), (20, [24, 3], [1], 26), (0, [24], [], 300), (22, [23, 20, 22], [1], 0), (90, [23], [], -1), (91, [23], [], 9999), (22, [22, 21, 7], [1], 0), (90, [22], [], 0), (91, [22], [], 1007), (20, [21, 3], [1], 83), (0, [21], [], 344), (20, [20, 3], [1], 26), (0, [20], [], 300), (40, [18, 19], [], 0), (0, [19], [], 1), (22, [18, 15, 17], [1], 0), (90, [18], [], 0), (91, [18], [], 5), (22, [17, 16, 8], [1], 0), (90, [17], [], 0), (91, [17], [], 1007), (20, [16, 3], [1], 83), (0, [16], [], 344), (20, [15, 3], [1], 24), (0, [15], [], 298), (40, [13, 14], [], 0), (0, [14], [], 1), (22, [13, 10, 12], [1], 0), (90, [13], [], 0), (91, [13], [], 5), (22, [12, 11, 7], [1], 0), (90, [12], [], 0), (91, [12], [], 1007), (20, [11, 3], [1], 83), (0, [11], [], 344), (20, [10, 3], [1], 24), (0, [10], [], 298), (42, [8, 9], [], 0), (20, [9, 3], [1], 82), (90, [9], [], 0), (91, [9], [], 40), (5000, [0, 1, 2, 3, 4, 5, 6, 7, 8], [0, 1], 39), (0, [0], [], 285), (90, [1], [], -2147483648), (91, [1], [], 2147483647), (90, [2], [], -2147483648), (91, [2], [], 2147483647), (0, [3], [], 285), (90, [4], [], -2147483648), (91, [4], [], 2147483647), (90, [5], [], -2147483648), (91, [5], [], 2147483647), (90, [6], [], -2147483648), (91, [6], [], 2147483647), (90, [7], [], 0), (91, [7], [], 39), (90, [8], [], 0), (91, [8], [], 40)], (90, [32], [], 0)),
  ([(10, [32, 8], [], 1), (41, [7, 7], [], 0), (40, [23, 27], [], 0), (22, [27, 24, 26], [1], 0), (90, [27], [], -1), (91, [27], [], 9999), (22, [26, 25, 8], [1], 0), (90, [26], [], 0), (91, [26], [], 1007), (20, [25, 3], [1], 83), (0, [25], [], 344), (20, [24, 3], [1], 26), (0, [24], [], 300), (22, [23, 20, 22], [1], 0), (90, [23], [], -1), (91, [23], [], 9999), (22, [22, 21, 7], [1], 0), (90, [22], [], 0), (91, [22], [], 1007), (20, [21, 3], [1], 83), (0, [21], [], 344), (20, [20, 3], [1], 26), (0, [20], [], 300), (40, [18, 19], [], 0), (0, [19], [], 1), (22, [18, 15, 17], [1], 0), (90, [18], [], 0), (91, [18], [], 5), (22, [17, 16, 8], [1], 0), (90, [17], [], 0), (91, [17], [], 1007), (20, [16, 3], [1], 83), (0, [16], [], 344), (20, [15, 3], [1], 24), (0, [15], [], 298), (40, [13, 14], [], 0), (0, [14], [], 1), (22, [13, 10, 12], [1], 0), (90, [13], [], 0), (91, [13], [], 5), (22, [12, 11, 7], [1], 0), (90, [12], [], 0), (91, [12], [], 1007), (20, [11, 3], [1], 83), (0, [11], [], 344), (20, [10, 3], [1], 24), (0, [10], [], 298), (42, [8, 9], [], 0), (20, [9, 3], [1], 82), (90, [9], [], 0), (91, [9], [], 40), (5000, [0, 1, 2, 3, 4, 5, 6, 7, 8], [0, 1], 39), (0, [0], [], 285), (90, [1], [], -2147483648), (91, [1], [], 2147483647), (90, [2], [], -2147483648), (91, [2], [], 2147483647), (0, [3], [], 285), (90, [4], [], -2147483648), (91, [4], [], 2147483647), (90, [5], [], -2147483648), (91, [5], [], 2147483647), (90, [6], [], -2147483648), (91, [6], [], 2147483647), (90, [7], [], 0), (91, [7], [], 39), (90, [8], [], 0), (91, [8], [], 40)], (91, [32], [], 40)),
  ([(10, [32, 8], [], 1), (43, [30, 31], [], 0), (1272, [31, 3, 7], [4, 5], 0), (90, [31], [], -10999), (91, [31], [], 10999), (1271, [30, 3, 7], [3, 4], 0), (90, [30], [], -10999), (91, [30], [], 10999), (41, [7, 7], [], 0), (43, [28, 29], [], 0), (1271, [29, 3, 7], [2, 3], 0), (90, [29], [], -10999), (91, [29], [], 10999), (1271, [28, 3, 8], [1, 2], 0), (90, [28], [], -10999), (91, [28], [], 10999), (40, [23, 27], [], 0), (22, [27, 24, 26], [1], 0), (90, [27], [], -1), (91, [27], [], 9999), (22, [26, 25, 8], [1], 0), (90, [26], [], 0), (91, [26], [], 1007), (20, [25, 3], [1], 83), (0, [25], [], 344), (20, [24, 3], [1], 26), (0, [24], [], 300), (22, [23, 20, 22], [1], 0), (90, [23], [], -1), (91, [23], [], 9999), (22, [22, 21, 7], [1], 0), (90, [22], [], 0), (91, [22], [], 1007), (20, [21, 3], [1], 83), (0, [21], [], 344), (20, [20, 3], [1], 26), (0, [20], [], 300), (40, [18, 19], [], 0), (0, [19], [], 1), (22, [18, 15, 17], [1], 0), (90, [18], [], 0), (91, [18], [], 5), (22, [17, 16, 8], [1], 0), (90, [17], [], 0), (91, [17], [], 1007), (20, [16, 3], [1], 83), (0, [16], [], 344), (20, [15, 3], [1], 24), (0, [15], [], 298), (40, [13, 14], [], 0), (0, [14], [], 1), (22, [13, 10, 12], [1], 0), (90, [13], [], 0), (91, [13], [], 5), (22, [12, 11, 7], [1], 0), (90, [12], [], 0), (91, [12], [], 1007), (20, [11, 3], [1], 83), (0, [11], [], 344), (20, [10, 3], [1], 24), (0, [10], [], 298), (42, [8, 9], [], 0), (20, [9, 3], [1], 82), (90, [9], [], 0), (91, [9], [], 40), (5000, [0, 1, 2, 3, 4, 5, 6, 7, 8], [0, 1], 39), (0, [0], [], 285), (90, [1], [], -2147483648), (91, [1], [], 2147483647), (90, [2], [], -2147483648), (91, [2], [], 2147483647), (0, [3], [], 285), (90, [4], [], -2147483648), (91, [4], [], 2147483647), (90, [5], [], -2147483648), (91, [5], [], 2147483647), (90, [6], [], -2147483648), (91, [6], [], 2147483647), (90, [7], [], 0), (91, [7], [], 39), (90, [8], [], 0), (91, [8], [], 40)], (4000, [3, 4, 5, 6, 7, 32], [5], 39)),
  ([(40, [7, 7], [], 0), (40, [23, 27], [], 0), (22, [27, 24, 26], [1], 0), (90, [27], [], -1), (91, [27], [], 9999), (22, [26, 25, 8], [1], 0), (90, [26], [], 0), (91, [26], [], 1007), (20, [25, 3], [1], 83), (0, [25], [], 344), (20, [24, 3], [1], 26), (0, [24], [], 300), (22, [23, 20, 22], [1], 0), (90, [23], [], -1), (91, [23], [], 9999), (22, [22, 21, 7], [1], 0), (90, [22], [], 0), (91, [22], [], 1007), (20, [21, 3], [1], 83), (0, [21], [], 344), (20, [20, 3], [1], 26), (0, [20], [], 300), (40, [18, 19], [], 0), (0, [19], [], 1), (22, [18, 15, 17], [1], 0), (90, [18], [], 0), (91, [18], [], 5), (22, [17, 16, 8], [1], 0), (90, [17], [], 0), (91, [17], [], 1007), (20, [16, 3], [1], 83), (0, [16], [], 344), (20, [15, 3], [1], 24), (0, [15], [], 298), (40, [13, 14], [], 0), (0, [14], [], 1), (22, [13, 10, 12], [1], 0), (90, [13], [], 0), (91, [13], [], 5), (22, [12, 11, 7], [1], 0), (90, [12], [], 0), (91, [12], [], 1007), (20, [11, 3], [1], 83), (0, [11], [], 344), (20, [10, 3], [1], 24), (0, [10], [], 298), (42, [8, 9], [], 0), (20, [9, 3], [1], 82), (90, [9], [], 0), (91, [9], [], 40), (5000, [0, 1, 2, 3, 4, 5, 6, 7, 8], [0, 1], 39), (0, [0], [], 285), (90, [1], [], -2147483648), (91, [1], [], 2147483647), (90, [2], [], -2147483648), (91, [2], [], 2147483647), (0, [3], [], 285), (90, [4], [], -2147483648), (91, [4], [], 2147483647), (90, [5], [], -2147483648), (91, [5], [], 2147483647), (90, [6], [], -2147483648), (91, [6], [], 2147483647), (90, [7], [], 0), (91, [7], [], 39), (90, [8], [], 0), (91, [8], [], 40)], (91, [8], [], 39)),
  ([(40, [7, 7], [], 0), (43, [28, 29], [], 0), (1271, [29, 3, 7], [2, 3], 0), (90, [29], [], -10999), (91, [29], [], 10999), (1271, [28, 3, 8], [1, 2], 0), (90, [28], [], -10999), (91, [28], [], 10999), (40, [23, 27], [], 0), (22, [27, 24, 26], [1], 0), (90, [27], [], -1), (91, [27], [], 9999), (22, [26, 25, 8], [1], 0), (90, [26], [], 0), (91, [26], [], 1007), (20, [25, 3], [1], 83), (0, [25], [], 344), (20, [24, 3], [1], 26), (0, [24], [], 300), (22, [23, 20, 22], [1], 0), (90, [23], [], -1), (91, [23], [], 9999), (22, [22, 21, 7], [1], 0), (90, [22], [], 0), (91, [22], [], 1007), (20, [21, 3], [1], 83), (0, [21], [], 344), (20, [20, 3], [1], 26), (0, [20], [], 300), (40, [18, 19], [], 0), (0, [19], [], 1), (22, [18, 15, 17], [1], 0), (90, [18], [], 0), (91, [18], [], 5), (22, [17, 16, 8], [1], 0), (90, [17], [], 0), (91, [17], [], 1007), (20, [16, 3], [1], 83), (0, [16], [], 344), (20, [15, 3], [1], 24), (0, [15], [], 298), (40, [13, 14], [], 0), (0, [14], [], 1), (22, [13, 10, 12], [1], 0), (90, [13], [], 0), (91, [13], [], 5), (22, [12, 11, 7], [1], 0), (90, [12], [], 0), (91, [12], [], 1007), (20, [11, 3], [1], 83), (0, [11], [], 344), (20, [10, 3], [1], 24), (0, [10], [], 298), (42, [8, 9], [], 0), (20, [9, 3], [1], 82), (90, [9], [], 0), (91, [9], [], 40), (5000, [0, 1, 2, 3, 4, 5, 6, 7, 8], [0, 1], 39), (0, [0], [], 285), (90, [1], [], -2147483648), (91, [1], [], 2147483647), (90, [2], [], -2147483648), (91, [2], [], 2147483647), (0, [3], [], 285), (90, [4], [], -2147483648), (91, [4], [], 2147483647), (90, [5], [], -2147483648), (91, [5], [], 2147483647), (90, [6], [], -2147483648), (91, [6], [], 2147483647), (90, [7], [], 0), (91, [7], [], 39), (90, [8], [], 0), (91, [8], [], 40)], (2271, [3, 8], [3], 0)),
  ([(1271, [30, 3, 8], [3, 4], 0), (90, [30], [], -10999), (91, [30], [], 10999), (40, [7, 7], [], 0), (43, [28, 29], [], 0), (1271, [29, 3, 7], [2, 3], 0), (90, [29], [], -10999), (91, [29], [], 10999), (1271, [28, 3, 8], [1, 2], 0), (90, [28], [], -10999), (91, [28], [], 10999), (40, [23, 27], [], 0), (22, [27, 24, 26], [1], 0), (90, [27], [], -1), (91, [27], [], 9999), (22, [26, 25, 8], [1], 0), (90, [26], [], 0), (91, [26], [], 1007), (20, [25, 3], [1], 83), (0, [25], [], 344), (20, [24, 3], [1], 26), (0, [24], [], 300), (22, [23, 20, 22], [1], 0), (90, [23], [], -1), (91, [23], [], 9999), (22, [22, 21, 7], [1], 0), (90, [22], [], 0), (91, [22], [], 1007), (20, [21, 3], [1], 83), (0, [21], [], 344), (20, [20, 3], [1], 26), (0, [20], [], 300), (40, [18, 19], [], 0), (0, [19], [], 1), (22, [18, 15, 17], [1], 0), (90, [18], [], 0), (91, [18], [], 5), (22, [17, 16, 8], [1], 0), (90, [17], [], 0), (91, [17], [], 1007), (20, [16, 3], [1], 83), (0, [16], [], 344), (20, [15, 3], [1], 24), (0, [15], [], 298), (40, [13, 14], [], 0), (0, [14], [], 1), (22, [13, 10, 12], [1], 0), (90, [13], [], 0), (91, [13], [], 5), (22, [12, 11, 7], [1], 0), (90, [12], [], 0), (91, [12], [], 1007), (20, [11, 3], [1], 83), (0, [11], [], 344), (20, [10, 3], [1], 24), (0, [10], [], 298), (42, [8, 9], [], 0), (20, [9, 3], [1], 82), (90, [9], [], 0), (91, [9], [], 40), (5000, [0, 1, 2, 3, 4, 5, 6, 7, 8], [0, 1], 39), (0, [0], [], 285), (90, [1], [], -2147483648), (91, [1], [], 2147483647), (90, [2], [], -2147483648), (91, [2], [], 2147483647), (0, [3], [], 285), (90, [4], [], -2147483648), (91, [4], [], 2147483647), (90, [5], [], -2147483648), (91, [5], [], 2147483647), (90, [6], [], -2147483648), (91, [6], [], 2147483647), (90, [7], [], 0), (91, [7], [], 39), (90, [8], [], 0), (91, [8], [], 40)], (2272, [3, 7], [4], 0)),
  ([(10, [33, 8], [], 1), (10, [32, 6], [], -1), (31, [6], [], 0), (40, [7, 7], [], 0), (40, [23, 27], [], 0), (22, [27, 24, 26], [1], 0), (90, [27], [], -1), (91, [27], [], 9999), (22, [26, 25, 8], [1], 0), (90, [26], [], 0), (91, [26], [], 1007), (20, [25, 3], [1], 83), (0, [25], [], 344), (20, [24, 3], [1], 26), (0, [24], [], 300), (22, [23, 20, 22], [1], 0), (90, [23], [], -1), (91, [23], [], 9999), (22, [22, 21, 7], [1], 0), (90, [22], [], 0), (91, [22], [], 1007), (20, [21, 3], [1], 83), (0, [21], [], 344), (20, [20, 3], [1], 26), (0, [20], [], 300), (40, [18, 19], [], 0), (0, [19], [], 1), (22, [18, 15, 17], [1], 0), (90, [18], [], 0), (91, [18], [], 5), (22, [17, 16, 8], [1], 0), (90, [17], [], 0), (91, [17], [], 1007), (20, [16, 3], [1], 83), (0, [16], [], 344), (20, [15, 3], [1], 24), (0, [15], [], 298), (40, [13, 14], [], 0), (0, [14], [], 1), (22, [13, 10, 12], [1], 0), (90, [13], [], 0), (91, [13], [], 5), (22, [12, 11, 7], [1], 0), (90, [12], [], 0), (91, [12], [], 1007), (20, [11, 3], [1], 83), (0, [11], [], 344), (20, [10, 3], [1], 24), (0, [10], [], 298), (42, [8, 9], [], 0), (20, [9, 3], [1], 82), (90, [9], [], 0), (91, [9], [], 40), (5000, [0, 1, 2, 3, 4, 5, 6, 7, 8], [0, 1], 39), (0, [0], [], 285), (90, [1], [], -2147483648), (91, [1], [], 2147483647), (90, [2], [], -2147483648), (91, [2], [], 2147483647), (0, [3], [], 285), (90, [4], [], -2147483648), (91, [4], [], 2147483647), (90, [5], [], -2147483648), (91, [5], [], 2147483647), (90, [6], [], -2147483648), (91, [6], [], 2147483647), (90, [7], [], 0), (91, [7], [], 39), (90, [8], [], 0), (91, [8], [], 40)], (90, [33], [], 0)),
  ([(10, [33, 8], [], 1), (10, [32, 6], [], -1), (31, [6], [], 0), (40, [7, 7], [], 0), (40, [23, 27], [], 0), (22, [27, 24, 26], [1], 0), (90, [27], [], -1), (91, [27], [], 9999), (22, [26, 25, 8], [1], 0), (90, [26], [], 0), (91, [26], [], 1007), (20, [25, 3], [1], 83), (0, [25], [], 344), (20, [24, 3], [1], 26), (0, [24], [], 300), (22, [23, 20, 22], [1], 0), (90, [23], [], -1), (91, [23], [], 9999), (22, [22, 21, 7], [1], 0), (90, [22], [], 0), (91, [22], [], 1007), (20, [21, 3], [1], 83), (0, [21], [], 344), (20, [20, 3], [1], 26), (0, [20], [], 300), (40, [18, 19], [], 0), (0, [19], [], 1), (22, [18, 15, 17], [1], 0), (90, [18], [], 0), (91, [18], [], 5), (22, [17, 16, 8], [1], 0), (90, [17], [], 0), (91, [17], [], 1007), (20, [16, 3], [1], 83), (0, [16], [], 344), (20, [15, 3], [1], 24), (0, [15], [], 298), (40, [13, 14], [], 0), (0, [14], [], 1), (22, [13, 10, 12], [1], 0), (90, [13], [], 0), (91, [13], [], 5), (22, [12, 11, 7], [1], 0), (90, [12], [], 0), (91, [12], [], 1007), (20, [11, 3], [1], 83), (0, [11], [], 344), (20, [10, 3], [1], 24), (0, [10], [], 298), (42, [8, 9], [], 0), (20, [9, 3], [1], 82), (90, [9], [], 0), (91, [9], [], 40), (5000, [0, 1, 2, 3, 4, 5, 6, 7, 8], [0, 1], 39), (0, [0], [], 285), (90, [1], [], -2147483648), (91, [1], [], 2147483647), (90, [2], [], -2147483648), (91, [2], [], 2147483647), (0, [3], [], 285), (90, [4], [], -2147483648), (91, [4], [], 2147483647), (90, [5], [], -2147483648), (91, [5], [], 2147483647), (90, [6], [], -2147483648), (91, [6], [], 2147483647), (90, [7], [], 0), (91, [7], [], 39), (90, [8], [], 0), (91, [8], [], 40)], (91, [33], [], 40)),
  ([(10, [33, 8], [], 1), (10, [32, 6], [], -1), (31, [6], [], 0), (42, [30, 31], [], 0), (1272, [31, 3, 7], [4, 5], 0), (90, [31], [], -10999), (91, [31], [], 10999), (1271, [30, 3, 8], [3, 4], 0), (90, [30], [], -10999), (91, [30], [], 10999), (40, [7, 7], [], 0), (43, [28, 29], [], 0), (1271, [29, 3, 7], [2, 3], 0), (90, [29], [], -10999), (91, [29], [], 10999), (1271, [28, 3, 8], [1, 2], 0), (90, [28], [], -10999), (91, [28], [], 10999), (40, [23, 27], [], 0), (22, [27, 24, 26], [1], 0), (90, [27], [], -1), (91, [27], [], 9999), (22, [26, 25, 8], [1], 0), (90, [26], [], 0), (91, [26], [], 1007), (20, [25, 3], [1], 83), (0, [25], [], 344), (20, [24, 3], [1], 26), (0, [24], [], 300), (22, [23, 20, 22], [1], 0), (90, [23], [], -1), (91, [23], [], 9999), (22, [22, 21, 7], [1], 0), (90, [22], [], 0), (91, [22], [], 1007), (20, [21, 3], [1], 83), (0, [21], [], 344), (20, [20, 3], [1], 26), (0, [20], [], 300), (40, [18, 19], [], 0), (0, [19], [], 1), (22, [18, 15, 17], [1], 0), (90, [18], [], 0), (91, [18], [], 5), (22, [17, 16, 8], [1], 0), (90, [17], [], 0), (91, [17], [], 1007), (20, [16, 3], [1], 83), (0, [16], [], 344), (20, [15, 3], [1], 24), (0, [15], [], 298), (40, [13, 14], [], 0), (0, [14], [], 1), (22, [13, 10, 12], [1], 0), (90, [13], [], 0), (91, [13], [], 5), (22, [12, 11, 7], [1], 0), (90, [12], [], 0), (91, [12], [], 1007), (20, [11, 3], [1], 83), (0, [11], [], 344), (20, [10, 3], [1], 24), (0, [10], [], 298), (42, [8, 9], [], 0), (20, [9, 3], [1], 82), (90, [9], [], 0), (91, [9], [], 40), (5000, [0, 1, 2, 3, 4, 5, 6, 7, 8], [0, 1], 39), (0, [0], [], 285), (90, [1], [], -2147483648), (91, [1], [], 2147483647), (90, [2], [], -2147483648), (91, [2], [], 2147483647), (0, [3], [], 285), (90, [4], [], -2147483648), (91, [4], [], 2147483647), (90, [5], [], -2147483648), (91, [5], [], 2147483647), (90, [6], [], -2147483648), (91, [6], [], 2147483647), (90, [7], [], 0), (91, [7], [], 39), (90, [8], [], 0), (91, [8], [], 40)], (4000, [3, 4, 5, 32, 7, 33], [5], 39)),
  ([(10, [32, 8], [], 1), (40, [7, 7], [], 0), (40, [23, 27], [], 0), (22, [27, 24, 26], [1], 0), (90, [27], [], -1), (91, [27], [], 9999), (22, [26, 25, 8], [1], 0), (90, [26], [], 0), (91, [26], [], 1007), (20, [25, 3], [1], 83), (0, [25], [], 344), (20, [24, 3], [1], 26), (0, [24], [], 300), (22, [23, 20, 22], [1], 0), (90, [23], [], -1), (91, [23], [], 9999), (22, [22, 21, 7], [1], 0), (90, [22], [], 0), (91, [22], [], 1007), (20, [21, 3], [1], 83), (0, [21], [], 344), (20, [20, 3], [1], 26), (0, [20], [], 300), (40, [18, 19], [], 0), (0, [19], [], 1), (22, [18, 15, 17], [1], 0), (90, [18], [], 0), (91, [18], [], 5), (22, [17, 16, 8], [1], 0), (90, [17], [], 0), (91, [17], [], 1007), (20, [16, 3], [1], 83), (0, [16], [], 344), (20, [15, 3], [1], 24), (0, [15], [], 298), (40, [13, 14], [], 0), (0, [14], [], 1), (22, [13, 10, 12], [1], 0), (90, [13], [], 0), (91, [13], [], 5), (22, [12, 11, 7], [1], 0), (90, [12], [], 0), (91, [12], [], 1007), (20, [11, 3], [1], 83), (0, [11], [], 344), (20, [10, 3], [1], 24), (0, [10], [], 298), (42, [8, 9], [], 0), (20, [9, 3], [1], 82), (90, [9], [], 0), (91, [9], [], 40), (5000, [0, 1, 2, 3, 4, 5, 6, 7, 8], [0, 1], 39), (0, [0], [], 285), (90, [1], [], -2147483648), (91, [1], [], 2147483647), (90, [2], [], -2147483648), (91, [2], [], 2147483647), (0, [3], [], 285), (90, [4], [], -2147483648), (91, [4], [], 2147483647), (90, [5], [], -2147483648), (91, [5], [], 2147483647), (90, [6], [], -2147483648), (91, [6], [], 2147483647), (90, [7], [], 0), (91, [7], [], 39), (90, [8], [], 0), (91, [8], [], 40)], (90, [32], [], 0)),
  ([(10, [32, 8], [], 1), (40, [7, 7], [], 0), (40, [23, 27], [], 0), (22, [27, 24, 26], [1], 0), (90, [27], [], -1), (91, [27], [], 9999), (22, [26, 25, 8], [1], 0), (90, [26], [], 0), (91, [26], [], 1007), (20, [25, 3], [1], 83), (0, [25], [], 344), (20, [24, 3], [1], 26), (0, [24], [], 300), (22, [23, 20, 22], [1], 0), (90, [23], [], -1), (91, [23], [], 9999), (22, [22, 21, 7], [1], 0), (90, [22], [], 0), (91, [22], [], 1007), (20, [21, 3], [1], 83), (0, [21], [], 344), (20, [20, 3], [1], 26), (0, [20], [], 300), (40, [18, 19], [], 0), (0, [19], [], 1), (22, [18, 15, 17], [1], 0), (90, [18], [], 0), (91, [18], [], 5), (22, [17, 16, 8], [1], 0), (90, [17], [], 0), (91, [17], [], 1007), (20, [16, 3], [1], 83), (0, [16], [], 344), (20, [15, 3], [1], 24), (0, [15], [], 298), (40, [13, 14], [], 0), (0, [14], [], 1), (22, [13, 10, 12], [1], 0), (90, [13], [], 0), (91, [13], [], 5), (22, [12, 11, 7], [1], 0), (90, [12], [], 0), (91, [12], [], 1007), (20, [11, 3], [1], 83), (0, [11], [], 344), (20, [10, 3], [1], 24), (0, [10], [], 298), (42, [8, 9], [], 0), (20, [9, 3], [1], 82), (90, [9], [], 0), (91, [9], [], 40), (5000, [0, 1, 2, 3, 4, 5, 6, 7, 8], [0, 1], 39), (0, [0], [], 285), (90, [1], [], -2147483648), (91, [1], [], 2147483647), (90, [2], [], -2147483648), (91, [2], [], 2147483647), (0, [3], [], 285), (90, [4], [], -2147483648), (91, [4], [], 2147483647), (90, [5], [], -2147483648), (91, [5], [], 2147483647), (90, [6], [], -2147483648), (91, [6], [], 2147483647), (90, [7], [], 0), (91, [7], [], 39), (90, [8], [], 0), (91, [8], [], 40)], (91, [32], [], 40)),
  ([(10, [32, 8], [], 1), (43, [30, 31], [], 0), (1272, [31, 3, 7], [4, 5], 0), (90, [31], [], -10999), (91, [31], [], 10999), (1271, [30, 3, 8], [3, 4], 0), (90, [30], [], -10999), (91, [30], [], 10999), (40, [7, 7], [], 0), (43, [28, 29], [], 0), (1271, [29, 3, 7], [2, 3], 0), (90, [29], [], -10999), (91, [29], [], 10999), (1271, [28, 3, 8], [1, 2], 0), (90, [28], [], -10999), (91, [28], [], 10999), (40, [23, 27], [], 0), (22, [27, 24, 26], [1], 0), (90, [27], [], -1), (91, [27], [], 9999), (22, [26, 25, 8], [1], 0), (90, [26], [], 0), (91, [26], [], 1007), (20, [25, 3], [1], 83), (0, [25], [], 344), (20, [24, 3], [1], 26), (0, [24], [], 300), (22, [23, 20, 22], [1], 0), (90, [23], [], -1), (91, [23], [], 9999), (22, [22, 21, 7], [1], 0), (90, [22], [], 0), (91, [22], [], 1007), (20, [21, 3], [1], 83), (0, [21], [], 344), (20, [20, 3], [1], 26), (0, [20], [], 300), (40, [18, 19], [], 0), (0, [19], [], 1), (22, [18, 15, 17], [1], 0), (90, [18], [], 0), (91, [18], [], 5), (22, [17, 16, 8], [1], 0), (90, [17], [], 0), (91, [17], [], 1007), (20, [16, 3], [1], 83), (0, [16], [], 344), (20, [15, 3], [1], 24), (0, [15], [], 298), (40, [13, 14], [], 0), (0, [14], [], 1), (22, [13, 10, 12], [1], 0), (90, [13], [], 0), (91, [13], [], 5), (22, [12, 11, 7], [1], 0), (90, [12], [], 0), (91, [12], [], 1007), (20, [11, 3], [1], 83), (0, [11], [], 344), (20, [10, 3], [1], 24), (0, [10], [], 298), (42, [8, 9], [], 0), (20, [9, 3], [1], 82), (90, [9], [], 0), (91, [9], [], 40), (5000, [0, 1, 2, 3, 4, 5, 6, 7, 8], [0, 1], 39), (0, [0], [], 285), (90, [1], [], -2147483648), (91, [1], [], 2147483647), (90, [2], [], -2147483648), (91, [2], [], 2147483647), (0, [3], [], 285), (90, [4], [], -2147483648), (91, [4], [], 2147483647), (90, [5], [], -2147483648), (91, [5], [], 2147483647), (90, [6], [], -2147483648), (91, [6], [], 2147483647), (90, [7], [], 0), (91, [7], [], 39), (90, [8], [], 0), (91, [8], [], 40)], (4000, [3, 4, 5, 6, 7, 32], [5], 39)),
  ([(41, [8, 7], [], 0), (42, [28, 29], [], 0), (1271, [29, 3, 7], [2, 3], 0), (90, [29], [], -10999), (91, [29], [], 10999), (1271, [28, 3, 8], [1, 2], 0), (90, [28], [], -10999), (91, [28], [], 10999), (40, [23, 27], [], 0), (22, [27, 24, 26], [1], 0), (90, [27], [], -1), (91, [27], [], 9999), (22, [26, 25, 8], [1], 0), (90, [26], [], 0), (91, [26], [], 1007), (20, [25, 3], [1], 83), (0, [25], [], 344), (20, [24, 3], [1], 26), (0, [24], [], 300), (22, [23, 20, 22], [1], 0), (90, [23], [], -1), (91, [23], [], 9999), (22, [22, 21, 7], [1], 0), (90, [22], [], 0), (91, [22], [], 1007), (20, [21, 3], [1], 83), (0, [21], [], 344), (20, [20, 3], [1], 26), (0, [20], [], 300), (40, [18, 19], [], 0), (0, [19], [], 1), (22, [18, 15, 17], [1], 0), (90, [18], [], 0), (91, [18], [], 5), (22, [17, 16, 8], [1], 0), (90, [17], [], 0), (91, [17], [], 1007), (20, [16, 3], [1], 83), (0, [16], [], 344), (20, [15, 3], [1], 24), (0, [15], [], 298), (40, [13, 14], [], 0), (0, [14], [], 1), (22, [13, 10, 12], [1], 0), (90, [13], [], 0), (91, [13], [], 5), (22, [12, 11, 7], [1], 0), (90, [12], [], 0), (91, [12], [], 1007), (20, [11, 3], [1], 83), (0, [11], [], 344), (20, [10, 3], [1], 24), (0, [10], [], 298), (42, [8, 9], [], 0), (20, [9, 3], [1], 82), (90, [9], [], 0), (91, [9], [], 40), (5000, [0, 1, 2, 3, 4, 5, 6, 7, 8], [0, 1], 39), (0, [0], [], 285), (90, [1], [], -2147483648), (91, [1], [], 2147483647), (90, [2], [], -2147483648), (91, [2], [], 2147483647), (0, [3], [], 285), (90, [4], [], -2147483648), (91, [4], [], 2147483647), (90, [5], [], -2147483648), (91, [5], [], 2147483647), (90, [6], [], -2147483648), (91, [6], [], 2147483647), (90, [7], [], 0), (91, [7], [], 39), (90, [8], [], 0), (91, [8], [], 40)], (2271, [3, 7], [3], 0)),
  ([(41, [8, 7], [], 0), (40, [23, 27], [], 0), (22, [27, 24, 26], [1], 0), (90, [27], [], -1), (91, [27], [], 9999), (22, [26, 25, 8], [1], 0), (90, [26], [], 0), (91, [26], [], 1007), (20, [25, 3], [1], 83), (0, [25], [], 344), (20, [24, 3], [1], 26), (0, [24], [], 300), (22, [23, 20, 22], [1], 0), (90, [23], [], -1), (91, [23], [], 9999), (22, [22, 21, 7], [1], 0), (90, [22], [], 0), (91, [22], [], 1007), (20, [21, 3], [1], 83), (0, [21], [], 344), (20, [20, 3], [1], 26), (0, [20], [], 300), (40, [18, 19], [], 0), (0, [19], [], 1), (22, [18, 15, 17], [1], 0), (90, [18], [], 0), (91, [18], [], 5), (22, [17, 16, 8], [1], 0), (90, [17], [], 0), (91, [17], [], 1007), (20, [16, 3], [1], 83), (0, [16], [], 344), (20, [15, 3], [1], 24), (0, [15], [], 298), (40, [13, 14], [], 0), (0, [14], [], 1), (22, [13, 10, 12], [1], 0), (90, [13], [], 0), (91, [13], [], 5), (22, [12, 11, 7], [1], 0), (90, [12], [], 0), (91, [12], [], 1007), (20, [11, 3], [1], 83), (0, [11], [], 344), (20, [10, 3], [1], 24), (0, [10], [], 298), (42, [8, 9], [], 0), (20, [9, 3], [1], 82), (90, [9], [], 0), (91, [9], [], 40), (5000, [0, 1, 2, 3, 4, 5, 6, 7, 8], [0, 1], 39), (0, [0], [], 285), (90, [1], [], -2147483648), (91, [1], [], 2147483647), (90, [2], [], -2147483648), (91, [2], [], 2147483647), (0, [3], [], 285), (90, [4], [], -2147483648), (91, [4], [], 2147483647), (90, [5], [], -2147483648), (91, [5], [], 2147483647), (90, [6], [], -2147483648), (91, [6], [], 2147483647), (90, [7], [], 0), (91, [7], [], 39), (90, [8], [], 0), (91, [8], [], 40)], (91, [8], [], 39)),
  ([(1271, [30, 3, 7], [3, 4], 0), (90, [30], [], -10999), (91, [30], [], 10999), (41, [8, 7], [], 0), (42, [28, 29], [], 0), (1271, [29, 3, 7], [2, 3], 0), (90, [29], [], -10999), (91, [29], [], 10999), (1271, [28, 3, 8], [1, 2], 0), (90, [28], [], -10999), (91, [28], [], 10999), (40, [23, 27], [], 0), (22, [27, 24, 26], [1], 0), (90, [27], [], -1), (91, [27], [], 9999), (22, [26, 25, 8], [1], 0), (90, [26], [], 0), (91, [26], [], 1007), (20, [25, 3], [1], 83), (0, [25], [], 344), (20, [24, 3], [1], 26), (0, [24], [], 300), (22, [23, 20, 22], [1], 0), (90, [23], [], -1), (91, [23], [], 9999), (22, [22, 21, 7], [1], 0), (90, [22], [], 0), (91, [22], [], 1007), (20, [21, 3], [1], 83), (0, [21], [], 344), (20, [20, 3], [1], 26), (0, [20], [], 300), (40, [18, 19], [], 0), (0, [19], [], 1), (22, [18, 15, 17], [1], 0), (90, [18], [], 0), (91, [18], [], 5), (22, [17, 16, 8], [1], 0), (90, [17], [], 0), (91, [17], [], 1007), (20, [16, 3], [1], 83), (0, [16], [], 344), (20, [15, 3], [1], 24), (0, [15], [], 298), (40, [13, 14], [], 0), (0, [14], [], 1), (22, [13, 10, 12], [1], 0), (90, [13], [], 0), (91, [13], [], 5), (22, [12, 11, 7], [1], 0), (90, [12], [], 0), (91, [12], [], 1007), (20, [11, 3], [1], 83), (0, [11], [], 344), (20, [10, 3], [1], 24), (0, [10], [], 298), (42, [8, 9], [], 0), (20, [9, 3], [1], 82), (90, [9], [], 0), (91, [9], [], 40), (5000, [0, 1, 2, 3, 4, 5, 6, 7, 8], [0, 1], 39), (0, [0], [], 285), (90, [1], [], -2147483648), (91, [1], [], 2147483647), (90, [2], [], -2147483648), (91, [2], [], 2147483647), (0, [3], [], 285), (90, [4], [], -2147483648), (91, [4], [], 2147483647), (90, [5], [], -2147483648), (91, [5], [], 2147483647), (90, [6], [], -2147483648), (91, [6], [], 2147483647), (90, [7], [], 0), (91, [7], [], 39), (90, [8], [], 0), (91, [8], [], 40)], (2272, [3, 8], [4], 0)),
  ([(10, [33, 8], [], 1), (10, [32, 6], [], -1), (31, [6], [], 0), (41, [8, 7], [], 0), (40, [23, 27], [], 0), (22, [27, 24, 26], [1], 0), (90, [27], [], -1), (91, [27], [], 9999), (22, [26, 25, 8], [1], 0), (90, [26], [], 0), (91, [26], [], 1007), (20, [25, 3], [1], 83), (0, [25], [], 344), (20, [24, 3], [1], 26), (0, [24], [], 300), (22, [23, 20, 22], [1], 0), (90, [23], [], -1), (91, [23], [], 9999), (22, [22, 21, 7], [1], 0), (90, [22], [], 0), (91, [22], [], 1007), (20, [21, 3], [1], 83), (0, [21], [], 344), (20, [20, 3], [1], 26), (0, [20], [], 300), (40, [18, 19], [], 0), (0, [19], [], 1), (22, [18, 15, 17], [1], 0), (90, [18], [], 0), (91, [18], [], 5), (22, [17, 16, 8], [1], 0), (90, [17], [], 0), (91, [17], [], 1007), (20, [16, 3], [1], 83), (0, [16], [], 344), (20, [15, 3], [1], 24), (0, [15], [], 298), (40, [13, 14], [], 0), (0, [14], [], 1), (22, [13, 10, 12], [1], 0), (90, [13], [], 0), (91, [13], [], 5), (22, [12, 11, 7], [1], 0), (90, [12], [], 0), (91, [12], [], 1007), (20, [11, 3], [1], 83), (0, [11], [], 344), (20, [10, 3], [1], 24), (0, [10], [], 298), (42, [8, 9], [], 0), (20, [9, 3], [1], 82), (90, [9], [], 0), (91, [9], [], 40), (5000, [0, 1, 2, 3, 4, 5, 6, 7, 8], [0, 1], 39), (0, [0], [], 285), (90, [1], [], -2147483648), (91, [1], [], 2147483647), (90, [2], [], -2147483648), (91, [2], [], 2147483647), (0, [3], [], 285), (90, [4], [], -2147483648), (91, [4], [], 2147483647), (90, [5], [], -2147483648), (91, [5], [], 2147483647), (90, [6], [], -2147483648), (91, [6], [], 2147483647), (90, [7], [], 0), (91, [7], [], 39), (90, [8], [], 0), (91, [8], [], 40)], (90, [33], [], 0)),
  ([(10, [33, 8], [], 1), (10, [32, 6], [], -1), (31, [6], [], 0), (41, [8, 7], [], 0), (40, [23, 27], [], 0), (22, [27, 24, 26], [1], 0), (90, [27], [], -1), (91, [27], [], 9999), (22, [26, 25, 8], [1], 0), (90, [26], [], 0), (91, [26], [], 1007), (20, [25, 3], [1], 83), (0, [25], [], 344), (20, [24, 3], [1], 26), (0, [24], [], 300), (22, [23, 20, 22], [1], 0), (90, [23], [], -1), (91, [23], [], 9999), (22, [22, 21, 7], [1], 0), (90, [22], [], 0), (91, [22], [], 1007), (20, [21, 3], [1], 83), (0, [21], [], 344), (20, [20, 3], [1], 26), (0, [20], [], 300), (40, [18, 19], [], 0), (0, [19], [], 1), (22, [18, 15, 17], [1], 0), (90, [18], [], 0), (91, [18], [], 5), (22, [17, 16, 8], [1], 0), (90, [17], [], 0), (91, [17], [], 1007), (20, [16, 3], [1], 83), (0, [16], [], 344), (20, [15, 3], [1], 24), (0, [15], [], 298), (40, [13, 14], [], 0), (0, [14], [], 1), (22, [13, 10, 12], [1], 0), (90, [13], [], 0), (91, [13], [], 5), (22, [12, 11, 7], [1], 0), (90, [12], [], 0), (91, [12], [], 1007), (20, [11, 3], [1], 83), (0, [11], [], 344), (20, [10, 3], [1], 24), (0, [10], [], 298), (42, [8, 9], [], 0), (20, [9, 3], [1], 82), (90, [9], [], 0), (91, [9], [], 40), (5000, [0, 1, 2, 3, 4, 5, 6, 7, 8], [0, 1], 39), (0, [0], [], 285), (90, [1], [], -2147483648), (91, [1], [], 2147483647), (90, [2], [], -2147483648), (91, [2], [], 2147483647), (0, [3], [], 285), (90, [4], [], -2147483648), (91, [4], [], 2147483647), (90, [5], [], -2147483648), (91, [5], [], 2147483647), (90, [6], [], -2147483648), (91, [6], [], 2147483647), (90, [7], [], 0), (91, [7], [], 39), (90, [8], [], 0), (91, [8], [], 40)], (91, [33], [], 40)),
  ([(10, [33, 8], [], 1), (10, [32, 6], [], -1), (31, [6], [], 0), (42, [30, 31], [], 0), (1272, [31, 3, 8], [4, 5], 0), (90, [31], [], -10999), (91, [31], [], 10999), (1271, [30, 3, 7], [3, 4], 0), (90, [30], [], -10999), (91, [30], [], 10999), (41, [8, 7], [], 0), (42, [28, 29], [], 0), (1271, [29, 3, 7], [2, 3], 0), (90, [29], [], -10999), (91, [29], [], 10999), (1271, [28, 3, 8], [1, 2], 0), (90, [28], [], -10999), (91, [28], [], 10999), (40, [23, 27], [], 0), (22, [27, 24, 26], [1], 0), (90, [27], [], -1), (91, [27], [], 9999), (22, [26, 25, 8], [1], 0), (90, [26], [], 0), (91, [26], [], 1007), (20, [25, 3], [1], 83), (0, [25], [], 344), (20, [24, 3], [1], 26), (0, [24], [], 300), (22, [23, 20, 22], [1], 0), (90, [23], [], -1), (91, [23], [], 9999), (22, [22, 21, 7], [1], 0), (90, [22], [], 0), (91, [22], [], 1007), (20, [21, 3], [1], 83), (0, [21], [], 344), (20, [20, 3], [1], 26), (0, [20], [], 300), (40, [18, 19], [], 0), (0, [19], [], 1), (22, [18, 15, 17], [1], 0), (90, [18], [], 0), (91, [18], [], 5), (22, [17, 16, 8], [1], 0), (90, [17], [], 0), (91, [17], [], 1007), (20, [16, 3], [1], 83), (0, [16], [], 344), (20, [15, 3], [1], 24), (0, [15], [], 298), (40, [13, 14], [], 0), (0, [14], [], 1), (22, [13, 10, 12], [1], 0), (90, [13], [], 0), (91, [13], [], 5), (22, [12, 11, 7], [1], 0), (90, [12], [], 0), (91, [12], [], 1007), (20, [11, 3], [1], 83), (0, [11], [], 344), (20, [10, 3], [1], 24), (0, [10], [], 298), (42, [8, 9], [], 0), (20, [9, 3], [1], 82), (90, [9], [], 0), (91, [9], [], 40), (5000, [0, 1, 2, 3, 4, 5, 6, 7, 8], [0, 1], 39), (0, [0], [], 285), (90, [1], [], -2147483648), (91, [1], [], 2147483647), (90, [2], [], -2147483648), (91, [2], [], 2147483647), (0, [3], [], 285), (90, [4], [], -2147483648), (91, [4], [], 2147483647), (90, [5], [], -2147483648), (91, [5], [], 2147483647), (90, [6], [], -2147483648), (91, [6], [], 2147483647), (90, [7], [], 0), (91, [7], [], 39), (90, [8], [], 0), (91, [8], [], 40)], (4000, [3, 4, 5, 32, 7, 33], [5], 39)),
  ([(10, [32, 8], [], 1), (41, [8, 7], [], 0), (40, [23, 27], [], 0), (22, [27, 24, 26], [1], 0), (90, [27], [], -1), (91, [27], [], 9999), (22, [26, 25, 8], [1], 0), (90, [26], [], 0), (91, [26], [], 1007), (20, [25, 3], [1], 83), (0, [25], [], 344), (20, [24, 3], [1], 26), (0, [24], [], 300), (22, [23, 20, 22], [1], 0), (90, [23], [], -1), (91, [23], [], 9999), (22, [22, 21, 7], [1], 0), (90, [22], [], 0), (91, [22], [], 1007), (20, [21, 3], [1], 83), (0, [21], [], 344), (20, [20, 3], [1], 26), (0, [20], [], 300), (40, [18, 19], [], 0), (0, [19], [], 1), (22, [18, 15, 17], [1], 0), (90, [18], [], 0), (91, [18], [], 5), (22, [17, 16, 8], [1], 0), (90, [17], [], 0), (91, [17], [], 1007), (20, [16, 3], [1], 83), (0, [16], [], 344), (20, [15, 3], [1], 24), (0, [15], [], 298), (40, [13, 14], [], 0), (0, [14], [], 1), (22, [13, 10, 12], [1], 0), (90, [13], [], 0), (91, [13], [], 5), (22, [12, 11, 7], [1], 0), (90, [12], [], 0), (91, [12], [], 1007), (20, [11, 3], [1], 83), (0, [11], [], 344), (20, [10, 3], [1], 24), (0, [10], [], 298), (42, [8, 9], [], 0), (20, [9, 3], [1], 82), (90, [9], [], 0), (91, [9], [], 40), (5000, [0, 1, 2, 3, 4, 5, 6, 7, 8], [0, 1], 39), (0, [0], [], 285), (90, [1], [], -2147483648), (91, [1], [], 2147483647), (90, [2], [], -2147483648), (91, [2], [], 2147483647), (0, [3], [], 285), (90, [4], [], -2147483648), (91, [4], [], 2147483647), (90, [5], [], -2147483648), (91, [5], [], 2147483647), (90, [6], [], -2147483648), (91, [6], [], 2147483647), (90, [7], [], 0), (91, [7], [], 39), (90, [8], [], 0), (91, [8], [], 40)], (90, [32], [], 0)),
  ([(10, [32, 8], [], 1), (41, [8, 7], [], 0), (40, [23, 27], [], 0), (22, [27, 24, 26], [1], 0), (90, [27], [], -1), (91, [27], [], 9999), (22, [26, 25, 8], [1], 0), (90, [26], [], 0), (91, [26], [], 1007), (20, [25, 3], [1], 83), (0, [25], [], 344), (20, [24, 3], [1], 26), (0, [24], [], 300), (22, [23, 20, 22], [1], 0), (90, [23], [], -1), (91, [23], [], 9999), (22, [22, 21, 7], [1], 0), (90, [22], [], 0), (91, [22], [], 1007), (20, [21, 3], [1], 83), (0, [21], [], 344), (20, [20, 3], [1], 26), (0, [20], [], 300), (40, [18, 19], [], 0), (0, [19], [], 1), (22, [18, 15, 17], [1], 0), (90, [18], [], 0), (91, [18], [], 5), (22, [17, 16, 8], [1], 0), (90, [17], [], 0), (91, [17], [], 1007), (20, [16, 3], [1], 83), (0, [16], [], 344), (20, [15, 3], [1], 24), (0, [15], [], 298), (40, [13, 14], [], 0), (0, [14], [], 1), (22, [13, 10, 12], [1], 0), (90, [13], [], 0), (91, [13], [], 5), (22, [12, 11, 7], [1], 0), (90, [12], [], 0), (91, [12], [], 1007), (20, [11, 3], [1], 83), (0, [11], [], 344), (20, [10, 3], [1], 24), (0, [10], [], 298), (42, [8, 9], [], 0), (20, [9, 3], [1], 82), (90, [9], [], 0), (91, [9], [], 40), (5000, [0, 1, 2, 3, 4, 5, 6, 7, 8], [0, 1], 39), (0, [0], [], 285), (90, [1], [], -2147483648), (91, [1], [], 2147483647), (90, [2], [], -2147483648), (91, [2], [], 2147483647), (0, [3], [], 285), (90, [4], [], -2147483648), (91, [4], [], 2147483647), (90, [5], [], -2147483648), (91, [5], [], 2147483647), (90, [6], [], -2147483648), (91, [6], [], 2147483647), (90, [7], [], 0), (91, [7], [], 39), (90, [8], [], 0), (91, [8], [], 40)], (91, [32], [], 40)),
  ([(10, [32, 8], [], 1), (43, [30, 31], [], 0), (1272, [31, 3, 8], [4, 5], 0), (90, [31], [], -10999), (91, [31], [], 10999), (1271, [30, 3, 7], [3, 4], 0), (90, [30], [], -10999), (91, [30], [], 10999), (41, [8, 7], [], 0), (42, [28, 29], [], 0), (1271, [29, 3, 7], [2, 3], 0), (90, [29], [], -10999), (91, [29], [], 10999), (1271, [28, 3, 8], [1, 2], 0), (90, [28], [], -10999), (91, [28], [], 10999), (40, [23, 27], [], 0), (22, [27, 24, 26], [1], 0), (90, [27], [], -1), (91, [27], [], 9999), (22, [26, 25, 8], [1], 0), (90, [26], [], 0), (91, [26], [], 1007), (20, [25, 3], [1], 83), (0, [25], [], 344), (20, [24, 3], [1], 26), (0, [24], [], 300), (22, [23, 20, 22], [1], 0), (90, [23], [], -1), (91, [23], [], 9999), (22, [22, 21, 7], [1], 0), (90, [22], [], 0), (91, [22], [], 1007), (20, [21, 3], [1], 83), (0, [21], [], 344), (20, [20, 3], [1], 26), (0, [20], [], 300), (40, [18, 19], [], 0), (0, [19], [], 1), (22, [18, 15, 17], [1], 0), (90, [18], [], 0), (91, [18], [], 5), (22, [17, 16, 8], [1], 0), (90, [17], [], 0), (91, [17], [], 1007), (20, [16, 3], [1], 83), (0, [16], [], 344), (20, [15, 3], [1], 24), (0, [15], [], 298), (40, [13, 14], [], 0), (0, [14], [], 1), (22, [13, 10, 12], [1], 0), (90, [13], [], 0), (91, [13], [], 5), (22, [12, 11, 7], [1], 0), (90, [12], [], 0), (91, [12], [], 1007), (20, [11, 3], [1], 83), (0, [11], [], 344), (20, [10, 3], [1], 24), (0, [10], [], 298), (42, [8, 9], [], 0), (20, [9, 3], [1], 82), (90, [9], [], 0), (91, [9], [], 40), (5000, [0, 1, 2, 3, 4, 5, 6, 7, 8], [0, 1], 39), (0, [0], [], 285), (90, [1], [], -2147483648), (91, [1], [], 2147483647), (90, [2], [], -2147483648), (91, [2], [], 2147483647), (0, [3], [], 285), (90, [4], [], -2147483648), (91, [4], [], 2147483647), (90, [5], [], -2147483648), (91, [5], [], 2147483647), (90, [6], [], -2147483648), (91, [6], [], 2147483647), (90, [7], [], 0), (91, [7], [], 39), (90, [8], [], 0), (91, [8], [], 40)], (4000, [3, 4, 5, 6, 7, 32], [5], 39)),
  ([(40, [8, 7], [], 0), (40, [23, 27], [], 0), (22, [27, 24, 26], [1], 0), (90, [27], [], -1), (91, [27], [], 9999), (22, [26, 25, 8], [1], 0), (90, [26], [], 0), (91, [26], [], 1007), (20, [25, 3], [1], 83), (0, [25], [], 344), (20, [24, 3], [1], 26), (0, [24], [], 300), (22, [23, 20, 22], [1], 0), (90, [23], [], -1), (91, [23], [], 9999), (22, [22, 21, 7], [1], 0), (90, [22], [], 0), (91, [22], [], 1007), (20, [21, 3], [1], 83), (0, [21], [], 344), (20, [20, 3], [1], 26), (0, [20], [], 300), (40, [18, 19], [], 0), (0, [19], [], 1), (22, [18, 15, 17], [1], 0), (90, [18], [], 0), (91, [18], [], 5), (22, [17, 16, 8], [1], 0), (90, [17], [], 0), (91, [17], [], 1007), (20, [16, 3], [1], 83), (0, [16], [], 344), (20, [15, 3], [1], 24), (0, [15], [], 298), (40, [13, 14], [], 0), (0, [14], [], 1), (22, [13, 10, 12], [1], 0), (90, [13], [], 0), (91, [13], [], 5), (22, [12, 11, 7], [1], 0), (90, [12], [], 0), (91, [12], [], 1007), (20, [11, 3], [1], 83), (0, [11], [], 344), (20, [10, 3], [1], 24), (0, [10], [], 298), (42, [8, 9], [], 0), (20, [9, 3], [1], 82), (90, [9], [], 0), (91, [9], [], 40), (5000, [0, 1, 2, 3, 4, 5, 6, 7, 8], [0, 1], 39), (0, [0], [], 285), (90, [1], [], -2147483648), (91, [1], [], 2147483647), (90, [2], [], -2147483648), (91, [2], [], 2147483647), (0, [3], [], 285), (90, [4], [], -2147483648), (91, [4], [], 2147483647), (90, [5], [], -2147483648), (91, [5], [], 2147483647), (90, [6], [], -2147483648), (91, [6], [], 2147483647), (90, [7], [], 0), (91, [7], [], 39), (90, [8], [], 0), (91, [8], [], 40)], (91, [8], [], 39)),
  ([(40, [8, 7], [], 0), (42, [28, 29], [], 0), (1271, [29, 3, 7], [2, 3], 0), (90, [29], [], -10999), (91, [29], [], 10999), (1271, [28, 3, 8], [1, 2], 0), (90, [28], [], -10999), (91, [28], [], 10999), (40, [23, 27], [], 0), (22, [27, 24, 26], [1], 0), (90, [27], [], -1), (91, [27], [], 9999), (22, [26, 25, 8], [1], 0), (90, [26], [], 0), (91, [26], [], 1007), (20, [25, 3], [1], 83), (0, [25], [], 344), (20, [24, 3], [1], 26), (0, [24], [], 300), (22, [23, 20, 22], [1], 0), (90, [23], [], -1), (91, [23], [], 9999), (22, [22, 21, 7], [1], 0), (90, [22], [], 0), (91, [22], [], 1007), (20, [21, 3], [1], 83), (0, [21], [], 344), (20, [20, 3], [1], 26), (0, [20], [], 300), (40, [18, 19], [], 0), (0, [19], [], 1), (22, [18, 15, 17], [1], 0), (90, [18], [], 0), (91, [18], [], 5), (22, [17, 16, 8], [1], 0), (90, [17], [], 0), (91, [17], [], 1007), (20, [16, 3], [1], 83), (0, [16], [], 344), (20, [15, 3], [1], 24), (0, [15], [], 298), (40, [13, 14], [], 0), (0, [14], [], 1), (22, [13, 10, 12], [1], 0), (90, [13], [], 0), (91, [13], [], 5), (22, [12, 11, 7], [1], 0), (90, [12], [], 0), (91, [12], [], 1007), (20, [11, 3], [1], 83), (0, [11], [], 344), (20, [10, 3], [1], 24), (0, [10], [], 298), (42, [8, 9], [], 0), (20, [9, 3], [1], 82), (90, [9], [], 0), (91, [9], [], 40), (5000, [0, 1, 2, 3, 4, 5, 6, 7, 8], [0, 1], 39), (0, [0], [], 285), (90, [1], [], -2147483648), (91, [1], [], 2147483647), (90, [2], [], -2147483648), (91, [2], [], 2147483647), (0, [3], [], 285), (90, [4], [], -2147483648), (91, [4], [], 2147483647), (90, [5], [], -2147483648), (91, [5], [], 2147483647), (90, [6], [], -2147483648), (91, [6], [], 2147483647), (90, [7], [], 0), (91, [7], [], 39), (90, [8], [], 0), (91, [8], [], 40)], (2271, [3, 8], [3], 0)),
  ([(40, [8, 7], [], 0), (40, [23, 27], [], 0), (22, [27, 24, 26], [1], 0), (90, [27], [], -1), (91, [27], [], 9999), (22, [26, 25, 8], [1], 0), (90, [26], [], 0), (91, [26], [], 1007), (20, [25, 3], [1], 83), (0, [25], [], 344), (20, [24, 3], [1], 26), (0, [24], [], 300), (22, [23, 20, 22], [1], 0), (90, [23], [], -1), (91, [23], [], 9999), (22, [22, 21, 7], [1], 0), (90, [22], [], 0), (91, [22], [], 1007), (20, [21, 3], [1], 83), (0, [21], [], 344), (20, [20, 3], [1], 26), (0, [20], [], 300), (40, [18, 19], [], 0), (0, [19], [], 1), (22, [18, 15, 17], [1], 0), (90, [18], [], 0), (91, [18], [], 5), (22, [17, 16, 8], [1], 0), (90, [17], [], 0), (91, [17], [], 1007), (20, [16, 3], [1], 83), (0, [16], [], 344), (20, [15, 3], [1], 24), (0, [15], [], 298), (40, [13, 14], [], 0), (0, [14], [], 1), (22, [13, 10, 12], [1], 0), (90, [13], [], 0), (91, [13], [], 5), (22, [12, 11, 7], [1], 0), (90, [12], [], 0), (91, [12], [], 1007), (20, [11, 3], [1], 83), (0, [11], [], 344), (20, [10, 3], [1], 24), (0, [10], [], 298), (42, [8, 9], [], 0), (20, [9, 3], [1], 82), (90, [9], [], 0), (91, [9], [], 40), (5000, [0, 1, 2, 3, 4, 5, 6, 7, 8], [0, 1], 39), (0, [0], [], 285), (90, [1], [], -2147483648), (91, [1], [], 2147483647), (90, [2], [], -2147483648), (91, [2], [], 2147483647), (0, [3], [], 285), (90, [4], [], -2147483648), (91, [4], [], 2147483647), (90, [5], [], -2147483648), (91, [5], [], 2147483647), (90, [6], [], -2147483648), (91, [6], [], 2147483647), (90, [7], [], 0), (91, [7], [], 39), (90, [8], [], 0), (91, [8], [], 40)], (91, [8], [], 39)),
  ([(1271, [30, 3, 8], [3, 4], 0), (90, [30], [], -10999), (91, [30], [], 10999), (40, [8, 7], [], 0), (42, [28, 29], [], 0), (1271, [29, 3, 7], [2, 3], 0), (90, [29], [], -10999), (91, [29], [], 10999), (1271, [28, 3, 8], [1, 2], 0), (90, [28], [], -10999), (91, [28], [], 10999), (40, [23, 27], [], 0), (22, [27, 24, 26], [1], 0), (90, [27], [], -1), (91, [27], [], 9999), (22, [26, 25, 8], [1], 0), (90, [26], [], 0), (91, [26], [], 1007), (20, [25, 3], [1], 83), (0, [25], [], 344), (20, [24, 3], [1], 26), (0, [24], [], 300), (22, [23, 20, 22], [1], 0), (90, [23], [], -1), (91, [23], [], 9999), (22, [22, 21, 7], [1], 0), (90, [22], [], 0), (91, [22], [], 1007), (20, [21, 3], [1], 83), (0, [21], [], 344), (20, [20, 3], [1], 26), (0, [20], [], 300), (40, [18, 19], [], 0), (0, [19], [], 1), (22, [18, 15, 17], [1], 0), (90, [18], [], 0), (91, [18], [], 5), (22, [17, 16, 8], [1], 0), (90, [17], [], 0), (91, [17], [], 1007), (20, [16, 3], [1], 83), (0, [16], [], 344), (20, [15, 3], [1], 24), (0, [15], [], 298), (40, [13, 14], [], 0), (0, [14], [], 1), (22, [13, 10, 12], [1], 0), (90, [13], [], 0), (91, [13], [], 5), (22, [12, 11, 7], [1], 0), (90, [12], [], 0), (91, [12], [], 1007), (20, [11, 3], [1], 83), (0, [11], [], 344), (20, [10, 3], [1], 24), (0, [10], [], 298), (42, [8, 9], [], 0), (20, [9, 3], [1], 82), (90, [9], [], 0), (91, [9], [], 40), (5000, [0, 1, 2, 3, 4, 5, 6, 7, 8], [0, 1], 39), (0, [0], [], 285), (90, [1], [], -2147483648), (91, [1], [], 2147483647), (90, [2], [], -2147483648), (91, [2], [], 2147483647), (0, [3], [], 285), (90, [4], [], -2147483648), (91, [4], [], 2147483647), (90, [5], [], -2147483648), (91, [5], [], 2147483647), (90, [6], [], -2147483648), (91, [6], [], 2147483647), (90, [7], [], 0), (91, [7], [], 39), (90, [8], [], 0), (91, [8], [], 40)], (2272, [3, 8], [4], 0)),
  ([(10, [33, 8], [], 1), (10, [32, 6], [], -1), (31, [6], [], 0), (40, [8, 7], [], 0), (40, [23, 27], [], 0), (22, [27, 24, 26], [1], 0), (90, [27], [], -1), (91, [27], [], 9999), (22, [26, 25, 8], [1], 0), (90, [26], [], 0), (91, [26], [], 1007), (20, [25, 3], [1], 83), (0, [25], [], 344), (20, [24, 3], [1], 26), (0, [24], [], 300), (22, [23, 20, 22], [1], 0), (90, [23], [], -1), (91, [23], [], 9999), (22, [22, 21, 7], [1], 0), (90, [22], [], 0), (91, [22], [], 1007), (20, [21, 3], [1], 83), (0, [21], [], 344), (20, [20, 3], [1], 26), (0, [20], [], 300), (40, [18, 19], [], 0), (0, [19], [], 1), (22, [18, 15, 17], [1], 0), (90, [18], [], 0), (91, [18], [], 5), (22, [17, 16, 8], [1], 0), (90, [17], [], 0), (91, [17], [], 1007), (20, [16, 3], [1], 83), (0, [16], [], 344), (20, [15, 3], [1], 24), (0, [15], [], 298), (40, [13, 14], [], 0), (0, [14], [], 1), (22, [13, 10, 12], [1], 0), (90, [13], [], 0), (91, [13], [], 5), (22, [12, 11, 7], [1], 0), (90, [12], [], 0), (91, [12], [], 1007), (20, [11, 3], [1], 83), (0, [11], [], 344), (20, [10, 3], [1], 24), (0, [10], [], 298), (42, [8, 9], [], 0), (20, [9, 3], [1], 82), (90, [9], [], 0), (91, [9], [], 40), (5000, [0, 1, 2, 3, 4, 5, 6, 7, 8], [0, 1], 39), (0, [0], [], 285), (90, [1], [], -2147483648), (91, [1], [], 2147483647), (90, [2], [], -2147483648), (91, [2], [], 2147483647), (0, [3], [], 285), (90, [4], [], -2147483648), (91, [4], [], 2147483647), (90, [5], [], -2147483648), (91, [5], [], 2147483647), (90, [6], [], -2147483648), (91, [6], [], 2147483647), (90, [7], [], 0), (91, [7], [], 39), (90, [8], [], 0), (91, [8], [], 40)], (90, [33], [], 0)),
  ([(10, [33, 8], [], 1), (10, [32, 6], [], -1), (31, [6], [], 0), (40, [8, 7], [], 0), (40, [23, 27], [], 0), (22, [27, 24, 26], [1], 0), (90, [27], [], -1), (91, [27], [], 9999), (22, [26, 25, 8], [1], 0), (90, [26], [], 0), (91, [26], [], 1007), (20, [25, 3], [1], 83), (0, [25], [], 344), (20, [24, 3], [1], 26), (0, [24], [], 300), (22, [23, 20, 22], [1], 0), (90, [23], [], -1), (91, [23], [], 9999), (22, [22, 21, 7], [1], 0), (90, [22], [], 0), (91, [22], [], 1007), (20, [21, 3], [1], 83), (0, [21], [], 344), (20, [20, 3], [1], 26), (0, [20], [], 300), (40, [18, 19], [], 0), (0, [19], [], 1), (22, [18, 15, 17], [1], 0), (90, [18], [], 0), (91, [18], [], 5), (22, [17, 16, 8], [1], 0), (90, [17], [], 0), (91, [17], [], 1007), (20, [16, 3], [1], 83), (0, [16], [], 344), (20, [15, 3], [1], 24), (0, [15], [], 298), (40, [13, 14], [], 0), (0, [14], [], 1), (22, [13, 10, 12], [1], 0), (90, [13], [], 0), (91, [13], [], 5), (22, [12, 11, 7], [1], 0), (90, [12], [], 0), (91, [12], [], 1007), (20, [11, 3], [1], 83), (0, [11], [], 344), (20, [10, 3], [1], 24), (0, [10], [], 298), (42, [8, 9], [], 0), (20, [9, 3], [1], 82), (90, [9], [], 0), (91, [9], [], 40), (5000, [0, 1, 2, 3, 4, 5, 6, 7, 8], [0, 1], 39), (0, [0], [], 285), (90, [1], [], -2147483648), (91, [1], [], 2147483647), (90, [2], [], -2147483648), (91, [2], [], 2147483647), (0, [3], [], 285), (90, [4], [], -2147483648), (91, [4], [], 2147483647), (90, [5], [], -2147483648), (91, [5], [], 2147483647), (90, [6], [], -2147483648), (91, [6], [], 2147483647), (90, [7], [], 0), (91, [7], [], 39), (90, [8], [], 0), (91, [8], [], 40)], (91, [33], [], 40)),
  ([(10, [33, 8], [], 1), (10, [32, 6], [], -1), (31, [6], [], 0), (42, [30, 31], [], 0), (1272, [31, 3, 8], [4, 5], 0), (90, [31], [], -10999), (91, [31], [], 10999), (1271, [30, 3, 8], [3, 4], 0), (90, [30], [], -10999), (91, [30], [], 10999), (40, [8, 7], [], 0), (42, [28, 29], [], 0), (1271, [29, 3, 7], [2, 3], 0), (90, [29], [], -10999), (91, [29], [], 10999), (1271, [28, 3, 8], [1, 2], 0), (90, [28], [], -10999), (91, [28], [], 10999), (40, [23, 27], [], 0), (22, [27, 24, 26], [1], 0), (90, [27], [], -1), (91, [27], [], 9999), (22, [26, 25, 8], [1], 0), (90, [26], [], 0), (91, [26], [], 1007), (20, [25, 3], [1], 83), (0, [25], [], 344), (20, [24, 3], [1], 26), (0, [24], [], 300), (22, [23, 20, 22], [1], 0), (90, [23], [], -1), (91, [23], [], 9999), (22, [22, 21, 7], [1], 0), (90, [22], [], 0), (91, [22], [], 1007), (20, [21, 3], [1], 83), (0, [21], [], 344), (20, [20, 3], [1], 26), (0, [20], [], 300), (40, [18, 19], [], 0), (0, [19], [], 1), (22, [18, 15, 17], [1], 0), (90, [18], [], 0), (91, [18], [], 5), (22, [17, 16, 8], [1], 0), (90, [17], [], 0), (91, [17], [], 1007), (20, [16, 3], [1], 83), (0, [16], [], 344), (20, [15, 3], [1], 24), (0, [15], [], 298), (40, [13, 14], [], 0), (0, [14], [], 1), (22, [13, 10, 12], [1], 0), (90, [13], [], 0), (91, [13], [], 5), (22, [12, 11, 7], [1], 0), (90, [12], [], 0), (91, [12], [], 1007), (20, [11, 3], [1], 83), (0, [11], [], 344), (20, [10, 3], [1], 24), (0, [10], [], 298), (42, [8, 9], [], 0), (20, [9, 3], [1], 82), (90, [9], [], 0), (91, [9], [], 40), (5000, [0, 1, 2, 3, 4, 5, 6, 7, 8], [0, 1], 39), (0, [0], [], 285), (90, [1], [], -2147483648), (91, [1], [], 2147483647), (90, [2], [], -2147483648), (91, [2], [], 2147483647), (0, [3], [], 285), (90, [4], [], -2147483648), (91, [4], [], 2147483647), (90, [5], [], -2147483648), (91, [5], [], 2147483647), (90, [6], [], -2147483648), (91, [6], [], 2147483647), (90, [7], [], 0), (91, [7], [], 39), (90, [8], [], 0), (91, [8], [], 40)], (4000, [3, 4, 5, 32, 7, 33], [5], 39)),
  ([(10, [32, 8], [], 1), (40, [8, 7], [], 0), (40, [23, 27], [], 0), (22, [27, 24, 26], [1], 0), (90, [27], [], -1), (91, [27], [], 9999), (22, [26, 25, 8], [1], 0), (90, [26], [], 0), (91, [26], [], 1007), (20, [25, 3], [1], 83), (0, [25], [], 344), (20, [24, 3], [1], 26), (0, [24], [], 300), (22, [23, 20, 22], [1], 0), (90, [23], [], -1), (91, [23], [], 9999), (22, [22, 21, 7], [1], 0), (90, [22], [], 0), (91, [22], [], 1007), (20, [21, 3], [1], 83), (0, [21], [], 344), (20, [20, 3], [1], 26), (0, [20], [], 300), (40, [18, 19], [], 0), (0, [19], [], 1), (22, [18, 15, 17], [1], 0), (90, [18], [], 0), (91, [18], [], 5), (22, [17, 16, 8], [1], 0), (90, [17], [], 0), (91, [17], [], 1007), (20, [16, 3], [1], 83), (0, [16], [], 344), (20, [15, 3], [1], 24), (0, [15], [], 298), (40, [13, 14], [], 0), (0, [14], [], 1), (22, [13, 10, 12], [1], 0), (90, [13], [], 0), (91, [13], [], 5), (22, [12, 11, 7], [1], 0), (90, [12], [], 0), (91, [12], [], 1007), (20, [11, 3], [1], 83), (0, [11], [], 344), (20, [10, 3], [1], 24), (0, [10], [], 298), (42, [8, 9], [], 0), (20, [9, 3], [1], 82), (90, [9], [], 0), (91, [9], [], 40), (5000, [0, 1, 2, 3, 4, 5, 6, 7, 8], [0, 1], 39), (0, [0], [], 285), (90, [1], [], -2147483648), (91, [1], [], 2147483647), (90, [2], [], -2147483648), (91, [2], [], 2147483647), (0, [3], [], 285), (90, [4], [], -2147483648), (91, [4], [], 2147483647), (90, [5], [], -2147483648), (91, [5], [], 2147483647), (90, [6], [], -2147483648), (91, [6], [], 2147483647), (90, [7], [], 0), (91, [7], [], 39), (90, [8], [], 0), (91, [8], [], 40)], (90, [32], [], 0)),
  ([(10, [32, 8], [], 1), (40, [8, 7], [], 0), (40, [23, 27], [], 0), (22, [27, 24, 26], [1], 0), (90, [27], [], -1), (91, [27], [], 9999), (22, [26, 25, 8], [1], 0), (90, [26], [], 0), (91, [26], [], 1007), (20, [25, 3], [1], 83), (0, [25], [], 344), (20, [24, 3], [1], 26), (0, [24], [], 300), (22, [23, 20, 22], [1], 0), (90, [23], [], -1), (91, [23], [], 9999), (22, [22, 21, 7], [1], 0), (90, [22], [], 0), (91, [22], [], 1007), (20, [21, 3], [1], 83), (0, [21], [], 344), (20, [20, 3], [1], 26), (0, [20], [], 300), (40, [18, 19], [], 0), (0, [19], [], 1), (22, [18, 15, 17], [1], 0), (90, [18], [], 0), (91, [18], [], 5), (22, [17, 16, 8], [1], 0), (90, [17], [], 0), (91, [17], [], 1007), (20, [16, 3], [1], 83), (0, [16], [], 344), (20, [15, 3], [1], 24), (0, [15], [], 298), (40, [13, 14], [], 0), (0, [14], [], 1), (22, [13, 10, 12], [1], 0), (90, [13], [], 0), (91, [13], [], 5), (22, [12, 11, 7], [1], 0), (90, [12], [], 0), (91, [12], [], 1007), (20, [11, 3], [1], 83), (0, [11], [], 344), (20, [10, 3], [1], 24), (0, [10], [], 298), (42, [8, 9], [], 0), (20, [9, 3], [1], 82), (90, [9], [], 0), (91, [9], [], 40), (5000, [0, 1, 2, 3, 4, 5, 6, 7, 8], [0, 1], 39), (0, [0], [], 285), (90, [1], [], -2147483648), (91, [1], [], 2147483647), (90, [2], [], -2147483648), (91, [2], [], 2147483647), (0, [3], [], 285), (90, [4], [], -2147483648), (91, [4], [], 2147483647), (90, [5], [], -2147483648), (91, [5], [], 2147483647), (90, [6], [], -2147483648), (91, [6], [], 2147483647), (90, [7], [], 0), (91, [7], [], 39), (90, [8], [], 0), (91, [8], [], 40)], (91, [32], [], 40)),
  ([(10, [32, 8], [], 1), (43, [30, 31], [], 0), (1272, [31, 3, 8], [4, 5], 0), (90, [31], [], -10999), (91, [31], [], 10999), (1271, [30, 3, 8], [3, 4], 0), (90, [30], [], -10999), (91, [30], [], 10999), (40, [8, 7], [], 0), (42, [28, 29], [], 0), (1271, [29, 3, 7], [2, 3], 0), (90, [29], [], -10999), (91, [29], [], 10999), (1271, [28, 3, 8], [1, 2], 0), (90, [28], [], -10999), (91, [28], [], 10999), (40, [23, 27], [], 0), (22, [27, 24, 26], [1], 0), (90, [27], [], -1), (91, [27], [], 9999), (22, [26, 25, 8], [1], 0), (90, [26], [], 0), (91, [26], [], 1007), (20, [25, 3], [1], 83), (0, [25], [], 344), (20, [24, 3], [1], 26), (0, [24], [], 300), (22, [23, 20, 22], [1], 0), (90, [23], [], -1), (91, [23], [], 9999), (22, [22, 21, 7], [1], 0), (90, [22], [], 0), (91, [22], [], 1007), (20, [21, 3], [1], 83), (0, [21], [], 344), (20, [20, 3], [1], 26), (0, [20], [], 300), (40, [18, 19], [], 0), (0, [19], [], 1), (22, [18, 15, 17], [1], 0), (90, [18], [], 0), (91, [18], [], 5), (22, [17, 16, 8], [1], 0), (90, [17], [], 0), (91, [17], [], 1007), (20, [16, 3], [1], 83), (0, [16], [], 344), (20, [15, 3], [1], 24), (0, [15], [], 298), (40, [13, 14], [], 0), (0, [14], [], 1), (22, [13, 10, 12], [1], 0), (90, [13], [], 0), (91, [13], [], 5), (22, [12, 11, 7], [1], 0), (90, [12], [], 0), (91, [12], [], 1007), (20, [11, 3], [1], 83), (0, [11], [], 344), (20, [10, 3], [1], 24), (0, [10], [], 298), (42, [8, 9], [], 0), (20, [9, 3], [1], 82), (90, [9], [], 0), (91, [9], [], 40), (5000, [0, 1, 2, 3, 4, 5, 6, 7, 8], [0, 1], 39), (0, [0], [], 285), (90, [1], [], -2147483648), (91, [1], [], 2147483647), (90, [2], [], -2147483648), (91, [2], [], 2147483647), (0, [3], [], 285), (90, [4], [], -2147483648), (91, [4], [], 2147483647), (90, [5], [], -2147483648), (91, [5], [], 2147483647), (90, [6], [], -2147483648), (91, [6], [], 2147483647), (90, [7], [], 0), (91, [7], [], 39), (90, [8], [], 0), (91, [8], [], 40)], (4000, [3, 4, 5, 6, 7, 32], [5], 39)),
  ([(10, [28, 8], [], 1), (41, [23, 27], [], 0), (22, [27, 24, 26], [1], 0), (90, [27], [], -1), (91, [27], [], 9999), (22, [26, 25, 8], [1], 0), (90, [26], [], 0), (91, [26], [], 1007), (20, [25, 3], [1], 83), (0, [25], [], 344), (20, [24, 3], [1], 26), (0, [24], [], 300), (22, [23, 20, 22], [1], 0), (90, [23], [], -1), (91, [23], [], 9999), (22, [22, 21, 7], [1], 0), (90, [22], [], 0), (91, [22], [], 1007), (20, [21, 3], [1], 83), (0, [21], [], 344), (20, [20, 3], [1], 26), (0, [20], [], 300), (40, [18, 19], [], 0), (0, [19], [], 1), (22, [18, 15, 17], [1], 0), (90, [18], [], 0), (91, [18], [], 5), (22, [17, 16, 8], [1], 0), (90, [17], [], 0), (91, [17], [], 1007), (20, [16, 3], [1], 83), (0, [16], [], 344), (20, [15, 3], [1], 24), (0, [15], [], 298), (40, [13, 14], [], 0), (0, [14], [], 1), (22, [13, 10, 12], [1], 0), (90, [13], [], 0), (91, [13], [], 5), (22, [12, 11, 7], [1], 0), (90, [12], [], 0), (91, [12], [], 1007), (20, [11, 3], [1], 83), (0, [11], [], 344), (20, [10, 3], [1], 24), (0, [10], [], 298), (42, [8, 9], [], 0), (20, [9, 3], [1], 82), (90, [9], [], 0), (91, [9], [], 40), (5000, [0, 1, 2, 3, 4, 5, 6, 7, 8], [0, 1], 39), (0, [0], [], 285), (90, [1], [], -2147483648), (91, [1], [], 2147483647), (90, [2], [], -2147483648), (91, [2], [], 2147483647), (0, [3], [], 285), (90, [4], [], -2147483648), (91, [4], [], 2147483647), (90, [5], [], -2147483648), (91, [5], [], 2147483647), (90, [6], [], -2147483648), (91, [6], [], 2147483647), (90, [7], [], 0), (91, [7], [], 39), (90, [8], [], 0), (91, [8], [], 40)], (90, [28], [], 0)),
  ([(10, [28, 8], [], 1), (41, [23, 27], [], 0), (22, [27, 24, 26], [1], 0), (90, [27], [], -1), (91, [27], [], 9999), (22, [26, 25, 8], [1], 0), (90, [26], [], 0), (91, [26], [], 1007), (20, [25, 3], [1], 83), (0, [25], [], 344), (20, [24, 3], [1], 26), (0, [24], [], 300), (22, [23, 20, 22], [1], 0), (90, [23], [], -1), (91, [23], [], 9999), (22, [22, 21, 7], [1], 0), (90, [22], [], 0), (91, [22], [], 1007), (20, [21, 3], [1], 83), (0, [21], [], 344), (20, [20, 3], [1], 26), (0, [20], [], 300), (40, [18, 19], [], 0), (0, [19], [], 1), (22, [18, 15, 17], [1], 0), (90, [18], [], 0), (91, [18], [], 5), (22, [17, 16, 8], [1], 0), (90, [17], [], 0), (91, [17], [], 1007), (20, [16, 3], [1], 83), (0, [16], [], 344), (20, [15, 3], [1], 24), (0, [15], [], 298), (40, [13, 14], [], 0), (0, [14], [], 1), (22, [13, 10, 12], [1], 0), (90, [13], [], 0), (91, [13], [], 5), (22, [12, 11, 7], [1], 0), (90, [12], [], 0), (91, [12], [], 1007), (20, [11, 3], [1], 83), (0, [11], [], 344), (20, [10, 3], [1], 24), (0, [10], [], 298), (42, [8, 9], [], 0), (20, [9, 3], [1], 82), (90, [9], [], 0), (91, [9], [], 40), (5000, [0, 1, 2, 3, 4, 5, 6, 7, 8], [0, 1], 39), (0, [0], [], 285), (90, [1], [], -2147483648), (91, [1], [], 2147483647), (90, [2], [], -2147483648), (91, [2], [], 2147483647), (0, [3], [], 285), (90, [4], [], -2147483648), (91, [4], [], 2147483647), (90, [5], [], -2147483648), (91, [5], [], 2147483647), (90, [6], [], -2147483648), (91, [6], [], 2147483647), (90, [7], [], 0), (91, [7], [], 39), (90, [8], [], 0), (91, [8], [], 40)], (91, [28], [], 40)),
  ([(10, [28, 8], [], 1), (41, [23, 27], [], 0), (22, [27, 24, 26], [1], 0), (90, [27], [], -1), (91, [27], [], 9999), (22, [26, 25, 8], [1], 0), (90, [26], [], 0), (91, [26], [], 1007), (20, [25, 3], [1], 83), (0, [25], [], 344), (20, [24, 3], [1], 26), (0, [24], [], 300), (22, [23, 20, 22], [1], 0), (90, [23], [], -1), (91, [23], [], 9999), (22, [22, 21, 7], [1], 0), (90, [22], [], 0), (91, [22], [], 1007), (20, [21, 3], [1], 83), (0, [21], [], 344), (20, [20, 3], [1], 26), (0, [20], [], 300), (40, [18, 19], [], 0), (0, [19], [], 1), (22, [18, 15, 17], [1], 0), (90, [18], [], 0), (91, [18], [], 5), (22, [17, 16, 8], [1], 0), (90, [17], [], 0), (91, [17], [], 1007), (20, [16, 3], [1], 83), (0, [16], [], 344), (20, [15, 3], [1], 24), (0, [15], [], 298), (40, [13, 14], [], 0), (0, [14], [], 1), (22, [13, 10, 12], [1], 0), (90, [13], [], 0), (91, [13], [], 5), (22, [12, 11, 7], [1], 0), (90, [12], [], 0), (91, [12], [], 1007), (20, [11, 3], [1], 83), (0, [11], [], 344), (20, [10, 3], [1], 24), (0, [10], [], 298), (42, [8, 9], [], 0), (20, [9, 3], [1], 82), (90, [9], [], 0), (91, [9], [], 40), (5000, [0, 1, 2, 3, 4, 5, 6, 7, 8], [0, 1], 39), (0, [0], [], 285), (90, [1], [], -2147483648), (91, [1], [], 2147483647), (90, [2], [], -2147483648), (91, [2], [], 2147483647), (0, [3], [], 285), (90, [4], [], -2147483648), (91, [4], [], 2147483647), (90, [5], [], -2147483648), (91, [5], [], 2147483647), (90, [6], [], -2147483648), (91, [6], [], 2147483647), (90, [7], [], 0), (91, [7], [], 39), (90, [8], [], 0), (91, [8], [], 40)], (4000, [3, 4, 5, 6, 7, 28], [1], 39))]
theorem r_300_39 : vCovO true (eRc e_300 L_300 cs_300 2000 (39, [(0, (3, 12, 285, 0)), (1, (0, -2147483648, 2147483647, 0)), (2, (0, -2147483648, 2147483647, 0)), (3, (0, -2147483648, 2147483647, 0)), (4, (0, 0, 39, 0)), (5, (0, 0, 40, 0))])) p_300_39 = true := by decide +kernel
theorem m_300 (d : Nat) : eC e_300 (d + 3) := eC_ok (e := e_300) (L := L_300) (cs := cs_300) (n := 2000) (d := d + 2) (A := A_300) (μ := mu_300) (tp := true) (p0 := p_300_s) rfl ⟨m_270 d, ⟨m_271 d, ⟨m_272 d, ⟨m_282 (d + 1), trivial⟩⟩⟩⟩ rfl (.inl rfl) (by decide +kernel) (fun _ => post0_ok) r_300_s (allC c_300_s_0 (allC c_300_s_1 (allC c_300_s_2 (allC c_300_s_3 allN)))) (allC (.inl ⟨p_300_24, r_300_24, fun q0 => (allC c_300_24_0 (allC c_300_24_1 (allC c_300_24_2 (allC c_300_24_3 allN))))⟩) (allC (.inl ⟨p_300_39, r_300_39, fun q0 => (allC c_300_39_0 (allC c_300_39_1 (allC c_300_39_2 (allC c_300_39_3 (allC c_300_39_4 (allC c_300_39_5 (allC c_300_39_6 (allC c_300_39_7 (allC c_300_39_8 (allC c_300_39_9 (allC c_300_39_10 (allC c_300_39_11 (allC c_300_39_12 (allC c_300_39_13 (allC c_300_39_14 (allC c_300_39_15 (allC c_300_39_16 (allC c_300_39_17 (allC c_300_39_18 (allC c_300_39_19 (allC c_300_39_20 (allC c_300_39_21 (allC c_300_39_22 (allC c_300_39_23 (allC c_300_39_24 (allC c_300_39_25 (allC c_300_39_26 (allC c_300_39_27 (allC c_300_39_28 (allC c_300_39_29 (allC c_300_39_30 (allC c_300_39_31 (allC c_300_39_32 (allC c_300_39_33 (allC c_300_39_34 (allC c_300_39_35 (allC c_300_39_36 (allC c_300_39_37 (allC c_300_39_38 (allC c_300_39_39 (allC c_300_39_40 (allC c_300_39_41 (allC c_300_39_42 (allC c_300_39_43 (allC c_300_39_44 (allC c_300_39_45 (allC c_300_39_46 (allC c_300_39_47 (allC c_300_39_48 (allC c_300_39_49 (allC c_300_39_50 (allC c_300_39_51 (allC c_300_39_52 allN)))))))))))))))))))))))))))))))))))))))))))))))))))))⟩) allN))
