/-! CONTRACTS of methods (printed by wip/gen/emit.py). -/
/- MixStageModel.place ()I -/
noncomputable def s_222 : vM := ([(3, 12, 285, 0)], (0, -2147483648, 2147483647, 0), 0, 0, [])
noncomputable def e_222 : vE := (222, s_222, pre0, post0)
noncomputable def L_222 : List vE := []
def cs_222 : List vC := []
def A_222 : Int → List Int → gH → gH → Prop := fun c xs h0 h => True
def mu_222 : Int → List Int → gH → gH → Nat := fun c xs h0 h => 0
def p_222_s : List vG := []
theorem r_222_s : vCovO true (eR0 e_222 L_222 cs_222 2000) p_222_s = true := by decide +kernel
theorem m_222 (d : Nat) : eC e_222 (d + 1) := eC_ok (e := e_222) (L := L_222) (cs := cs_222) (n := 2000) (d := d + 0) (A := A_222) (μ := mu_222) (tp := true) (p0 := p_222_s) rfl trivial rfl (.inr pre0_ok) (by decide +kernel) (fun _ => post0_ok) r_222_s allN allN
/- MixStageModel.loudOf (II)J -/
noncomputable def s_301 : vM := ([(3, 12, 285, 0), (0, 0, 240, 0), (0, 0, 9999, 0)], (1, 0, 0, 0), 0, 0, [])
noncomputable def e_301 : vE := (301, s_301, pre0, post0)
noncomputable def L_301 : List vE := []
def cs_301 : List vC := [(7, [(0, (3, 12, 285, 0)), (1, (0, 0, 240, 0)), (2, (0, 0, 9999, 0)), (3, (1, 0, 0, 0)), (5, (0, 0, 2147483647, 0))]), (24, [(0, (3, 12, 285, 0)), (1, (0, 0, 240, 0)), (2, (0, 0, 9999, 0)), (3, (1, 0, 0, 0)), (5, (0, 0, 240, 0)), (6, (1, 0, 0, 0)), (8, (0, 0, 240, 0))]), (106, [(0, (3, 12, 285, 0)), (1, (0, 0, 240, 0)), (2, (0, 0, 9999, 0)), (3, (1, 0, 0, 0)), (5, (1, 0, 0, 0)), (7, (0, 0, 240, 0))])]
def Ab_301_7 (a0 a1 a2 x0 x1 x2 x3 x5 : Int) (h0 h : gH) : Prop := x1 = a1 ∧ x2 = a2 ∧ x5 ≤ a1 + 4
def mub_301_7 (a0 a1 a2 x0 x1 x2 x3 x5 : Int) (h0 h : gH) : Nat := (17179869184 + (2147483648 - x5).toNat) * 1099511627776 + 1099511627775
def Ab_301_24 (a0 a1 a2 x0 x1 x2 x3 x5 x6 x8 : Int) (h0 h : gH) : Prop := x1 = a1 ∧ x2 = a2 ∧ x5 + 4 * a2 ≤ a1 ∧ x8 ≤ a1
def mub_301_24 (a0 a1 a2 x0 x1 x2 x3 x5 x6 x8 : Int) (h0 h : gH) : Nat := (17179869184 + (2147483648 - x5).toNat) * 1099511627776 + (8589934592 + (2147483648 - x8).toNat) * 1
def Ab_301_106 (a0 a1 a2 x0 x1 x2 x3 x5 x7 : Int) (h0 h : gH) : Prop := x1 = a1 ∧ x2 = a2 ∧ True
def mub_301_106 (a0 a1 a2 x0 x1 x2 x3 x5 x7 : Int) (h0 h : gH) : Nat := (8589934592 + (2147483648 - x7).toNat) * 1099511627776 + 1099511627775
def A_301 : Int → List Int → gH → gH → Prop := fun c xs h0 h => match c.toNat with
  | 7 => (match xs with
    | [a0, a1, a2, x0, x1, x2, x3, x5] => Ab_301_7 a0 a1 a2 x0 x1 x2 x3 x5 h0 h
    | _ => False)
  | 24 => (match xs with
    | [a0, a1, a2, x0, x1, x2, x3, x5, x6, x8] => Ab_301_24 a0 a1 a2 x0 x1 x2 x3 x5 x6 x8 h0 h
    | _ => False)
  | 106 => (match xs with
    | [a0, a1, a2, x0, x1, x2, x3, x5, x7] => Ab_301_106 a0 a1 a2 x0 x1 x2 x3 x5 x7 h0 h
    | _ => False)
  | _ => True
def mu_301 : Int → List Int → gH → gH → Nat := fun c xs h0 h => match c.toNat with
  | 7 => (match xs with
    | [a0, a1, a2, x0, x1, x2, x3, x5] => mub_301_7 a0 a1 a2 x0 x1 x2 x3 x5 h0 h
    | _ => 0)
  | 24 => (match xs with
    | [a0, a1, a2, x0, x1, x2, x3, x5, x6, x8] => mub_301_24 a0 a1 a2 x0 x1 x2 x3 x5 x6 x8 h0 h
    | _ => 0)
  | 106 => (match xs with
    | [a0, a1, a2, x0, x1, x2, x3, x5, x7] => mub_301_106 a0 a1 a2 x0 x1 x2 x3 x5 x7 h0 h
    | _ => 0)
  | _ => 0
theorem q_301_0 {n0 n1 n2 n3 n4 : Int} {H0 : gH} (f0 : 0 ≤ n0) (f1 : n1 = 285) (f2 : n2 = (-1)) (f3 : n3 = 0) : Ab_301_7 n1 n0 n4 n1 n0 n4 n2 n3 H0 H0 ∧ ∀ q, none = some q → mub_301_7 n1 n0 n4 n1 n0 n4 n2 n3 H0 H0 < q := by
  unfold Ab_301_7
  refine ⟨?_, fun q hq => ?_⟩
  · refine ⟨?_, ?_, ?_⟩ <;> first | assumption | omega | trivial
  · exact nomatch hq
def g_301_s_0 : vG := ([(0, [4], [], 0), (0, [3], [], -1), (0, [0], [], 285), (90, [1], [], 0)], (4000, [0, 1, 2, 3, 4], [0], 7))
theorem c_301_s_0 : vOkm T0 (eP e_301 L_301 A_301 mu_301 none) 3 g_301_s_0 := vOk_in fun ρ η h => by
  obtain ⟨f0, f1, f2, f3, _⟩ := h
  exact q_301_0 (n0 := ρ 1) (n1 := ρ 0) (n2 := ρ 3) (n3 := ρ 4) (n4 := ρ 2) (H0 := η 0) f3 f2 f1 f0
def p_301_s : List vG := [g_301_s_0]
theorem r_301_s : vCovO true (eR0 e_301 L_301 cs_301 2000) p_301_s = true := by decide +kernel
theorem q_301_1 {q0 : Nat} {n0 n1 n2 n3 n4 n5 n6 n7 n8 n9 n10 n11 n12 : Int} {H0 H1 : gH} (f0 : n0 ≤ 2147483647) (f1 : 0 ≤ n0) (f2 : n1 ≤ 9999) (f3 : 0 ≤ n1) (f4 : n2 ≤ 240) (f5 : 0 ≤ n2) (f6 : n3 = 285) (f7 : n4 ≤ 9999) (f8 : 0 ≤ n4) (f9 : n5 ≤ 240) (f10 : 0 ≤ n5) (f11 : n6 = 285) (f12 : (hLe T0 H0 H1 ∧ hFr s_301.2.2.2.2 H0 H1 ∧ hWt T0 H1) ∧ (Ab_301_7 n6 n5 n4 n3 n2 n1 n7 n0 H0 H1 ∧ True) ∧ some q0 = some (mub_301_7 n6 n5 n4 n3 n2 n1 n7 n0 H0 H1)) (f13 : n8 = 4) (f14 : n9 = w32 (n8 * n1)) (f15 : n10 = w32 (n0 + n9)) (f16 : n2 < n10) (f17 : n11 = 0) (f18 : n12 = 0) : Ab_301_106 n6 n5 n4 n3 n2 n1 n7 n11 n12 H0 H1 ∧ ∀ q, some q0 = some q → mub_301_106 n6 n5 n4 n3 n2 n1 n7 n11 n12 H0 H1 < q := by
  have g4 := f12.2.1.1
  unfold Ab_301_7 at g4
  have g5 := Option.some.inj f12.2.2
  unfold mub_301_7 at g5
  unfold Ab_301_106
  unfold mub_301_106
  have k0 := g4.1
  have k1 := g4.2.1
  have y0 := g4.2.2
  clear g4
  clear f12
  rw [f13] at f14
  unfold w32 at *
  try subst k1
  try subst k0
  refine ⟨?_, fun q hq => ?_⟩
  · refine ⟨?_, ?_, ?_⟩ <;> first | assumption | omega | trivial
  · have g6 := Option.some.inj hq
    subst g6
    omega
def g_301_7_0 : vG := ([(0, [14], [], 0), (0, [13], [], 0), (44, [10, 4], [], 0), (1, [10, 7, 9], [], 0), (3, [9, 8, 5], [], 0), (0, [8], [], 4), (5000, [0, 1, 2, 3, 4, 5, 6, 7], [0, 1], 7), (0, [0], [], 285), (90, [1], [], 0), (91, [1], [], 240), (90, [2], [], 0), (91, [2], [], 9999), (0, [3], [], 285), (90, [4], [], 0), (91, [4], [], 240), (90, [5], [], 0), (91, [5], [], 9999), (90, [7], [], 0), (91, [7], [], 2147483647)], (4000, [3, 4, 5, 6, 13, 14], [1], 106))
theorem c_301_7_0 {q0 : Nat} : vOkm T0 (eP e_301 L_301 A_301 mu_301 (some q0)) 3 g_301_7_0 := vOk_in fun ρ η h => by
  obtain ⟨f0, f1, f2, f3, f4, f5, f6, f7, f8, f9, f10, f11, f12, f13, f14, f15, f16, f17, f18, _⟩ := h
  exact q_301_1 (q0 := q0) (n0 := ρ 7) (n1 := ρ 5) (n2 := ρ 4) (n3 := ρ 3) (n4 := ρ 2) (n5 := ρ 1) (n6 := ρ 0) (n7 := ρ 6) (n8 := ρ 8) (n9 := ρ 9) (n10 := ρ 10) (n11 := ρ 13) (n12 := ρ 14) (H0 := η 0) (H1 := η 1) f18 f17 f16 f15 f14 f13 f12 f11 f10 f9 f8 f7 f6 f5 f4 f3 f2 f1 f0
theorem q_301_2 {q0 : Nat} {n0 n1 n2 n3 n4 n5 : Int} {H0 : gH} (f0 : 0 ≤ n0) (f1 : 0 ≤ n1) (f2 : n2 ≤ 240) (f3 : n3 = 4) (f4 : n4 = w32 (n3 * n1)) (f5 : n5 = w32 (n0 + n4)) (f6 : n5 ≤ n2) : n0 ≤ 240 := by
  rw [f3] at f4
  unfold w32 at *
  omega
def g_301_7_1 : vG := ([(45, [10, 4], [], 0), (1, [10, 7, 9], [], 0), (3, [9, 8, 5], [], 0), (0, [8], [], 4), (91, [4], [], 240), (90, [5], [], 0), (90, [7], [], 0)], (91, [7], [], 240))
theorem c_301_7_1 {q0 : Nat} : vOkm T0 (eP e_301 L_301 A_301 mu_301 (some q0)) 3 g_301_7_1 := vOk_in fun ρ η h => by
  obtain ⟨f0, f1, f2, f3, f4, f5, f6, _⟩ := h
  exact q_301_2 (q0 := q0) (n0 := ρ 7) (n1 := ρ 5) (n2 := ρ 4) (n3 := ρ 8) (n4 := ρ 9) (n5 := ρ 10) (H0 := η 0) f6 f5 f4 f3 f2 f1 f0
def g_301_7_2 : vG := ([(45, [10, 4], [], 0), (1, [10, 7, 9], [], 0), (3, [9, 8, 5], [], 0), (0, [8], [], 4), (91, [4], [], 240), (90, [5], [], 0), (90, [7], [], 0)], (91, [7], [], 240))
theorem c_301_7_2 {q0 : Nat} : vOkm T0 (eP e_301 L_301 A_301 mu_301 (some q0)) 3 g_301_7_2 := vOk_in fun ρ η h => by
  obtain ⟨f0, f1, f2, f3, f4, f5, f6, _⟩ := h
  exact q_301_2 (q0 := q0) (n0 := ρ 7) (n1 := ρ 5) (n2 := ρ 4) (n3 := ρ 8) (n4 := ρ 9) (n5 := ρ 10) (H0 := η 0) f6 f5 f4 f3 f2 f1 f0
theorem q_301_3 {q0 : Nat} {n0 n1 n2 n3 n4 n5 n6 n7 n8 n9 n10 n11 : Int} {H0 H1 : gH} (f0 : n0 ≤ 2147483647) (f1 : 0 ≤ n0) (f2 : n1 ≤ 9999) (f3 : 0 ≤ n1) (f4 : n2 ≤ 240) (f5 : 0 ≤ n2) (f6 : n3 = 285) (f7 : n4 ≤ 9999) (f8 : 0 ≤ n4) (f9 : n5 ≤ 240) (f10 : 0 ≤ n5) (f11 : n6 = 285) (f12 : (hLe T0 H0 H1 ∧ hFr s_301.2.2.2.2 H0 H1 ∧ hWt T0 H1) ∧ (Ab_301_7 n6 n5 n4 n3 n2 n1 n7 n0 H0 H1 ∧ True) ∧ some q0 = some (mub_301_7 n6 n5 n4 n3 n2 n1 n7 n0 H0 H1)) (f13 : n8 = 4) (f14 : n9 = w32 (n8 * n1)) (f15 : n10 = w32 (n0 + n9)) (f16 : n10 ≤ n2) (f17 : n11 = 0) : Ab_301_24 n6 n5 n4 n3 n2 n1 n7 n0 n11 n0 H0 H1 ∧ ∀ q, some q0 = some q → mub_301_24 n6 n5 n4 n3 n2 n1 n7 n0 n11 n0 H0 H1 < q := by
  have g4 := f12.2.1.1
  unfold Ab_301_7 at g4
  have g5 := Option.some.inj f12.2.2
  unfold mub_301_7 at g5
  unfold Ab_301_24
  unfold mub_301_24
  have k0 := g4.1
  have k1 := g4.2.1
  have y0 := g4.2.2
  clear g4
  clear f12
  rw [f13] at f14
  unfold w32 at *
  try subst k1
  try subst k0
  refine ⟨?_, fun q hq => ?_⟩
  · refine ⟨?_, ?_, ?_, ?_⟩ <;> first | assumption | omega | trivial
  · have g6 := Option.some.inj hq
    subst g6
    omega
def g_301_7_3 : vG := ([(0, [11], [], 0), (45, [10, 4], [], 0), (1, [10, 7, 9], [], 0), (3, [9, 8, 5], [], 0), (0, [8], [], 4), (5000, [0, 1, 2, 3, 4, 5, 6, 7], [0, 1], 7), (0, [0], [], 285), (90, [1], [], 0), (91, [1], [], 240), (90, [2], [], 0), (91, [2], [], 9999), (0, [3], [], 285), (90, [4], [], 0), (91, [4], [], 240), (90, [5], [], 0), (91, [5], [], 9999), (90, [7], [], 0), (91, [7], [], 2147483647)], (4000, [3, 4, 5, 6, 7, 11, 7], [1], 24))
theorem c_301_7_3 {q0 : Nat} : vOkm T0 (eP e_301 L_301 A_301 mu_301 (some q0)) 3 g_301_7_3 := vOk_in fun ρ η h => by
  obtain ⟨f0, f1, f2, f3, f4, f5, f6, f7, f8, f9, f10, f11, f12, f13, f14, f15, f16, f17, _⟩ := h
  exact q_301_3 (q0 := q0) (n0 := ρ 7) (n1 := ρ 5) (n2 := ρ 4) (n3 := ρ 3) (n4 := ρ 2) (n5 := ρ 1) (n6 := ρ 0) (n7 := ρ 6) (n8 := ρ 8) (n9 := ρ 9) (n10 := ρ 10) (n11 := ρ 11) (H0 := η 0) (H1 := η 1) f17 f16 f15 f14 f13 f12 f11 f10 f9 f8 f7 f6 f5 f4 f3 f2 f1 f0
def p_301_7 : List vG := [g_301_7_0,
  g_301_7_1,
  g_301_7_2,
  g_301_7_3]
theorem r_301_7 : vCovO true (eRc e_301 L_301 cs_301 2000 (7, [(0, (3, 12, 285, 0)), (1, (0, 0, 240, 0)), (2, (0, 0, 9999, 0)), (3, (1, 0, 0, 0)), (5, (0, 0, 2147483647, 0))])) p_301_7 = true := by decide +kernel
theorem q_301_4 {q0 : Nat} {n0 n1 n2 n3 n4 : Int} {H0 : gH} (f0 : n0 ≤ 240) (f1 : 0 ≤ n0) (f2 : n1 ≤ 9999) (f3 : 0 ≤ n1) (f4 : n2 = 4) (f5 : n3 = w32 (n2 * n1)) (f6 : n4 = w32 (n0 + 4)) : 0 ≤ n4 := by
  rw [f4] at f5
  unfold w32 at *
  try (have ix0 : n4 = n0 + 4 := (by omega); subst ix0)
  omega
def g_301_24_0 : vG := ([(10, [14, 7], [], 4), (3, [11, 10, 5], [], 0), (0, [10], [], 4), (90, [5], [], 0), (91, [5], [], 9999), (90, [7], [], 0), (91, [7], [], 240)], (90, [14], [], 0))
theorem c_301_24_0 {q0 : Nat} : vOkm T0 (eP e_301 L_301 A_301 mu_301 (some q0)) 3 g_301_24_0 := vOk_in fun ρ η h => by
  obtain ⟨f0, f1, f2, f3, f4, f5, f6, _⟩ := h
  exact q_301_4 (q0 := q0) (n0 := ρ 7) (n1 := ρ 5) (n2 := ρ 10) (n3 := ρ 11) (n4 := ρ 14) (H0 := η 0) f6 f5 f4 f3 f2 f1 f0
theorem q_301_5 {q0 : Nat} {n0 n1 n2 n3 n4 : Int} {H0 : gH} (f0 : n0 ≤ 240) (f1 : 0 ≤ n0) (f2 : n1 ≤ 9999) (f3 : 0 ≤ n1) (f4 : n2 = 4) (f5 : n3 = w32 (n2 * n1)) (f6 : n4 = w32 (n0 + 4)) : n4 ≤ 2147483647 := by
  rw [f4] at f5
  unfold w32 at *
  try (have ix0 : n4 = n0 + 4 := (by omega); subst ix0)
  omega
def g_301_24_1 : vG := ([(10, [14, 7], [], 4), (3, [11, 10, 5], [], 0), (0, [10], [], 4), (90, [5], [], 0), (91, [5], [], 9999), (90, [7], [], 0), (91, [7], [], 240)], (91, [14], [], 2147483647))
theorem c_301_24_1 {q0 : Nat} : vOkm T0 (eP e_301 L_301 A_301 mu_301 (some q0)) 3 g_301_24_1 := vOk_in fun ρ η h => by
  obtain ⟨f0, f1, f2, f3, f4, f5, f6, _⟩ := h
  exact q_301_5 (q0 := q0) (n0 := ρ 7) (n1 := ρ 5) (n2 := ρ 10) (n3 := ρ 11) (n4 := ρ 14) (H0 := η 0) f6 f5 f4 f3 f2 f1 f0
theorem q_301_6 {q0 : Nat} {n0 n1 n2 n3 n4 n5 n6 n7 n8 n9 n10 n11 n12 n13 : Int} {H0 H1 : gH} (f0 : n0 ≤ 240) (f1 : 0 ≤ n0) (f2 : n1 ≤ 240) (f3 : 0 ≤ n1) (f4 : n2 ≤ 9999) (f5 : 0 ≤ n2) (f6 : n3 ≤ 240) (f7 : 0 ≤ n3) (f8 : n4 = 285) (f9 : n5 ≤ 9999) (f10 : 0 ≤ n5) (f11 : n6 ≤ 240) (f12 : 0 ≤ n6) (f13 : n7 = 285) (f14 : (hLe T0 H0 H1 ∧ hFr s_301.2.2.2.2 H0 H1 ∧ hWt T0 H1) ∧ (Ab_301_24 n7 n6 n5 n4 n3 n2 n8 n1 n9 n0 H0 H1 ∧ True) ∧ some q0 = some (mub_301_24 n7 n6 n5 n4 n3 n2 n8 n1 n9 n0 H0 H1)) (f15 : n10 = 4) (f16 : n11 = w32 (n10 * n2)) (f17 : n12 = w32 (n1 + n11)) (f18 : n12 ≤ n0) (f19 : n13 = w32 (n1 + 4)) : Ab_301_7 n7 n6 n5 n4 n3 n2 n8 n13 H0 H1 ∧ ∀ q, some q0 = some q → mub_301_7 n7 n6 n5 n4 n3 n2 n8 n13 H0 H1 < q := by
  have g4 := f14.2.1.1
  unfold Ab_301_24 at g4
  have g5 := Option.some.inj f14.2.2
  unfold mub_301_24 at g5
  unfold Ab_301_7
  unfold mub_301_7
  have k0 := g4.1
  have k1 := g4.2.1
  have y0 := g4.2.2.1
  have y1 := g4.2.2.2
  clear g4
  clear f14
  rw [f15] at f16
  unfold w32 at *
  try (have ix0 : n13 = n1 + 4 := (by omega); subst ix0)
  try subst k1
  try subst k0
  refine ⟨?_, fun q hq => ?_⟩
  · refine ⟨?_, ?_, ?_⟩ <;> first | assumption | omega | trivial
  · have g6 := Option.some.inj hq
    subst g6
    omega
def g_301_24_2 : vG := ([(10, [14, 7], [], 4), (43, [9, 12], [], 0), (1, [12, 7, 11], [], 0), (3, [11, 10, 5], [], 0), (0, [10], [], 4), (5000, [0, 1, 2, 3, 4, 5, 6, 7, 8, 9], [0, 1], 24), (0, [0], [], 285), (90, [1], [], 0), (91, [1], [], 240), (90, [2], [], 0), (91, [2], [], 9999), (0, [3], [], 285), (90, [4], [], 0), (91, [4], [], 240), (90, [5], [], 0), (91, [5], [], 9999), (90, [7], [], 0), (91, [7], [], 240), (90, [9], [], 0), (91, [9], [], 240)], (4000, [3, 4, 5, 6, 14], [1], 7))
theorem c_301_24_2 {q0 : Nat} : vOkm T0 (eP e_301 L_301 A_301 mu_301 (some q0)) 3 g_301_24_2 := vOk_in fun ρ η h => by
  obtain ⟨f0, f1, f2, f3, f4, f5, f6, f7, f8, f9, f10, f11, f12, f13, f14, f15, f16, f17, f18, f19, _⟩ := h
  exact q_301_6 (q0 := q0) (n0 := ρ 9) (n1 := ρ 7) (n2 := ρ 5) (n3 := ρ 4) (n4 := ρ 3) (n5 := ρ 2) (n6 := ρ 1) (n7 := ρ 0) (n8 := ρ 6) (n9 := ρ 8) (n10 := ρ 10) (n11 := ρ 11) (n12 := ρ 12) (n13 := ρ 14) (H0 := η 0) (H1 := η 1) f19 f18 f17 f16 f15 f14 f13 f12 f11 f10 f9 f8 f7 f6 f5 f4 f3 f2 f1 f0
def g_301_24_3 : vG := ([(10, [14, 7], [], 4), (3, [11, 10, 5], [], 0), (0, [10], [], 4), (90, [5], [], 0), (91, [5], [], 9999), (90, [7], [], 0), (91, [7], [], 240)], (90, [14], [], 0))
theorem c_301_24_3 {q0 : Nat} : vOkm T0 (eP e_301 L_301 A_301 mu_301 (some q0)) 3 g_301_24_3 := vOk_in fun ρ η h => by
  obtain ⟨f0, f1, f2, f3, f4, f5, f6, _⟩ := h
  exact q_301_4 (q0 := q0) (n0 := ρ 7) (n1 := ρ 5) (n2 := ρ 10) (n3 := ρ 11) (n4 := ρ 14) (H0 := η 0) f6 f5 f4 f3 f2 f1 f0
def g_301_24_4 : vG := ([(10, [14, 7], [], 4), (3, [11, 10, 5], [], 0), (0, [10], [], 4), (90, [5], [], 0), (91, [5], [], 9999), (90, [7], [], 0), (91, [7], [], 240)], (91, [14], [], 2147483647))
theorem c_301_24_4 {q0 : Nat} : vOkm T0 (eP e_301 L_301 A_301 mu_301 (some q0)) 3 g_301_24_4 := vOk_in fun ρ η h => by
  obtain ⟨f0, f1, f2, f3, f4, f5, f6, _⟩ := h
  exact q_301_5 (q0 := q0) (n0 := ρ 7) (n1 := ρ 5) (n2 := ρ 10) (n3 := ρ 11) (n4 := ρ 14) (H0 := η 0) f6 f5 f4 f3 f2 f1 f0
theorem q_301_7 {q0 : Nat} {n0 n1 n2 n3 n4 n5 n6 n7 n8 n9 n10 n11 n12 n13 : Int} {H0 H1 : gH} (f0 : n0 ≤ 240) (f1 : 0 ≤ n0) (f2 : n1 ≤ 240) (f3 : 0 ≤ n1) (f4 : n2 ≤ 9999) (f5 : 0 ≤ n2) (f6 : n3 ≤ 240) (f7 : 0 ≤ n3) (f8 : n4 = 285) (f9 : n5 ≤ 9999) (f10 : 0 ≤ n5) (f11 : n6 ≤ 240) (f12 : 0 ≤ n6) (f13 : n7 = 285) (f14 : (hLe T0 H0 H1 ∧ hFr s_301.2.2.2.2 H0 H1 ∧ hWt T0 H1) ∧ (Ab_301_24 n7 n6 n5 n4 n3 n2 n8 n1 n9 n0 H0 H1 ∧ True) ∧ some q0 = some (mub_301_24 n7 n6 n5 n4 n3 n2 n8 n1 n9 n0 H0 H1)) (f15 : n10 = 4) (f16 : n11 = w32 (n10 * n2)) (f17 : n12 = w32 (n1 + n11)) (f18 : n12 ≤ n0) (f19 : n13 = w32 (n1 + 4)) : Ab_301_7 n7 n6 n5 n4 n3 n2 n9 n13 H0 H1 ∧ ∀ q, some q0 = some q → mub_301_7 n7 n6 n5 n4 n3 n2 n9 n13 H0 H1 < q := by
  have g4 := f14.2.1.1
  unfold Ab_301_24 at g4
  have g5 := Option.some.inj f14.2.2
  unfold mub_301_24 at g5
  unfold Ab_301_7
  unfold mub_301_7
  have k0 := g4.1
  have k1 := g4.2.1
  have y0 := g4.2.2.1
  have y1 := g4.2.2.2
  clear g4
  clear f14
  rw [f15] at f16
  unfold w32 at *
  try (have ix0 : n13 = n1 + 4 := (by omega); subst ix0)
  try subst k1
  try subst k0
  refine ⟨?_, fun q hq => ?_⟩
  · refine ⟨?_, ?_, ?_⟩ <;> first | assumption | omega | trivial
  · have g6 := Option.some.inj hq
    subst g6
    omega
def g_301_24_5 : vG := ([(10, [14, 7], [], 4), (43, [9, 12], [], 0), (1, [12, 7, 11], [], 0), (3, [11, 10, 5], [], 0), (0, [10], [], 4), (5000, [0, 1, 2, 3, 4, 5, 6, 7, 8, 9], [0, 1], 24), (0, [0], [], 285), (90, [1], [], 0), (91, [1], [], 240), (90, [2], [], 0), (91, [2], [], 9999), (0, [3], [], 285), (90, [4], [], 0), (91, [4], [], 240), (90, [5], [], 0), (91, [5], [], 9999), (90, [7], [], 0), (91, [7], [], 240), (90, [9], [], 0), (91, [9], [], 240)], (4000, [3, 4, 5, 8, 14], [1], 7))
theorem c_301_24_5 {q0 : Nat} : vOkm T0 (eP e_301 L_301 A_301 mu_301 (some q0)) 3 g_301_24_5 := vOk_in fun ρ η h => by
  obtain ⟨f0, f1, f2, f3, f4, f5, f6, f7, f8, f9, f10, f11, f12, f13, f14, f15, f16, f17, f18, f19, _⟩ := h
  exact q_301_7 (q0 := q0) (n0 := ρ 9) (n1 := ρ 7) (n2 := ρ 5) (n3 := ρ 4) (n4 := ρ 3) (n5 := ρ 2) (n6 := ρ 1) (n7 := ρ 0) (n8 := ρ 6) (n9 := ρ 8) (n10 := ρ 10) (n11 := ρ 11) (n12 := ρ 12) (n13 := ρ 14) (H0 := η 0) (H1 := η 1) f19 f18 f17 f16 f15 f14 f13 f12 f11 f10 f9 f8 f7 f6 f5 f4 f3 f2 f1 f0
theorem q_301_8 {q0 : Nat} {n0 n1 n2 n3 n4 n5 n6 n7 n8 n9 n10 n11 n12 : Int} {H0 H1 : gH} (f0 : 0 ≤ n0) (f1 : n1 = 285) (f2 : n2 ≤ 9999) (f3 : 0 ≤ n2) (f4 : n3 ≤ 240) (f5 : n4 = 285) (f6 : (hLe T0 H0 H1 ∧ hFr s_301.2.2.2.2 H0 H1 ∧ hWt T0 H1) ∧ (Ab_301_24 n4 n3 n2 n1 n5 n6 n7 n8 n9 n0 H0 H1 ∧ True) ∧ some q0 = some (mub_301_24 n4 n3 n2 n1 n5 n6 n7 n8 n9 n0 H0 H1)) (f7 : n10 = 4) (f8 : n11 = w32 (n10 * n6)) (f9 : n12 = w32 (n8 + n11)) (f10 : n0 < n12) : 0 ≤ n0 ∧ n0 < 240 := by
  have g4 := f6.2.1.1
  unfold Ab_301_24 at g4
  have k0 := g4.1
  have k1 := g4.2.1
  have y0 := g4.2.2.1
  have y1 := g4.2.2.2
  clear g4
  clear f6
  rw [f7] at f8
  unfold w32 at *
  try subst k1
  try subst k0
  omega
def g_301_24_6 : vG := ([(42, [9, 12], [], 0), (1, [12, 7, 11], [], 0), (3, [11, 10, 5], [], 0), (0, [10], [], 4), (5000, [0, 1, 2, 3, 4, 5, 6, 7, 8, 9], [0, 1], 24), (0, [0], [], 285), (91, [1], [], 240), (90, [2], [], 0), (91, [2], [], 9999), (0, [3], [], 285), (90, [9], [], 0)], (70, [9], [], 240))
theorem c_301_24_6 {q0 : Nat} : vOkm T0 (eP e_301 L_301 A_301 mu_301 (some q0)) 3 g_301_24_6 := vOk_in fun ρ η h => by
  obtain ⟨f0, f1, f2, f3, f4, f5, f6, f7, f8, f9, f10, _⟩ := h
  exact q_301_8 (q0 := q0) (n0 := ρ 9) (n1 := ρ 3) (n2 := ρ 2) (n3 := ρ 1) (n4 := ρ 0) (n5 := ρ 4) (n6 := ρ 5) (n7 := ρ 6) (n8 := ρ 7) (n9 := ρ 8) (n10 := ρ 10) (n11 := ρ 11) (n12 := ρ 12) (H0 := η 0) (H1 := η 1) f10 f9 f8 f7 f6 f5 f4 f3 f2 f1 f0
def g_301_24_7 : vG := ([(42, [9, 12], [], 0), (1, [12, 7, 11], [], 0), (3, [11, 10, 5], [], 0), (0, [10], [], 4), (5000, [0, 1, 2, 3, 4, 5, 6, 7, 8, 9], [0, 1], 24), (0, [0], [], 285), (91, [1], [], 240), (90, [2], [], 0), (91, [2], [], 9999), (0, [3], [], 285), (90, [9], [], 0)], (70, [9], [], 240))
theorem c_301_24_7 {q0 : Nat} : vOkm T0 (eP e_301 L_301 A_301 mu_301 (some q0)) 3 g_301_24_7 := vOk_in fun ρ η h => by
  obtain ⟨f0, f1, f2, f3, f4, f5, f6, f7, f8, f9, f10, _⟩ := h
  exact q_301_8 (q0 := q0) (n0 := ρ 9) (n1 := ρ 3) (n2 := ρ 2) (n3 := ρ 1) (n4 := ρ 0) (n5 := ρ 4) (n6 := ρ 5) (n7 := ρ 6) (n8 := ρ 7) (n9 := ρ 8) (n10 := ρ 10) (n11 := ρ 11) (n12 := ρ 12) (H0 := η 0) (H1 := η 1) f10 f9 f8 f7 f6 f5 f4 f3 f2 f1 f0
theorem q_301_9 {q0 : Nat} {n0 n1 n2 n3 n4 n5 n6 : Int} {H0 : gH} (f0 : 0 ≤ n0) (f1 : n1 ≤ 240) (f2 : n2 ≤ 9999) (f3 : n3 = 4) (f4 : n4 = w32 (n3 * n2)) (f5 : n5 = w32 (n1 + n4)) (f6 : n0 < n5) (f7 : n6 = w32 (n0 + 1)) : 0 ≤ n6 := by
  rw [f3] at f4
  unfold w32 at *
  try (have ix0 : n6 = n0 + 1 := (by omega); subst ix0)
  omega
def g_301_24_8 : vG := ([(10, [19, 9], [], 1), (42, [9, 12], [], 0), (1, [12, 7, 11], [], 0), (3, [11, 10, 5], [], 0), (0, [10], [], 4), (91, [5], [], 9999), (91, [7], [], 240), (90, [9], [], 0)], (90, [19], [], 0))
theorem c_301_24_8 {q0 : Nat} : vOkm T0 (eP e_301 L_301 A_301 mu_301 (some q0)) 3 g_301_24_8 := vOk_in fun ρ η h => by
  obtain ⟨f0, f1, f2, f3, f4, f5, f6, f7, _⟩ := h
  exact q_301_9 (q0 := q0) (n0 := ρ 9) (n1 := ρ 7) (n2 := ρ 5) (n3 := ρ 10) (n4 := ρ 11) (n5 := ρ 12) (n6 := ρ 19) (H0 := η 0) f7 f6 f5 f4 f3 f2 f1 f0
theorem q_301_10 {q0 : Nat} {n0 n1 n2 n3 n4 n5 n6 n7 n8 n9 n10 n11 n12 n13 : Int} {H0 H1 : gH} (f0 : 0 ≤ n0) (f1 : n1 = 285) (f2 : n2 ≤ 9999) (f3 : 0 ≤ n2) (f4 : n3 ≤ 240) (f5 : n4 = 285) (f6 : (hLe T0 H0 H1 ∧ hFr s_301.2.2.2.2 H0 H1 ∧ hWt T0 H1) ∧ (Ab_301_24 n4 n3 n2 n1 n5 n6 n7 n8 n9 n0 H0 H1 ∧ True) ∧ some q0 = some (mub_301_24 n4 n3 n2 n1 n5 n6 n7 n8 n9 n0 H0 H1)) (f7 : n10 = 4) (f8 : n11 = w32 (n10 * n6)) (f9 : n12 = w32 (n8 + n11)) (f10 : n0 < n12) (f11 : n13 = w32 (n0 + 1)) : n13 ≤ 240 := by
  have g4 := f6.2.1.1
  unfold Ab_301_24 at g4
  have k0 := g4.1
  have k1 := g4.2.1
  have y0 := g4.2.2.1
  have y1 := g4.2.2.2
  clear g4
  clear f6
  rw [f7] at f8
  unfold w32 at *
  try (have ix0 : n13 = n0 + 1 := (by omega); subst ix0)
  try subst k1
  try subst k0
  omega
def g_301_24_9 : vG := ([(10, [19, 9], [], 1), (42, [9, 12], [], 0), (1, [12, 7, 11], [], 0), (3, [11, 10, 5], [], 0), (0, [10], [], 4), (5000, [0, 1, 2, 3, 4, 5, 6, 7, 8, 9], [0, 1], 24), (0, [0], [], 285), (91, [1], [], 240), (90, [2], [], 0), (91, [2], [], 9999), (0, [3], [], 285), (90, [9], [], 0)], (91, [19], [], 240))
theorem c_301_24_9 {q0 : Nat} : vOkm T0 (eP e_301 L_301 A_301 mu_301 (some q0)) 3 g_301_24_9 := vOk_in fun ρ η h => by
  obtain ⟨f0, f1, f2, f3, f4, f5, f6, f7, f8, f9, f10, f11, _⟩ := h
  exact q_301_10 (q0 := q0) (n0 := ρ 9) (n1 := ρ 3) (n2 := ρ 2) (n3 := ρ 1) (n4 := ρ 0) (n5 := ρ 4) (n6 := ρ 5) (n7 := ρ 6) (n8 := ρ 7) (n9 := ρ 8) (n10 := ρ 10) (n11 := ρ 11) (n12 := ρ 12) (n13 := ρ 19) (H0 := η 0) (H1 := η 1) f11 f10 f9 f8 f7 f6 f5 f4 f3 f2 f1 f0
theorem q_301_11 {q0 : Nat} {n0 n1 n2 n3 n4 n5 n6 n7 n8 n9 n10 n11 n12 n13 n14 n15 n16 n17 n18 n19 : Int} {H0 H1 : gH} (f0 : n0 ≤ 240) (f1 : 0 ≤ n0) (f2 : n1 ≤ 240) (f3 : 0 ≤ n1) (f4 : n2 ≤ 9999) (f5 : 0 ≤ n2) (f6 : n3 ≤ 240) (f7 : 0 ≤ n3) (f8 : n4 = 285) (f9 : n5 ≤ 9999) (f10 : 0 ≤ n5) (f11 : n6 ≤ 240) (f12 : 0 ≤ n6) (f13 : n7 = 285) (f14 : (hLe T0 H0 H1 ∧ hFr s_301.2.2.2.2 H0 H1 ∧ hWt T0 H1) ∧ (Ab_301_24 n7 n6 n5 n4 n3 n2 n8 n1 n9 n0 H0 H1 ∧ True) ∧ some q0 = some (mub_301_24 n7 n6 n5 n4 n3 n2 n8 n1 n9 n0 H0 H1)) (f15 : n10 = 4) (f16 : n11 = w32 (n10 * n2)) (f17 : n12 = w32 (n1 + n11)) (f18 : n0 < n12) (f19 : n13 = 357) (f20 : n13 = hV H1 (n4).toNat 99) (f21 : n14 ≤ 2147483647) (f22 : (-2147483648) ≤ n14) (f23 : n14 = hV H1 (n13).toNat (n0).toNat) (f24 : 0 ≤ n14) (f25 : n15 = 357) (f26 : n15 = hV H1 (n4).toNat 99) (f27 : n16 ≤ 2147483647) (f28 : (-2147483648) ≤ n16) (f29 : n16 = hV H1 (n15).toNat (n0).toNat) (f30 : n17 = n16) (f31 : n18 = o64 (fun x y => x + y) n9 n17) (f32 : n19 = w32 (n0 + 1)) : Ab_301_24 n7 n6 n5 n4 n3 n2 n8 n1 n18 n19 H0 H1 ∧ ∀ q, some q0 = some q → mub_301_24 n7 n6 n5 n4 n3 n2 n8 n1 n18 n19 H0 H1 < q := by
  have g4 := f14.2.1.1
  unfold Ab_301_24 at g4
  have g5 := Option.some.inj f14.2.2
  unfold mub_301_24 at g5
  unfold Ab_301_24
  unfold mub_301_24
  have e0 : hV H1 357 = hV H0 357 := fRow f14.1.2.1 357 (by decide +kernel)
  have e1 : n14 = hV H0 357 (n0).toNat := (by rw [f19] at f23; exact f23 : n14 = hV H1 357 (n0).toNat).trans ((congrFun e0 _))
  have e2 : n16 = hV H0 357 (n0).toNat := (by rw [f25] at f29; exact f29 : n16 = hV H1 357 (n0).toNat).trans ((congrFun e0 _))
  have k0 := g4.1
  have k1 := g4.2.1
  have y0 := g4.2.2.1
  have y1 := g4.2.2.2
  clear g4
  clear f20 f23 f26 f29 e0
  clear f14
  subst e1
  subst e2
  rw [f15] at f16
  unfold w32 at *
  try (have ix0 : n19 = n0 + 1 := (by omega); subst ix0)
  try subst k1
  try subst k0
  refine ⟨?_, fun q hq => ?_⟩
  · refine ⟨?_, ?_, ?_, ?_⟩ <;> first | assumption | omega | trivial
  · have g6 := Option.some.inj hq
    subst g6
    omega
def g_301_24_10 : vG := ([(10, [19, 9], [], 1), (61, [18, 8, 17], [], 0), (17, [17, 16], [], 0), (22, [16, 15, 9], [1], 0), (90, [16], [], -2147483648), (91, [16], [], 2147483647), (20, [15, 3], [1], 99), (0, [15], [], 357), (33, [14], [], 0), (22, [14, 13, 9], [1], 0), (90, [14], [], -2147483648), (91, [14], [], 2147483647), (20, [13, 3], [1], 99), (0, [13], [], 357), (42, [9, 12], [], 0), (1, [12, 7, 11], [], 0), (3, [11, 10, 5], [], 0), (0, [10], [], 4), (5000, [0, 1, 2, 3, 4, 5, 6, 7, 8, 9], [0, 1], 24), (0, [0], [], 285), (90, [1], [], 0), (91, [1], [], 240), (90, [2], [], 0), (91, [2], [], 9999), (0, [3], [], 285), (90, [4], [], 0), (91, [4], [], 240), (90, [5], [], 0), (91, [5], [], 9999), (90, [7], [], 0), (91, [7], [], 240), (90, [9], [], 0), (91, [9], [], 240)], (4000, [3, 4, 5, 6, 7, 18, 19], [1], 24))
theorem c_301_24_10 {q0 : Nat} : vOkm T0 (eP e_301 L_301 A_301 mu_301 (some q0)) 3 g_301_24_10 := vOk_in fun ρ η h => by
  obtain ⟨f0, f1, f2, f3, f4, f5, f6, f7, f8, f9, f10, f11, f12, f13, f14, f15, f16, f17, f18, f19, f20, f21, f22, f23, f24, f25, f26, f27, f28, f29, f30, f31, f32, _⟩ := h
  exact q_301_11 (q0 := q0) (n0 := ρ 9) (n1 := ρ 7) (n2 := ρ 5) (n3 := ρ 4) (n4 := ρ 3) (n5 := ρ 2) (n6 := ρ 1) (n7 := ρ 0) (n8 := ρ 6) (n9 := ρ 8) (n10 := ρ 10) (n11 := ρ 11) (n12 := ρ 12) (n13 := ρ 13) (n14 := ρ 14) (n15 := ρ 15) (n16 := ρ 16) (n17 := ρ 17) (n18 := ρ 18) (n19 := ρ 19) (H0 := η 0) (H1 := η 1) f32 f31 f30 f29 f28 f27 f26 f25 f24 f23 f22 f21 f20 f19 f18 f17 f16 f15 f14 f13 f12 f11 f10 f9 f8 f7 f6 f5 f4 f3 f2 f1 f0
def g_301_24_11 : vG := ([(42, [9, 12], [], 0), (1, [12, 7, 11], [], 0), (3, [11, 10, 5], [], 0), (0, [10], [], 4), (5000, [0, 1, 2, 3, 4, 5, 6, 7, 8, 9], [0, 1], 24), (0, [0], [], 285), (91, [1], [], 240), (90, [2], [], 0), (91, [2], [], 9999), (0, [3], [], 285), (90, [9], [], 0)], (70, [9], [], 240))
theorem c_301_24_11 {q0 : Nat} : vOkm T0 (eP e_301 L_301 A_301 mu_301 (some q0)) 3 g_301_24_11 := vOk_in fun ρ η h => by
  obtain ⟨f0, f1, f2, f3, f4, f5, f6, f7, f8, f9, f10, _⟩ := h
  exact q_301_8 (q0 := q0) (n0 := ρ 9) (n1 := ρ 3) (n2 := ρ 2) (n3 := ρ 1) (n4 := ρ 0) (n5 := ρ 4) (n6 := ρ 5) (n7 := ρ 6) (n8 := ρ 7) (n9 := ρ 8) (n10 := ρ 10) (n11 := ρ 11) (n12 := ρ 12) (H0 := η 0) (H1 := η 1) f10 f9 f8 f7 f6 f5 f4 f3 f2 f1 f0
def g_301_24_12 : vG := ([(10, [20, 9], [], 1), (42, [9, 12], [], 0), (1, [12, 7, 11], [], 0), (3, [11, 10, 5], [], 0), (0, [10], [], 4), (91, [5], [], 9999), (91, [7], [], 240), (90, [9], [], 0)], (90, [20], [], 0))
theorem c_301_24_12 {q0 : Nat} : vOkm T0 (eP e_301 L_301 A_301 mu_301 (some q0)) 3 g_301_24_12 := vOk_in fun ρ η h => by
  obtain ⟨f0, f1, f2, f3, f4, f5, f6, f7, _⟩ := h
  exact q_301_9 (q0 := q0) (n0 := ρ 9) (n1 := ρ 7) (n2 := ρ 5) (n3 := ρ 10) (n4 := ρ 11) (n5 := ρ 12) (n6 := ρ 20) (H0 := η 0) f7 f6 f5 f4 f3 f2 f1 f0
def g_301_24_13 : vG := ([(10, [20, 9], [], 1), (42, [9, 12], [], 0), (1, [12, 7, 11], [], 0), (3, [11, 10, 5], [], 0), (0, [10], [], 4), (5000, [0, 1, 2, 3, 4, 5, 6, 7, 8, 9], [0, 1], 24), (0, [0], [], 285), (91, [1], [], 240), (90, [2], [], 0), (91, [2], [], 9999), (0, [3], [], 285), (90, [9], [], 0)], (91, [20], [], 240))
theorem c_301_24_13 {q0 : Nat} : vOkm T0 (eP e_301 L_301 A_301 mu_301 (some q0)) 3 g_301_24_13 := vOk_in fun ρ η h => by
  obtain ⟨f0, f1, f2, f3, f4, f5, f6, f7, f8, f9, f10, f11, _⟩ := h
  exact q_301_10 (q0 := q0) (n0 := ρ 9) (n1 := ρ 3) (n2 := ρ 2) (n3 := ρ 1) (n4 := ρ 0) (n5 := ρ 4) (n6 := ρ 5) (n7 := ρ 6) (n8 := ρ 7) (n9 := ρ 8) (n10 := ρ 10) (n11 := ρ 11) (n12 := ρ 12) (n13 := ρ 20) (H0 := η 0) (H1 := η 1) f11 f10 f9 f8 f7 f6 f5 f4 f3 f2 f1 f0
theorem q_301_12 {q0 : Nat} {n0 n1 n2 n3 n4 n5 n6 n7 n8 n9 n10 n11 n12 n13 n14 n15 n16 n17 n18 n19 n20 : Int} {H0 H1 : gH} (f0 : n0 ≤ 240) (f1 : 0 ≤ n0) (f2 : n1 ≤ 240) (f3 : 0 ≤ n1) (f4 : n2 ≤ 9999) (f5 : 0 ≤ n2) (f6 : n3 ≤ 240) (f7 : 0 ≤ n3) (f8 : n4 = 285) (f9 : n5 ≤ 9999) (f10 : 0 ≤ n5) (f11 : n6 ≤ 240) (f12 : 0 ≤ n6) (f13 : n7 = 285) (f14 : (hLe T0 H0 H1 ∧ hFr s_301.2.2.2.2 H0 H1 ∧ hWt T0 H1) ∧ (Ab_301_24 n7 n6 n5 n4 n3 n2 n8 n1 n9 n0 H0 H1 ∧ True) ∧ some q0 = some (mub_301_24 n7 n6 n5 n4 n3 n2 n8 n1 n9 n0 H0 H1)) (f15 : n10 = 4) (f16 : n11 = w32 (n10 * n2)) (f17 : n12 = w32 (n1 + n11)) (f18 : n0 < n12) (f19 : n13 = 357) (f20 : n13 = hV H1 (n4).toNat 99) (f21 : n14 ≤ 2147483647) (f22 : (-2147483648) ≤ n14) (f23 : n14 = hV H1 (n13).toNat (n0).toNat) (f24 : n14 < 0) (f25 : n15 = 357) (f26 : n15 = hV H1 (n4).toNat 99) (f27 : n16 ≤ 2147483647) (f28 : (-2147483648) ≤ n16) (f29 : n16 = hV H1 (n15).toNat (n0).toNat) (f30 : n17 = w32 (-n16)) (f31 : n18 = n17) (f32 : n19 = o64 (fun x y => x + y) n9 n18) (f33 : n20 = w32 (n0 + 1)) : Ab_301_24 n7 n6 n5 n4 n3 n2 n8 n1 n19 n20 H0 H1 ∧ ∀ q, some q0 = some q → mub_301_24 n7 n6 n5 n4 n3 n2 n8 n1 n19 n20 H0 H1 < q := by
  have g4 := f14.2.1.1
  unfold Ab_301_24 at g4
  have g5 := Option.some.inj f14.2.2
  unfold mub_301_24 at g5
  unfold Ab_301_24
  unfold mub_301_24
  have e0 : hV H1 357 = hV H0 357 := fRow f14.1.2.1 357 (by decide +kernel)
  have e1 : n14 = hV H0 357 (n0).toNat := (by rw [f19] at f23; exact f23 : n14 = hV H1 357 (n0).toNat).trans ((congrFun e0 _))
  have e2 : n16 = hV H0 357 (n0).toNat := (by rw [f25] at f29; exact f29 : n16 = hV H1 357 (n0).toNat).trans ((congrFun e0 _))
  have k0 := g4.1
  have k1 := g4.2.1
  have y0 := g4.2.2.1
  have y1 := g4.2.2.2
  clear g4
  clear f20 f23 f26 f29 e0
  clear f14
  subst e1
  subst e2
  rw [f15] at f16
  unfold w32 at *
  try (have ix0 : n20 = n0 + 1 := (by omega); subst ix0)
  try subst k1
  try subst k0
  refine ⟨?_, fun q hq => ?_⟩
  · refine ⟨?_, ?_, ?_, ?_⟩ <;> first | assumption | omega | trivial
  · have g6 := Option.some.inj hq
    subst g6
    omega
def g_301_24_14 : vG := ([(10, [20, 9], [], 1), (61, [19, 8, 18], [], 0), (17, [18, 17], [], 0), (14, [17, 16], [], 0), (22, [16, 15, 9], [1], 0), (90, [16], [], -2147483648), (91, [16], [], 2147483647), (20, [15, 3], [1], 99), (0, [15], [], 357), (32, [14], [], 0), (22, [14, 13, 9], [1], 0), (90, [14], [], -2147483648), (91, [14], [], 2147483647), (20, [13, 3], [1], 99), (0, [13], [], 357), (42, [9, 12], [], 0), (1, [12, 7, 11], [], 0), (3, [11, 10, 5], [], 0), (0, [10], [], 4), (5000, [0, 1, 2, 3, 4, 5, 6, 7, 8, 9], [0, 1], 24), (0, [0], [], 285), (90, [1], [], 0), (91, [1], [], 240), (90, [2], [], 0), (91, [2], [], 9999), (0, [3], [], 285), (90, [4], [], 0), (91, [4], [], 240), (90, [5], [], 0), (91, [5], [], 9999), (90, [7], [], 0), (91, [7], [], 240), (90, [9], [], 0), (91, [9], [], 240)], (4000, [3, 4, 5, 6, 7, 19, 20], [1], 24))
theorem c_301_24_14 {q0 : Nat} : vOkm T0 (eP e_301 L_301 A_301 mu_301 (some q0)) 3 g_301_24_14 := vOk_in fun ρ η h => by
  obtain ⟨f0, f1, f2, f3, f4, f5, f6, f7, f8, f9, f10, f11, f12, f13, f14, f15, f16, f17, f18, f19, f20, f21, f22, f23, f24, f25, f26, f27, f28, f29, f30, f31, f32, f33, _⟩ := h
  exact q_301_12 (q0 := q0) (n0 := ρ 9) (n1 := ρ 7) (n2 := ρ 5) (n3 := ρ 4) (n4 := ρ 3) (n5 := ρ 2) (n6 := ρ 1) (n7 := ρ 0) (n8 := ρ 6) (n9 := ρ 8) (n10 := ρ 10) (n11 := ρ 11) (n12 := ρ 12) (n13 := ρ 13) (n14 := ρ 14) (n15 := ρ 15) (n16 := ρ 16) (n17 := ρ 17) (n18 := ρ 18) (n19 := ρ 19) (n20 := ρ 20) (H0 := η 0) (H1 := η 1) f33 f32 f31 f30 f29 f28 f27 f26 f25 f24 f23 f22 f21 f20 f19 f18 f17 f16 f15 f14 f13 f12 f11 f10 f9 f8 f7 f6 f5 f4 f3 f2 f1 f0
def p_301_24 : List vG := [g_301_24_0,
  g_301_24_1,
  g_301_24_2,
  g_301_24_3,
  g_301_24_4,
  g_301_24_5,
  g_301_24_6,
  g_301_24_7,
  g_301_24_8,
  g_301_24_9,
  g_301_24_10,
  g_301_24_11,
  g_301_24_12,
  g_301_24_13,
  g_301_24_14]
theorem r_301_24 : vCovO true (eRc e_301 L_301 cs_301 2000 (24, [(0, (3, 12, 285, 0)), (1, (0, 0, 240, 0)), (2, (0, 0, 9999, 0)), (3, (1, 0, 0, 0)), (5, (0, 0, 240, 0)), (6, (1, 0, 0, 0)), (8, (0, 0, 240, 0))])) p_301_24 = true := by decide +kernel
theorem q_301_13 {q0 : Nat} {n0 n1 : Int} {H0 : gH} (f0 : 0 ≤ n0) (f1 : n1 ≤ 240) (f2 : n0 < n1) : 0 ≤ n0 ∧ n0 < 240 := by
  omega
def g_301_106_0 : vG := ([(42, [8, 4], [], 0), (91, [4], [], 240), (90, [8], [], 0)], (70, [8], [], 240))
theorem c_301_106_0 {q0 : Nat} : vOkm T0 (eP e_301 L_301 A_301 mu_301 (some q0)) 3 g_301_106_0 := vOk_in fun ρ η h => by
  obtain ⟨f0, f1, f2, _⟩ := h
  exact q_301_13 (q0 := q0) (n0 := ρ 8) (n1 := ρ 4) (H0 := η 0) f2 f1 f0
def g_301_106_1 : vG := ([(42, [8, 4], [], 0), (91, [4], [], 240), (90, [8], [], 0)], (70, [8], [], 240))
theorem c_301_106_1 {q0 : Nat} : vOkm T0 (eP e_301 L_301 A_301 mu_301 (some q0)) 3 g_301_106_1 := vOk_in fun ρ η h => by
  obtain ⟨f0, f1, f2, _⟩ := h
  exact q_301_13 (q0 := q0) (n0 := ρ 8) (n1 := ρ 4) (H0 := η 0) f2 f1 f0
theorem q_301_14 {q0 : Nat} {n0 n1 n2 : Int} {H0 : gH} (f0 : 0 ≤ n0) (f1 : n1 ≤ 240) (f2 : n0 < n1) (f3 : n2 = w32 (n0 + 1)) : 0 ≤ n2 := by
  unfold w32 at *
  try (have ix0 : n2 = n0 + 1 := (by omega); subst ix0)
  omega
def g_301_106_2 : vG := ([(10, [15, 8], [], 1), (42, [8, 4], [], 0), (91, [4], [], 240), (90, [8], [], 0)], (90, [15], [], 0))
theorem c_301_106_2 {q0 : Nat} : vOkm T0 (eP e_301 L_301 A_301 mu_301 (some q0)) 3 g_301_106_2 := vOk_in fun ρ η h => by
  obtain ⟨f0, f1, f2, f3, _⟩ := h
  exact q_301_14 (q0 := q0) (n0 := ρ 8) (n1 := ρ 4) (n2 := ρ 15) (H0 := η 0) f3 f2 f1 f0
theorem q_301_15 {q0 : Nat} {n0 n1 n2 : Int} {H0 : gH} (f0 : 0 ≤ n0) (f1 : n1 ≤ 240) (f2 : n0 < n1) (f3 : n2 = w32 (n0 + 1)) : n2 ≤ 240 := by
  unfold w32 at *
  try (have ix0 : n2 = n0 + 1 := (by omega); subst ix0)
  omega
def g_301_106_3 : vG := ([(10, [15, 8], [], 1), (42, [8, 4], [], 0), (91, [4], [], 240), (90, [8], [], 0)], (91, [15], [], 240))
theorem c_301_106_3 {q0 : Nat} : vOkm T0 (eP e_301 L_301 A_301 mu_301 (some q0)) 3 g_301_106_3 := vOk_in fun ρ η h => by
  obtain ⟨f0, f1, f2, f3, _⟩ := h
  exact q_301_15 (q0 := q0) (n0 := ρ 8) (n1 := ρ 4) (n2 := ρ 15) (H0 := η 0) f3 f2 f1 f0
theorem q_301_16 {q0 : Nat} {n0 n1 n2 n3 n4 n5 n6 n7 n8 n9 n10 n11 n12 n13 n14 n15 : Int} {H0 H1 : gH} (f0 : n0 ≤ 240) (f1 : 0 ≤ n0) (f2 : n1 ≤ 9999) (f3 : 0 ≤ n1) (f4 : n2 ≤ 240) (f5 : 0 ≤ n2) (f6 : n3 = 285) (f7 : n4 ≤ 9999) (f8 : 0 ≤ n4) (f9 : n5 ≤ 240) (f10 : 0 ≤ n5) (f11 : n6 = 285) (f12 : (hLe T0 H0 H1 ∧ hFr s_301.2.2.2.2 H0 H1 ∧ hWt T0 H1) ∧ (Ab_301_106 n6 n5 n4 n3 n2 n1 n7 n8 n0 H0 H1 ∧ True) ∧ some q0 = some (mub_301_106 n6 n5 n4 n3 n2 n1 n7 n8 n0 H0 H1)) (f13 : n0 < n2) (f14 : n9 = 357) (f15 : n9 = hV H1 (n3).toNat 99) (f16 : n10 ≤ 2147483647) (f17 : (-2147483648) ≤ n10) (f18 : n10 = hV H1 (n9).toNat (n0).toNat) (f19 : 0 ≤ n10) (f20 : n11 = 357) (f21 : n11 = hV H1 (n3).toNat 99) (f22 : n12 ≤ 2147483647) (f23 : (-2147483648) ≤ n12) (f24 : n12 = hV H1 (n11).toNat (n0).toNat) (f25 : n13 = n12) (f26 : n14 = o64 (fun x y => x + y) n8 n13) (f27 : n15 = w32 (n0 + 1)) : Ab_301_106 n6 n5 n4 n3 n2 n1 n7 n14 n15 H0 H1 ∧ ∀ q, some q0 = some q → mub_301_106 n6 n5 n4 n3 n2 n1 n7 n14 n15 H0 H1 < q := by
  have g4 := f12.2.1.1
  unfold Ab_301_106 at g4
  have g5 := Option.some.inj f12.2.2
  unfold mub_301_106 at g5
  unfold Ab_301_106
  unfold mub_301_106
  have e0 : hV H1 357 = hV H0 357 := fRow f12.1.2.1 357 (by decide +kernel)
  have e1 : n10 = hV H0 357 (n0).toNat := (by rw [f14] at f18; exact f18 : n10 = hV H1 357 (n0).toNat).trans ((congrFun e0 _))
  have e2 : n12 = hV H0 357 (n0).toNat := (by rw [f20] at f24; exact f24 : n12 = hV H1 357 (n0).toNat).trans ((congrFun e0 _))
  have k0 := g4.1
  have k1 := g4.2.1
  have y0 := g4.2.2
  clear g4
  clear f15 f18 f21 f24 e0
  clear f12
  subst e1
  subst e2
  unfold w32 at *
  try (have ix0 : n15 = n0 + 1 := (by omega); subst ix0)
  try subst k1
  try subst k0
  refine ⟨?_, fun q hq => ?_⟩
  · refine ⟨?_, ?_, ?_⟩ <;> first | assumption | omega | trivial
  · have g6 := Option.some.inj hq
    subst g6
    omega
def g_301_106_4 : vG := ([(10, [15, 8], [], 1), (61, [14, 7, 13], [], 0), (17, [13, 12], [], 0), (22, [12, 11, 8], [1], 0), (90, [12], [], -2147483648), (91, [12], [], 2147483647), (20, [11, 3], [1], 99), (0, [11], [], 357), (33, [10], [], 0), (22, [10, 9, 8], [1], 0), (90, [10], [], -2147483648), (91, [10], [], 2147483647), (20, [9, 3], [1], 99), (0, [9], [], 357), (42, [8, 4], [], 0), (5000, [0, 1, 2, 3, 4, 5, 6, 7, 8], [0, 1], 106), (0, [0], [], 285), (90, [1], [], 0), (91, [1], [], 240), (90, [2], [], 0), (91, [2], [], 9999), (0, [3], [], 285), (90, [4], [], 0), (91, [4], [], 240), (90, [5], [], 0), (91, [5], [], 9999), (90, [8], [], 0), (91, [8], [], 240)], (4000, [3, 4, 5, 6, 14, 15], [1], 106))
theorem c_301_106_4 {q0 : Nat} : vOkm T0 (eP e_301 L_301 A_301 mu_301 (some q0)) 3 g_301_106_4 := vOk_in fun ρ η h => by
  obtain ⟨f0, f1, f2, f3, f4, f5, f6, f7, f8, f9, f10, f11, f12, f13, f14, f15, f16, f17, f18, f19, f20, f21, f22, f23, f24, f25, f26, f27, _⟩ := h
  exact q_301_16 (q0 := q0) (n0 := ρ 8) (n1 := ρ 5) (n2 := ρ 4) (n3 := ρ 3) (n4 := ρ 2) (n5 := ρ 1) (n6 := ρ 0) (n7 := ρ 6) (n8 := ρ 7) (n9 := ρ 9) (n10 := ρ 10) (n11 := ρ 11) (n12 := ρ 12) (n13 := ρ 13) (n14 := ρ 14) (n15 := ρ 15) (H0 := η 0) (H1 := η 1) f27 f26 f25 f24 f23 f22 f21 f20 f19 f18 f17 f16 f15 f14 f13 f12 f11 f10 f9 f8 f7 f6 f5 f4 f3 f2 f1 f0
def g_301_106_5 : vG := ([(42, [8, 4], [], 0), (91, [4], [], 240), (90, [8], [], 0)], (70, [8], [], 240))
theorem c_301_106_5 {q0 : Nat} : vOkm T0 (eP e_301 L_301 A_301 mu_301 (some q0)) 3 g_301_106_5 := vOk_in fun ρ η h => by
  obtain ⟨f0, f1, f2, _⟩ := h
  exact q_301_13 (q0 := q0) (n0 := ρ 8) (n1 := ρ 4) (H0 := η 0) f2 f1 f0
def g_301_106_6 : vG := ([(10, [16, 8], [], 1), (42, [8, 4], [], 0), (91, [4], [], 240), (90, [8], [], 0)], (90, [16], [], 0))
theorem c_301_106_6 {q0 : Nat} : vOkm T0 (eP e_301 L_301 A_301 mu_301 (some q0)) 3 g_301_106_6 := vOk_in fun ρ η h => by
  obtain ⟨f0, f1, f2, f3, _⟩ := h
  exact q_301_14 (q0 := q0) (n0 := ρ 8) (n1 := ρ 4) (n2 := ρ 16) (H0 := η 0) f3 f2 f1 f0
def g_301_106_7 : vG := ([(10, [16, 8], [], 1), (42, [8, 4], [], 0), (91, [4], [], 240), (90, [8], [], 0)], (91, [16], [], 240))
theorem c_301_106_7 {q0 : Nat} : vOkm T0 (eP e_301 L_301 A_301 mu_301 (some q0)) 3 g_301_106_7 := vOk_in fun ρ η h => by
  obtain ⟨f0, f1, f2, f3, _⟩ := h
  exact q_301_15 (q0 := q0) (n0 := ρ 8) (n1 := ρ 4) (n2 := ρ 16) (H0 := η 0) f3 f2 f1 f0
theorem q_301_17 {q0 : Nat} {n0 n1 n2 n3 n4 n5 n6 n7 n8 n9 n10 n11 n12 n13 n14 n15 n16 : Int} {H0 H1 : gH} (f0 : n0 ≤ 240) (f1 : 0 ≤ n0) (f2 : n1 ≤ 9999) (f3 : 0 ≤ n1) (f4 : n2 ≤ 240) (f5 : 0 ≤ n2) (f6 : n3 = 285) (f7 : n4 ≤ 9999) (f8 : 0 ≤ n4) (f9 : n5 ≤ 240) (f10 : 0 ≤ n5) (f11 : n6 = 285) (f12 : (hLe T0 H0 H1 ∧ hFr s_301.2.2.2.2 H0 H1 ∧ hWt T0 H1) ∧ (Ab_301_106 n6 n5 n4 n3 n2 n1 n7 n8 n0 H0 H1 ∧ True) ∧ some q0 = some (mub_301_106 n6 n5 n4 n3 n2 n1 n7 n8 n0 H0 H1)) (f13 : n0 < n2) (f14 : n9 = 357) (f15 : n9 = hV H1 (n3).toNat 99) (f16 : n10 ≤ 2147483647) (f17 : (-2147483648) ≤ n10) (f18 : n10 = hV H1 (n9).toNat (n0).toNat) (f19 : n10 < 0) (f20 : n11 = 357) (f21 : n11 = hV H1 (n3).toNat 99) (f22 : n12 ≤ 2147483647) (f23 : (-2147483648) ≤ n12) (f24 : n12 = hV H1 (n11).toNat (n0).toNat) (f25 : n13 = w32 (-n12)) (f26 : n14 = n13) (f27 : n15 = o64 (fun x y => x + y) n8 n14) (f28 : n16 = w32 (n0 + 1)) : Ab_301_106 n6 n5 n4 n3 n2 n1 n7 n15 n16 H0 H1 ∧ ∀ q, some q0 = some q → mub_301_106 n6 n5 n4 n3 n2 n1 n7 n15 n16 H0 H1 < q := by
  have g4 := f12.2.1.1
  unfold Ab_301_106 at g4
  have g5 := Option.some.inj f12.2.2
  unfold mub_301_106 at g5
  unfold Ab_301_106
  unfold mub_301_106
  have e0 : hV H1 357 = hV H0 357 := fRow f12.1.2.1 357 (by decide +kernel)
  have e1 : n10 = hV H0 357 (n0).toNat := (by rw [f14] at f18; exact f18 : n10 = hV H1 357 (n0).toNat).trans ((congrFun e0 _))
  have e2 : n12 = hV H0 357 (n0).toNat := (by rw [f20] at f24; exact f24 : n12 = hV H1 357 (n0).toNat).trans ((congrFun e0 _))
  have k0 := g4.1
  have k1 := g4.2.1
  have y0 := g4.2.2
  clear g4
  clear f15 f18 f21 f24 e0
  clear f12
  subst e1
  subst e2
  unfold w32 at *
  try (have ix0 : n16 = n0 + 1 := (by omega); subst ix0)
  try subst k1
  try subst k0
  refine ⟨?_, fun q hq => ?_⟩
  · refine ⟨?_, ?_, ?_⟩ <;> first | assumption | omega | trivial
  · have g6 := Option.some.inj hq
    subst g6
    omega
def g_301_106_8 : vG := ([(10, [16, 8], [], 1), (61, [15, 7, 14], [], 0), (17, [14, 13], [], 0), (14, [13, 12], [], 0), (22, [12, 11, 8], [1], 0), (90, [12], [], -2147483648), (91, [12], [], 2147483647), (20, [11, 3], [1], 99), (0, [11], [], 357), (32, [10], [], 0), (22, [10, 9, 8], [1], 0), (90, [10], [], -2147483648), (91, [10], [], 2147483647), (20, [9, 3], [1], 99), (0, [9], [], 357), (42, [8, 4], [], 0), (5000, [0, 1, 2, 3, 4, 5, 6, 7, 8], [0, 1], 106), (0, [0], [], 285), (90, [1], [], 0), (91, [1], [], 240), (90, [2], [], 0), (91, [2], [], 9999), (0, [3], [], 285), (90, [4], [], 0), (91, [4], [], 240), (90, [5], [], 0), (91, [5], [], 9999), (90, [8], [], 0), (91, [8], [], 240)], (4000, [3, 4, 5, 6, 15, 16], [1], 106))
theorem c_301_106_8 {q0 : Nat} : vOkm T0 (eP e_301 L_301 A_301 mu_301 (some q0)) 3 g_301_106_8 := vOk_in fun ρ η h => by
  obtain ⟨f0, f1, f2, f3, f4, f5, f6, f7, f8, f9, f10, f11, f12, f13, f14, f15, f16, f17, f18, f19, f20, f21, f22, f23, f24, f25, f26, f27, f28, _⟩ := h
  exact q_301_17 (q0 := q0) (n0 := ρ 8) (n1 := ρ 5) (n2 := ρ 4) (n3 := ρ 3) (n4 := ρ 2) (n5 := ρ 1) (n6 := ρ 0) (n7 := ρ 6) (n8 := ρ 7) (n9 := ρ 9) (n10 := ρ 10) (n11 := ρ 11) (n12 := ρ 12) (n13 := ρ 13) (n14 := ρ 14) (n15 := ρ 15) (n16 := ρ 16) (H0 := η 0) (H1 := η 1) f28 f27 f26 f25 f24 f23 f22 f21 f20 f19 f18 f17 f16 f15 f14 f13 f12 f11 f10 f9 f8 f7 f6 f5 f4 f3 f2 f1 f0
def p_301_106 : List vG := [g_301_106_0,
  g_301_106_1,
  g_301_106_2,
  g_301_106_3,
  g_301_106_4,
  g_301_106_5,
  g_301_106_6,
  g_301_106_7,
  g_301_106_8]
theorem r_301_106 : vCovO true (eRc e_301 L_301 cs_301 2000 (106, [(0, (3, 12, 285, 0)), (1, (0, 0, 240, 0)), (2, (0, 0, 9999, 0)), (3, (1, 0, 0, 0)), (5, (1, 0, 0, 0)), (7, (0, 0, 240, 0))])) p_301_106 = true := by decide +kernel
theorem m_301 (d : Nat) : eC e_301 (d + 1) := eC_ok (e := e_301) (L := L_301) (cs := cs_301) (n := 2000) (d := d + 0) (A := A_301) (μ := mu_301) (tp := true) (p0 := p_301_s) rfl trivial rfl (.inr pre0_ok) (by decide +kernel) (fun _ => post0_ok) r_301_s (allC c_301_s_0 allN) (allC (.inl ⟨p_301_7, r_301_7, fun q0 => (allC c_301_7_0 (allC c_301_7_1 (allC c_301_7_2 (allC c_301_7_3 allN))))⟩) (allC (.inl ⟨p_301_24, r_301_24, fun q0 => (allC c_301_24_0 (allC c_301_24_1 (allC c_301_24_2 (allC c_301_24_3 (allC c_301_24_4 (allC c_301_24_5 (allC c_301_24_6 (allC c_301_24_7 (allC c_301_24_8 (allC c_301_24_9 (allC c_301_24_10 (allC c_301_24_11 (allC c_301_24_12 (allC c_301_24_13 (allC c_301_24_14 allN)))))))))))))))⟩) (allC (.inl ⟨p_301_106, r_301_106, fun q0 => (allC c_301_106_0 (allC c_301_106_1 (allC c_301_106_2 (allC c_301_106_3 (allC c_301_106_4 (allC c_301_106_5 (allC c_301_106_6 (allC c_301_106_7 (allC c_301_106_8 allN)))))))))⟩) allN)))
/- MixStageModel.loud (II)I -/
noncomputable def s_302 : vM := ([(3, 12, 285, 0), (0, -2147483648, 2147483647, 0), (0, -2147483648, 2147483647, 0)], (0, -2147483648, 2147483647, 0), 1, 0, [(572, 0), (684, 0)])
def preb_302 (a0 a1 a2 : Int) (h : gH) : Prop := SO h
def pre_302 : List Int → gH → Prop := fun xs h => match xs with
  | [a0, a1, a2] => preb_302 a0 a1 a2 h
  | _ => False
noncomputable def e_302 : vE := (302, s_302, pre_302, post0)
noncomputable def L_302 : List vE := [e_250, e_251, e_265, e_266, e_301]
def cs_302 : List vC := [(29, [(0, (3, 12, 285, 0)), (1, (0, -2147483648, 2147483647, 0)), (2, (0, -2147483648, 2147483647, 0)), (3, (0, 0, 240, 0)), (4, (0, 0, 240, 0))])]
def Ab_302_29 (a0 a1 a2 x0 x1 x2 x3 x4 : Int) (h0 h : gH) : Prop := x1 = a1 ∧ x2 = a2 ∧ 0 ≤ a1 ∧ a1 < hV h 285 64 ∧ 1 ≤ a2 ∧ a2 ≤ 60
def mub_302_29 (a0 a1 a2 x0 x1 x2 x3 x4 : Int) (h0 h : gH) : Nat := (2147483648 - x4).toNat
def A_302 : Int → List Int → gH → gH → Prop := fun c xs h0 h => match c.toNat with
  | 29 => (match xs with
    | [a0, a1, a2, x0, x1, x2, x3, x4] => Ab_302_29 a0 a1 a2 x0 x1 x2 x3 x4 h0 h
    | _ => False)
  | _ => True
def mu_302 : Int → List Int → gH → gH → Nat := fun c xs h0 h => match c.toNat with
  | 29 => (match xs with
    | [a0, a1, a2, x0, x1, x2, x3, x4] => mub_302_29 a0 a1 a2 x0 x1 x2 x3 x4 h0 h
    | _ => 0)
  | _ => 0
theorem q_302_0 {n0 n1 n2 : Int} {H0 H1 : gH} (f0 : n0 = 285) (f1 : (hLe T0 H0 H1 ∧ hFr s_250.2.2.2.2 H0 H1 ∧ ((0 : Int) = 0 → H1.length = H0.length) ∧ hWt T0 H1) ∧ postb_250 n1 n0 n2 H0 H1) (f2 : n1 ≠ 0) : 0 ≤ n2 := by
  unfold postb_250 at f1
  have e0 : hV H1 285 64 = hV H0 285 64 := f1.1.2.1.1 285 64 (by decide +kernel)
  have e1 : hV H1 285 64 = hV H0 285 64 := e0
  have e2 : (0 : Int) ≤ hV H1 285 64 ∧ hV H1 285 64 ≤ 20 := f1.1.2.2.2 285 64 _ _ (by decide +kernel)
  try simp only [e1] at e2
  try simp only [e1]
  have r0_0 := f1.2
  try simp only [e1] at r0_0
  clear e0 e1
  clear f1
  omega
def g_302_s_0 : vG := ([(31, [3], [], 0), (1250, [3, 0, 1], [0, 1], 0), (0, [0], [], 285)], (90, [1], [], 0))
theorem c_302_s_0 : vOkm T0 (eP e_302 L_302 A_302 mu_302 none) 3 g_302_s_0 := vOk_in fun ρ η h => by
  obtain ⟨f0, f1, f2, _⟩ := h
  exact q_302_0 (n0 := ρ 0) (n1 := ρ 3) (n2 := ρ 1) (H0 := η 0) (H1 := η 1) f2 f1 f0
theorem q_302_1 {n0 n1 n2 n3 : Int} {H0 H1 : gH} (f0 : n0 = 285) (f1 : hWt T0 H0 ∧ preb_302 n0 n1 n2 H0) (f2 : (hLe T0 H0 H1 ∧ hFr s_250.2.2.2.2 H0 H1 ∧ ((0 : Int) = 0 → H1.length = H0.length) ∧ hWt T0 H1) ∧ postb_250 n3 n0 n1 H0 H1) (f3 : n3 ≠ 0) : n1 ≤ 19 := by
  unfold preb_302 at f1
  unfold postb_250 at f2
  have e0 : hV H1 285 64 = hV H0 285 64 := f2.1.2.1.1 285 64 (by decide +kernel)
  have e1 : hV H1 285 64 = hV H0 285 64 := e0
  have e2 : (0 : Int) ≤ hV H1 285 64 ∧ hV H1 285 64 ≤ 20 := f2.1.2.2.2 285 64 _ _ (by decide +kernel)
  have e3 : (0 : Int) ≤ hV H0 285 64 ∧ hV H0 285 64 ≤ 20 := f1.1 285 64 _ _ (by decide +kernel)
  try simp only [e1] at e2
  try simp only [e1]
  have p0 := f1.2
  have r0_0 := f2.2
  try simp only [e1] at r0_0
  clear e0 e1
  clear f1 f2
  omega
def g_302_s_1 : vG := ([(31, [3], [], 0), (1250, [3, 0, 1], [0, 1], 0), (6000, [0, 1, 2], [0], 0), (0, [0], [], 285)], (91, [1], [], 19))
theorem c_302_s_1 : vOkm T0 (eP e_302 L_302 A_302 mu_302 none) 3 g_302_s_1 := vOk_in fun ρ η h => by
  obtain ⟨f0, f1, f2, f3, _⟩ := h
  exact q_302_1 (n0 := ρ 0) (n1 := ρ 1) (n2 := ρ 2) (n3 := ρ 3) (H0 := η 0) (H1 := η 1) f3 f2 f1 f0
theorem q_302_2 {n0 n1 n2 n3 n4 n5 n6 : Int} {H0 H1 H2 : gH} (f0 : n0 ≤ 2147483647) (f1 : (-2147483648) ≤ n0) (f2 : n1 ≤ 2147483647) (f3 : (-2147483648) ≤ n1) (f4 : n2 = 285) (f5 : hWt T0 H0 ∧ preb_302 n2 n1 n0 H0) (f6 : n3 ≤ 1) (f7 : 0 ≤ n3) (f8 : (hLe T0 H0 H1 ∧ hFr s_250.2.2.2.2 H0 H1 ∧ ((0 : Int) = 0 → H1.length = H0.length) ∧ hWt T0 H1) ∧ postb_250 n3 n2 n1 H0 H1) (f9 : n3 ≠ 0) (f10 : n4 = 1) (f11 : n5 = 60) (f12 : n6 ≤ 1) (f13 : 0 ≤ n6) (f14 : (hLe T0 H1 H2 ∧ hFr s_251.2.2.2.2 H1 H2 ∧ ((0 : Int) = 0 → H2.length = H1.length) ∧ hWt T0 H2) ∧ postb_251 n6 n0 n4 n5 H1 H2) (f15 : n6 ≠ 0) : preb_265 n2 n1 H2 := by
  unfold preb_302 at f5
  unfold postb_250 at f8
  unfold postb_251 at f14
  unfold preb_265
  have e0 : hV H1 285 64 = hV H0 285 64 := f8.1.2.1.1 285 64 (by decide +kernel)
  have e1 : hV H1 285 64 = hV H0 285 64 := e0
  have e2 : hV H2 285 64 = hV H1 285 64 := f14.1.2.1.1 285 64 (by decide +kernel)
  have e3 : hV H2 285 64 = hV H0 285 64 := (e2).trans e0
  have e4 : SO H1 = SO H0 := SO_fr f8.1.2.1 (by decide +kernel)
  have e5 : SO H2 = SO H1 := SO_fr f14.1.2.1 (by decide +kernel)
  have e6 : SO H2 = SO H0 := e5.trans e4
  have e7 : (0 : Int) ≤ hV H1 285 64 ∧ hV H1 285 64 ≤ 20 := f8.1.2.2.2 285 64 _ _ (by decide +kernel)
  have e8 : (0 : Int) ≤ hV H0 285 64 ∧ hV H0 285 64 ≤ 20 := f5.1 285 64 _ _ (by decide +kernel)
  have e9 : (0 : Int) ≤ hV H2 285 64 ∧ hV H2 285 64 ≤ 20 := f14.1.2.2.2 285 64 _ _ (by decide +kernel)
  try simp only [e1] at e7
  try simp only [e3] at e9
  try simp only [e1, e3, e6]
  have p0 := f5.2
  have r0_0 := f8.2
  have r1_0 := f14.2
  try simp only [e1] at r0_0
  clear e0 e1 e2 e3 e4 e5 e6
  clear f5 f8 f14
  refine ⟨?_, ?_⟩ <;> first | assumption | omega | trivial
def g_302_s_2 : vG := ([(31, [6], [], 0), (1251, [6, 2, 4, 5], [1, 2], 0), (90, [6], [], 0), (91, [6], [], 1), (0, [5], [], 60), (0, [4], [], 1), (31, [3], [], 0), (1250, [3, 0, 1], [0, 1], 0), (90, [3], [], 0), (91, [3], [], 1), (6000, [0, 1, 2], [0], 0), (0, [0], [], 285), (90, [1], [], -2147483648), (91, [1], [], 2147483647), (90, [2], [], -2147483648), (91, [2], [], 2147483647)], (2265, [0, 1], [2], 0))
theorem c_302_s_2 : vOkm T0 (eP e_302 L_302 A_302 mu_302 none) 3 g_302_s_2 := vOk_in fun ρ η h => by
  obtain ⟨f0, f1, f2, f3, f4, f5, f6, f7, f8, f9, f10, f11, f12, f13, f14, f15, _⟩ := h
  exact q_302_2 (n0 := ρ 2) (n1 := ρ 1) (n2 := ρ 0) (n3 := ρ 3) (n4 := ρ 4) (n5 := ρ 5) (n6 := ρ 6) (H0 := η 0) (H1 := η 1) (H2 := η 2) f15 f14 f13 f12 f11 f10 f9 f8 f7 f6 f5 f4 f3 f2 f1 f0
theorem q_302_3 {n0 n1 n2 n3 n4 n5 n6 n7 n8 : Int} {H0 H1 H2 H3 : gH} (f0 : n0 = 285) (f1 : (hLe T0 H0 H1 ∧ hFr s_250.2.2.2.2 H0 H1 ∧ ((0 : Int) = 0 → H1.length = H0.length) ∧ hWt T0 H1) ∧ postb_250 n1 n0 n2 H0 H1) (f2 : n1 ≠ 0) (f3 : n3 = 1) (f4 : n4 = 60) (f5 : (hLe T0 H1 H2 ∧ hFr s_251.2.2.2.2 H1 H2 ∧ ((0 : Int) = 0 → H2.length = H1.length) ∧ hWt T0 H2) ∧ postb_251 n5 n6 n3 n4 H1 H2) (f6 : n5 ≠ 0) (f7 : (hLe T0 H2 H3 ∧ hFr s_265.2.2.2.2 H2 H3 ∧ ((0 : Int) = 0 → H3.length = H2.length) ∧ hWt T0 H3) ∧ postb_265 n7 n0 n2 H2 H3) (f8 : n8 = 0) : Ab_302_29 n0 n2 n6 n0 n2 n6 n7 n8 H0 H3 ∧ ∀ q, none = some q → mub_302_29 n0 n2 n6 n0 n2 n6 n7 n8 H0 H3 < q := by
  unfold postb_250 at f1
  unfold postb_251 at f5
  unfold postb_265 at f7
  unfold Ab_302_29
  have e0 : hV H1 285 64 = hV H0 285 64 := f1.1.2.1.1 285 64 (by decide +kernel)
  have e1 : hV H1 285 64 = hV H0 285 64 := e0
  have e2 : hV H3 285 64 = hV H2 285 64 := f7.1.2.1.1 285 64 (by decide +kernel)
  have e3 : hV H2 285 64 = hV H1 285 64 := f5.1.2.1.1 285 64 (by decide +kernel)
  have e4 : hV H3 285 64 = hV H0 285 64 := (e2).trans ((e3).trans e0)
  have e5 : hV H3 328 = hV H2 328 := fRow f7.1.2.1 328 (by decide +kernel)
  have e6 : hV H2 328 = hV H1 328 := fRow f5.1.2.1 328 (by decide +kernel)
  have e7 : hV H1 328 = hV H0 328 := fRow f1.1.2.1 328 (by decide +kernel)
  have e8 : hV H2 328 = hV H0 328 := e6.trans e7
  have e9 : hV H3 328 = hV H0 328 := e5.trans e8
  have e10 : hV H3 330 = hV H2 330 := fRow f7.1.2.1 330 (by decide +kernel)
  have e11 : hV H2 330 = hV H1 330 := fRow f5.1.2.1 330 (by decide +kernel)
  have e12 : hV H1 330 = hV H0 330 := fRow f1.1.2.1 330 (by decide +kernel)
  have e13 : hV H2 330 = hV H0 330 := e11.trans e12
  have e14 : hV H3 330 = hV H0 330 := e10.trans e13
  have e15 : hV H3 332 = hV H2 332 := fRow f7.1.2.1 332 (by decide +kernel)
  have e16 : hV H2 332 = hV H1 332 := fRow f5.1.2.1 332 (by decide +kernel)
  have e17 : hV H1 332 = hV H0 332 := fRow f1.1.2.1 332 (by decide +kernel)
  have e18 : hV H2 332 = hV H0 332 := e16.trans e17
  have e19 : hV H3 332 = hV H0 332 := e15.trans e18
  have e20 : (0 : Int) ≤ hV H1 285 64 ∧ hV H1 285 64 ≤ 20 := f1.1.2.2.2 285 64 _ _ (by decide +kernel)
  have e21 : (0 : Int) ≤ hV H3 285 64 ∧ hV H3 285 64 ≤ 20 := f7.1.2.2.2 285 64 _ _ (by decide +kernel)
  try simp only [e1] at e20
  try simp only [e4] at e21
  try simp only [e1, e4, e9, e14, e19]
  have r0_0 := f1.2
  have r1_0 := f5.2
  have r2_0 := f7.2
  try simp only [e1] at r0_0
  try simp only [e4, e9, e14, e19] at r2_0
  clear e0 e1 e2 e3 e4 e5 e6 e7 e8 e9 e10 e11 e12 e13 e14 e15 e16 e17 e18 e19
  clear f1 f5 f7
  refine ⟨?_, fun q hq => ?_⟩
  · refine ⟨?_, ?_, ?_, ?_, ?_, ?_⟩ <;> first | assumption | omega | trivial
  · exact nomatch hq
def g_302_s_3 : vG := ([(0, [8], [], 0), (1265, [7, 0, 1], [2, 3], 0), (31, [6], [], 0), (1251, [6, 2, 4, 5], [1, 2], 0), (0, [5], [], 60), (0, [4], [], 1), (31, [3], [], 0), (1250, [3, 0, 1], [0, 1], 0), (0, [0], [], 285)], (4000, [0, 1, 2, 7, 8], [3], 29))
theorem c_302_s_3 : vOkm T0 (eP e_302 L_302 A_302 mu_302 none) 3 g_302_s_3 := vOk_in fun ρ η h => by
  obtain ⟨f0, f1, f2, f3, f4, f5, f6, f7, f8, _⟩ := h
  exact q_302_3 (n0 := ρ 0) (n1 := ρ 3) (n2 := ρ 1) (n3 := ρ 4) (n4 := ρ 5) (n5 := ρ 6) (n6 := ρ 2) (n7 := ρ 7) (n8 := ρ 8) (H0 := η 0) (H1 := η 1) (H2 := η 2) (H3 := η 3) f8 f7 f6 f5 f4 f3 f2 f1 f0
def p_302_s : List vG := [g_302_s_0,
  g_302_s_1,
  g_302_s_2,
  g_302_s_3]
theorem r_302_s : vCovO true (eR0 e_302 L_302 cs_302 2000) p_302_s = true := by decide +kernel
theorem q_302_4 {q0 : Nat} {n0 n1 n2 n3 n4 n5 n6 n7 : Int} {H0 H1 : gH} (f0 : n0 = 285) (f1 : n1 = 285) (f2 : (hLe T0 H0 H1 ∧ hFr s_302.2.2.2.2 H0 H1 ∧ hWt T0 H1) ∧ (Ab_302_29 n1 n2 n3 n0 n4 n5 n6 n7 H0 H1 ∧ preb_302 n1 n2 n3 H0) ∧ some q0 = some (mub_302_29 n1 n2 n3 n0 n4 n5 n6 n7 H0 H1)) : 0 ≤ n5 := by
  have g4 := f2.2.1.1
  unfold Ab_302_29 at g4
  have g3 := f2.2.1.2
  unfold preb_302 at g3
  have e0 : hV H1 285 64 = hV H0 285 64 := f2.1.2.1.1 285 64 (by decide +kernel)
  have e1 : hV H1 285 64 = hV H0 285 64 := e0
  have e2 : (0 : Int) ≤ hV H1 285 64 ∧ hV H1 285 64 ≤ 20 := f2.1.2.2 285 64 _ _ (by decide +kernel)
  try simp only [e1] at e2
  try simp only [e1]
  have k0 := g4.1
  have k1 := g4.2.1
  have y0 := g4.2.2.1
  have y1 := g4.2.2.2.1
  have y2 := g4.2.2.2.2.1
  have y3 := g4.2.2.2.2.2
  have p0 := g3
  try simp only [e1] at y1
  try simp only [e1] at p0
  clear g3
  clear g4
  clear e0 e1
  clear f2
  try subst k1
  try subst k0
  omega
def g_302_29_0 : vG := ([(5000, [0, 1, 2, 3, 4, 5, 6, 7], [0, 1], 29), (0, [0], [], 285), (0, [3], [], 285)], (90, [5], [], 0))
theorem c_302_29_0 {q0 : Nat} : vOkm T0 (eP e_302 L_302 A_302 mu_302 (some q0)) 3 g_302_29_0 := vOk_in fun ρ η h => by
  obtain ⟨f0, f1, f2, _⟩ := h
  exact q_302_4 (q0 := q0) (n0 := ρ 3) (n1 := ρ 0) (n2 := ρ 1) (n3 := ρ 2) (n4 := ρ 4) (n5 := ρ 5) (n6 := ρ 6) (n7 := ρ 7) (H0 := η 0) (H1 := η 1) f2 f1 f0
theorem q_302_5 {q0 : Nat} {n0 n1 n2 n3 n4 n5 n6 n7 : Int} {H0 H1 : gH} (f0 : n0 = 285) (f1 : n1 = 285) (f2 : (hLe T0 H0 H1 ∧ hFr s_302.2.2.2.2 H0 H1 ∧ hWt T0 H1) ∧ (Ab_302_29 n1 n2 n3 n0 n4 n5 n6 n7 H0 H1 ∧ preb_302 n1 n2 n3 H0) ∧ some q0 = some (mub_302_29 n1 n2 n3 n0 n4 n5 n6 n7 H0 H1)) : n5 ≤ 9999 := by
  have g4 := f2.2.1.1
  unfold Ab_302_29 at g4
  have g3 := f2.2.1.2
  unfold preb_302 at g3
  have e0 : hV H1 285 64 = hV H0 285 64 := f2.1.2.1.1 285 64 (by decide +kernel)
  have e1 : hV H1 285 64 = hV H0 285 64 := e0
  have e2 : (0 : Int) ≤ hV H1 285 64 ∧ hV H1 285 64 ≤ 20 := f2.1.2.2 285 64 _ _ (by decide +kernel)
  try simp only [e1] at e2
  try simp only [e1]
  have k0 := g4.1
  have k1 := g4.2.1
  have y0 := g4.2.2.1
  have y1 := g4.2.2.2.1
  have y2 := g4.2.2.2.2.1
  have y3 := g4.2.2.2.2.2
  have p0 := g3
  try simp only [e1] at y1
  try simp only [e1] at p0
  clear g3
  clear g4
  clear e0 e1
  clear f2
  try subst k1
  try subst k0
  omega
def g_302_29_1 : vG := ([(5000, [0, 1, 2, 3, 4, 5, 6, 7], [0, 1], 29), (0, [0], [], 285), (0, [3], [], 285)], (91, [5], [], 9999))
theorem c_302_29_1 {q0 : Nat} : vOkm T0 (eP e_302 L_302 A_302 mu_302 (some q0)) 3 g_302_29_1 := vOk_in fun ρ η h => by
  obtain ⟨f0, f1, f2, _⟩ := h
  exact q_302_5 (q0 := q0) (n0 := ρ 3) (n1 := ρ 0) (n2 := ρ 1) (n3 := ρ 2) (n4 := ρ 4) (n5 := ρ 5) (n6 := ρ 6) (n7 := ρ 7) (H0 := η 0) (H1 := η 1) f2 f1 f0
theorem q_302_6 {q0 : Nat} {n0 n1 n2 n3 n4 n5 n6 n7 : Int} {H0 H1 : gH} (f0 : n0 = 285) (f1 : n1 = 285) (f2 : (hLe T0 H0 H1 ∧ hFr s_302.2.2.2.2 H0 H1 ∧ hWt T0 H1) ∧ (Ab_302_29 n1 n2 n3 n0 n4 n5 n6 n7 H0 H1 ∧ preb_302 n1 n2 n3 H0) ∧ some q0 = some (mub_302_29 n1 n2 n3 n0 n4 n5 n6 n7 H0 H1)) : 0 ≤ n4 := by
  have g4 := f2.2.1.1
  unfold Ab_302_29 at g4
  have g3 := f2.2.1.2
  unfold preb_302 at g3
  have e0 : hV H1 285 64 = hV H0 285 64 := f2.1.2.1.1 285 64 (by decide +kernel)
  have e1 : hV H1 285 64 = hV H0 285 64 := e0
  have e2 : (0 : Int) ≤ hV H1 285 64 ∧ hV H1 285 64 ≤ 20 := f2.1.2.2 285 64 _ _ (by decide +kernel)
  try simp only [e1] at e2
  try simp only [e1]
  have k0 := g4.1
  have k1 := g4.2.1
  have y0 := g4.2.2.1
  have y1 := g4.2.2.2.1
  have y2 := g4.2.2.2.2.1
  have y3 := g4.2.2.2.2.2
  have p0 := g3
  try simp only [e1] at y1
  try simp only [e1] at p0
  clear g3
  clear g4
  clear e0 e1
  clear f2
  try subst k1
  try subst k0
  omega
def g_302_29_2 : vG := ([(5000, [0, 1, 2, 3, 4, 5, 6, 7], [0, 1], 29), (0, [0], [], 285), (0, [3], [], 285)], (90, [4], [], 0))
theorem c_302_29_2 {q0 : Nat} : vOkm T0 (eP e_302 L_302 A_302 mu_302 (some q0)) 3 g_302_29_2 := vOk_in fun ρ η h => by
  obtain ⟨f0, f1, f2, _⟩ := h
  exact q_302_6 (q0 := q0) (n0 := ρ 3) (n1 := ρ 0) (n2 := ρ 1) (n3 := ρ 2) (n4 := ρ 4) (n5 := ρ 5) (n6 := ρ 6) (n7 := ρ 7) (H0 := η 0) (H1 := η 1) f2 f1 f0
theorem q_302_7 {q0 : Nat} {n0 n1 n2 n3 n4 n5 n6 n7 : Int} {H0 H1 : gH} (f0 : n0 ≤ 240) (f1 : 0 ≤ n0) (f2 : n1 ≤ 240) (f3 : 0 ≤ n1) (f4 : n2 ≤ 2147483647) (f5 : (-2147483648) ≤ n2) (f6 : n3 ≤ 2147483647) (f7 : (-2147483648) ≤ n3) (f8 : n4 = 285) (f9 : n5 ≤ 2147483647) (f10 : (-2147483648) ≤ n5) (f11 : n6 ≤ 2147483647) (f12 : (-2147483648) ≤ n6) (f13 : n7 = 285) (f14 : (hLe T0 H0 H1 ∧ hFr s_302.2.2.2.2 H0 H1 ∧ hWt T0 H1) ∧ (Ab_302_29 n7 n6 n5 n4 n3 n2 n1 n0 H0 H1 ∧ preb_302 n7 n6 n5 H0) ∧ some q0 = some (mub_302_29 n7 n6 n5 n4 n3 n2 n1 n0 H0 H1)) (f15 : n0 < n1) : n3 ≤ 19 := by
  have g4 := f14.2.1.1
  unfold Ab_302_29 at g4
  have g3 := f14.2.1.2
  unfold preb_302 at g3
  have e0 : hV H1 285 64 = hV H0 285 64 := f14.1.2.1.1 285 64 (by decide +kernel)
  have e1 : hV H1 285 64 = hV H0 285 64 := e0
  have e2 : (0 : Int) ≤ hV H1 285 64 ∧ hV H1 285 64 ≤ 20 := f14.1.2.2 285 64 _ _ (by decide +kernel)
  try simp only [e1] at e2
  try simp only [e1]
  have k0 := g4.1
  have k1 := g4.2.1
  have y0 := g4.2.2.1
  have y1 := g4.2.2.2.1
  have y2 := g4.2.2.2.2.1
  have y3 := g4.2.2.2.2.2
  have p0 := g3
  try simp only [e1] at y1
  try simp only [e1] at p0
  clear g3
  clear g4
  clear e0 e1
  clear f14
  try subst k1
  try subst k0
  omega
def g_302_29_3 : vG := ([(42, [7, 6], [], 0), (5000, [0, 1, 2, 3, 4, 5, 6, 7], [0, 1], 29), (0, [0], [], 285), (90, [1], [], -2147483648), (91, [1], [], 2147483647), (90, [2], [], -2147483648), (91, [2], [], 2147483647), (0, [3], [], 285), (90, [4], [], -2147483648), (91, [4], [], 2147483647), (90, [5], [], -2147483648), (91, [5], [], 2147483647), (90, [6], [], 0), (91, [6], [], 240), (90, [7], [], 0), (91, [7], [], 240)], (91, [4], [], 19))
theorem c_302_29_3 {q0 : Nat} : vOkm T0 (eP e_302 L_302 A_302 mu_302 (some q0)) 3 g_302_29_3 := vOk_in fun ρ η h => by
  obtain ⟨f0, f1, f2, f3, f4, f5, f6, f7, f8, f9, f10, f11, f12, f13, f14, f15, _⟩ := h
  exact q_302_7 (q0 := q0) (n0 := ρ 7) (n1 := ρ 6) (n2 := ρ 5) (n3 := ρ 4) (n4 := ρ 3) (n5 := ρ 2) (n6 := ρ 1) (n7 := ρ 0) (H0 := η 0) (H1 := η 1) f15 f14 f13 f12 f11 f10 f9 f8 f7 f6 f5 f4 f3 f2 f1 f0
theorem q_302_8 {q0 : Nat} {n0 n1 n2 n3 n4 n5 n6 n7 : Int} {H0 H1 : gH} (f0 : n0 ≤ 240) (f1 : 0 ≤ n0) (f2 : n1 ≤ 240) (f3 : 0 ≤ n1) (f4 : n2 ≤ 2147483647) (f5 : (-2147483648) ≤ n2) (f6 : n3 ≤ 2147483647) (f7 : (-2147483648) ≤ n3) (f8 : n4 = 285) (f9 : n5 ≤ 2147483647) (f10 : (-2147483648) ≤ n5) (f11 : n6 ≤ 2147483647) (f12 : (-2147483648) ≤ n6) (f13 : n7 = 285) (f14 : (hLe T0 H0 H1 ∧ hFr s_302.2.2.2.2 H0 H1 ∧ hWt T0 H1) ∧ (Ab_302_29 n7 n6 n5 n4 n3 n2 n1 n0 H0 H1 ∧ preb_302 n7 n6 n5 H0) ∧ some q0 = some (mub_302_29 n7 n6 n5 n4 n3 n2 n1 n0 H0 H1)) (f15 : n0 < n1) : preb_266 n4 n3 n0 H1 := by
  have g4 := f14.2.1.1
  unfold Ab_302_29 at g4
  have g3 := f14.2.1.2
  unfold preb_302 at g3
  unfold preb_266
  have e0 : hV H1 285 64 = hV H0 285 64 := f14.1.2.1.1 285 64 (by decide +kernel)
  have e1 : hV H1 285 64 = hV H0 285 64 := e0
  have e2 : SO H1 = SO H0 := SO_fr f14.1.2.1 (by decide +kernel)
  have e3 : (0 : Int) ≤ hV H1 285 64 ∧ hV H1 285 64 ≤ 20 := f14.1.2.2 285 64 _ _ (by decide +kernel)
  try simp only [e1] at e3
  try simp only [e1, e2]
  have k0 := g4.1
  have k1 := g4.2.1
  have y0 := g4.2.2.1
  have y1 := g4.2.2.2.1
  have y2 := g4.2.2.2.2.1
  have y3 := g4.2.2.2.2.2
  have p0 := g3
  try simp only [e1, e2] at y1
  try simp only [e1, e2] at p0
  clear g3
  clear g4
  clear e0 e1 e2
  clear f14
  try subst k1
  try subst k0
  refine ⟨?_, ?_⟩ <;> first | assumption | omega | trivial
def g_302_29_4 : vG := ([(42, [7, 6], [], 0), (5000, [0, 1, 2, 3, 4, 5, 6, 7], [0, 1], 29), (0, [0], [], 285), (90, [1], [], -2147483648), (91, [1], [], 2147483647), (90, [2], [], -2147483648), (91, [2], [], 2147483647), (0, [3], [], 285), (90, [4], [], -2147483648), (91, [4], [], 2147483647), (90, [5], [], -2147483648), (91, [5], [], 2147483647), (90, [6], [], 0), (91, [6], [], 240), (90, [7], [], 0), (91, [7], [], 240)], (2266, [3, 4, 7], [1], 0))
theorem c_302_29_4 {q0 : Nat} : vOkm T0 (eP e_302 L_302 A_302 mu_302 (some q0)) 3 g_302_29_4 := vOk_in fun ρ η h => by
  obtain ⟨f0, f1, f2, f3, f4, f5, f6, f7, f8, f9, f10, f11, f12, f13, f14, f15, _⟩ := h
  exact q_302_8 (q0 := q0) (n0 := ρ 7) (n1 := ρ 6) (n2 := ρ 5) (n3 := ρ 4) (n4 := ρ 3) (n5 := ρ 2) (n6 := ρ 1) (n7 := ρ 0) (H0 := η 0) (H1 := η 1) f15 f14 f13 f12 f11 f10 f9 f8 f7 f6 f5 f4 f3 f2 f1 f0
theorem q_302_9 {q0 : Nat} {n0 n1 : Int} {H0 : gH} (f0 : 0 ≤ n0) (f1 : n1 ≤ 240) (f2 : n0 < n1) : 0 ≤ n0 ∧ n0 < 240 := by
  omega
def g_302_29_5 : vG := ([(42, [7, 6], [], 0), (91, [6], [], 240), (90, [7], [], 0)], (70, [7], [], 240))
theorem c_302_29_5 {q0 : Nat} : vOkm T0 (eP e_302 L_302 A_302 mu_302 (some q0)) 3 g_302_29_5 := vOk_in fun ρ η h => by
  obtain ⟨f0, f1, f2, _⟩ := h
  exact q_302_9 (q0 := q0) (n0 := ρ 7) (n1 := ρ 6) (H0 := η 0) f2 f1 f0
theorem q_302_10 {q0 : Nat} {n0 n1 n2 : Int} {H0 : gH} (f0 : 0 ≤ n0) (f1 : n1 ≤ 240) (f2 : n0 < n1) (f3 : n2 = w32 (n0 + 1)) : 0 ≤ n2 := by
  unfold w32 at *
  try (have ix0 : n2 = n0 + 1 := (by omega); subst ix0)
  omega
def g_302_29_6 : vG := ([(10, [10, 7], [], 1), (42, [7, 6], [], 0), (91, [6], [], 240), (90, [7], [], 0)], (90, [10], [], 0))
theorem c_302_29_6 {q0 : Nat} : vOkm T0 (eP e_302 L_302 A_302 mu_302 (some q0)) 3 g_302_29_6 := vOk_in fun ρ η h => by
  obtain ⟨f0, f1, f2, f3, _⟩ := h
  exact q_302_10 (q0 := q0) (n0 := ρ 7) (n1 := ρ 6) (n2 := ρ 10) (H0 := η 0) f3 f2 f1 f0
theorem q_302_11 {q0 : Nat} {n0 n1 n2 : Int} {H0 : gH} (f0 : 0 ≤ n0) (f1 : n1 ≤ 240) (f2 : n0 < n1) (f3 : n2 = w32 (n0 + 1)) : n2 ≤ 240 := by
  unfold w32 at *
  try (have ix0 : n2 = n0 + 1 := (by omega); subst ix0)
  omega
def g_302_29_7 : vG := ([(10, [10, 7], [], 1), (42, [7, 6], [], 0), (91, [6], [], 240), (90, [7], [], 0)], (91, [10], [], 240))
theorem c_302_29_7 {q0 : Nat} : vOkm T0 (eP e_302 L_302 A_302 mu_302 (some q0)) 3 g_302_29_7 := vOk_in fun ρ η h => by
  obtain ⟨f0, f1, f2, f3, _⟩ := h
  exact q_302_11 (q0 := q0) (n0 := ρ 7) (n1 := ρ 6) (n2 := ρ 10) (H0 := η 0) f3 f2 f1 f0
theorem q_302_12 {q0 : Nat} {n0 n1 n2 n3 n4 n5 n6 n7 n8 n9 n10 : Int} {H0 H1 H2 H3 : gH} (f0 : 0 ≤ n0) (f1 : n1 ≤ 240) (f2 : n2 = 285) (f3 : n3 = 285) (f4 : (hLe T0 H0 H1 ∧ hFr s_302.2.2.2.2 H0 H1 ∧ hWt T0 H1) ∧ (Ab_302_29 n3 n4 n5 n2 n6 n7 n1 n0 H0 H1 ∧ preb_302 n3 n4 n5 H0) ∧ some q0 = some (mub_302_29 n3 n4 n5 n2 n6 n7 n1 n0 H0 H1)) (f5 : n0 < n1) (f6 : n8 = 357) (f7 : (hLe T0 H1 H2 ∧ hFr s_266.2.2.2.2 H1 H2 ∧ ((0 : Int) = 0 → H2.length = H1.length) ∧ hWt T0 H2) ∧ True) (f8 : hUpd H3 H2 n8 n0 n9) (f9 : n10 = w32 (n0 + 1)) : Ab_302_29 n3 n4 n5 n2 n6 n7 n1 n10 H0 H3 ∧ ∀ q, some q0 = some q → mub_302_29 n3 n4 n5 n2 n6 n7 n1 n10 H0 H3 < q := by
  have g4 := f4.2.1.1
  unfold Ab_302_29 at g4
  have g3 := f4.2.1.2
  unfold preb_302 at g3
  have g5 := Option.some.inj f4.2.2
  unfold mub_302_29 at g5
  unfold Ab_302_29
  unfold mub_302_29
  have e0 : hV H1 285 64 = hV H0 285 64 := f4.1.2.1.1 285 64 (by decide +kernel)
  have e1 : hV H1 285 64 = hV H0 285 64 := e0
  have e2 : hV H3 285 64 = hV H2 285 64 := uPlace f8 _ _ (iS (show n8 = ((357 : Nat) : Int) from f6) rfl)
  have e3 : hV H2 285 64 = hV H1 285 64 := f7.1.2.1.1 285 64 (by decide +kernel)
  have e4 : hV H3 285 64 = hV H0 285 64 := (e2).trans ((e3).trans e0)
  have e5 : (0 : Int) ≤ hV H1 285 64 ∧ hV H1 285 64 ≤ 20 := f4.1.2.2 285 64 _ _ (by decide +kernel)
  try simp only [e1] at e5
  try simp only [e1, e4] at g5
  try simp only [e1, e4]
  have k0 := g4.1
  have k1 := g4.2.1
  have y0 := g4.2.2.1
  have y1 := g4.2.2.2.1
  have y2 := g4.2.2.2.2.1
  have y3 := g4.2.2.2.2.2
  have p0 := g3
  try simp only [e1] at y1
  try simp only [e1] at p0
  clear g3
  clear g4
  clear e0 e1 e2 e3 e4
  clear f4 f7
  unfold w32 at *
  try (have ix0 : n10 = n0 + 1 := (by omega); subst ix0)
  try subst k1
  try subst k0
  refine ⟨?_, fun q hq => ?_⟩
  · refine ⟨?_, ?_, ?_, ?_, ?_, ?_⟩ <;> first | assumption | omega | trivial
  · have g6 := Option.some.inj hq
    subst g6
    omega
def g_302_29_8 : vG := ([(10, [10, 7], [], 1), (80, [8, 7, 9], [3, 2], 0), (1266, [9, 3, 4, 7], [1, 2], 0), (0, [8], [], 357), (42, [7, 6], [], 0), (5000, [0, 1, 2, 3, 4, 5, 6, 7], [0, 1], 29), (0, [0], [], 285), (0, [3], [], 285), (91, [6], [], 240), (90, [7], [], 0)], (4000, [3, 4, 5, 6, 10], [3], 29))
theorem c_302_29_8 {q0 : Nat} : vOkm T0 (eP e_302 L_302 A_302 mu_302 (some q0)) 3 g_302_29_8 := vOk_in fun ρ η h => by
  obtain ⟨f0, f1, f2, f3, f4, f5, f6, f7, f8, f9, _⟩ := h
  exact q_302_12 (q0 := q0) (n0 := ρ 7) (n1 := ρ 6) (n2 := ρ 3) (n3 := ρ 0) (n4 := ρ 1) (n5 := ρ 2) (n6 := ρ 4) (n7 := ρ 5) (n8 := ρ 8) (n9 := ρ 9) (n10 := ρ 10) (H0 := η 0) (H1 := η 1) (H2 := η 2) (H3 := η 3) f9 f8 f7 f6 f5 f4 f3 f2 f1 f0
def p_302_29 : List vG := [g_302_29_0,
  g_302_29_1,
  g_302_29_2,
  g_302_29_3,
  g_302_29_4,
  g_302_29_5,
  g_302_29_6,
  g_302_29_7,
  g_302_29_8]
theorem r_302_29 : vCovO true (eRc e_302 L_302 cs_302 2000 (29, [(0, (3, 12, 285, 0)), (1, (0, -2147483648, 2147483647, 0)), (2, (0, -2147483648, 2147483647, 0)), (3, (0, 0, 240, 0)), (4, (0, 0, 240, 0))])) p_302_29 = true := by decide +kernel
theorem m_302 (d : Nat) : eC e_302 (d + 3) := eC_ok (e := e_302) (L := L_302) (cs := cs_302) (n := 2000) (d := d + 2) (A := A_302) (μ := mu_302) (tp := true) (p0 := p_302_s) rfl ⟨m_250 (d + 1), ⟨m_251 (d + 1), ⟨m_265 (d + 1), ⟨m_266 d, ⟨m_301 (d + 1), trivial⟩⟩⟩⟩⟩ rfl (.inl rfl) (by decide +kernel) (fun _ => post0_ok) r_302_s (allC c_302_s_0 (allC c_302_s_1 (allC c_302_s_2 (allC c_302_s_3 allN)))) (allC (.inl ⟨p_302_29, r_302_29, fun q0 => (allC c_302_29_0 (allC c_302_29_1 (allC c_302_29_2 (allC c_302_29_3 (allC c_302_29_4 (allC c_302_29_5 (allC c_302_29_6 (allC c_302_29_7 (allC c_302_29_8 allN)))))))))⟩) allN)
/- MixStageModel.bits (I)I -/
noncomputable def s_303 : vM := ([(0, -2147483648, 2147483647, 0)], (0, -2147483648, 2147483647, 0), 0, 0, [])
noncomputable def e_303 : vE := (303, s_303, pre0, post0)
noncomputable def L_303 : List vE := []
def cs_303 : List vC := [(4, [(0, (0, -2147483648, 2147483647, 0)), (1, (0, -2147483648, 2147483647, 0)), (2, (0, -2147483648, 2147483647, 0))])]
def mub_303_4 (a0 x0 x1 x2 : Int) (h0 h : gH) : Nat := (2147483648 - x2).toNat
def A_303 : Int → List Int → gH → gH → Prop := fun c xs h0 h => True
def mu_303 : Int → List Int → gH → gH → Nat := fun c xs h0 h => match c.toNat with
  | 4 => (match xs with
    | [a0, x0, x1, x2] => mub_303_4 a0 x0 x1 x2 h0 h
    | _ => 0)
  | _ => 0
theorem q_303_0 {n0 n1 n2 : Int} {H0 : gH}  : True ∧ ∀ q, none = some q → mub_303_4 n0 n0 n1 n2 H0 H0 < q := by
  exact ⟨trivial, fun q hq => nomatch hq⟩
def g_303_s_0 : vG := ([], (4000, [0, 1, 2], [0], 4))
theorem c_303_s_0 : vOkm T0 (eP e_303 L_303 A_303 mu_303 none) 1 g_303_s_0 := vOk_in fun ρ η h => by
  obtain ⟨_⟩ := h
  exact q_303_0 (n0 := ρ 0) (n1 := ρ 1) (n2 := ρ 2) (H0 := η 0) 
def p_303_s : List vG := [g_303_s_0]
theorem r_303_s : vCovO true (eR0 e_303 L_303 cs_303 2000) p_303_s = true := by decide +kernel
theorem q_303_1 {q0 : Nat} {n0 n1 n2 n3 n4 n5 n6 n7 n8 n9 : Int} {H0 H1 : gH} (f0 : n0 ≤ 2147483647) (f1 : (-2147483648) ≤ n0) (f2 : n1 ≤ 2147483647) (f3 : (-2147483648) ≤ n1) (f4 : n2 ≤ 2147483647) (f5 : (-2147483648) ≤ n2) (f6 : n3 ≤ 2147483647) (f7 : (-2147483648) ≤ n3) (f8 : (hLe T0 H0 H1 ∧ hFr s_303.2.2.2.2 H0 H1 ∧ hWt T0 H1) ∧ (True ∧ True) ∧ some q0 = some (mub_303_4 n3 n2 n1 n0 H0 H1)) (f9 : n4 = 8) (f10 : n0 < n4) (f11 : n5 = o32 (fun x y => x >>> (y &&& 31)) n2 n0) (f12 : n6 = 1) (f13 : n7 = o32 (fun x y => x &&& y) n5 n6) (f14 : n8 = w32 (n1 + n7)) (f15 : n9 = w32 (n0 + 1)) : True ∧ ∀ q, some q0 = some q → mub_303_4 n3 n2 n8 n9 H0 H1 < q := by
  have g5 := Option.some.inj f8.2.2
  unfold mub_303_4 at g5
  unfold mub_303_4
  clear f8
  have b13 := o32_and_r f13 (by omega) (by omega)
  unfold w32 at *
  try (have ix0 : n8 = n1 + n7 := (by omega); subst ix0)
  try (have ix1 : n9 = n0 + 1 := (by omega); subst ix1)
  refine ⟨?_, fun q hq => ?_⟩
  · trivial
  · have g6 := Option.some.inj hq
    subst g6
    omega
def g_303_4_0 : vG := ([(10, [9, 3], [], 1), (1, [8, 2, 7], [], 0), (4, [7, 5, 6], [], 0), (0, [6], [], 1), (8, [5, 1, 3], [], 0), (42, [3, 4], [], 0), (0, [4], [], 8), (5000, [0, 1, 2, 3], [0, 1], 4), (90, [0], [], -2147483648), (91, [0], [], 2147483647), (90, [1], [], -2147483648), (91, [1], [], 2147483647), (90, [2], [], -2147483648), (91, [2], [], 2147483647), (90, [3], [], -2147483648), (91, [3], [], 2147483647)], (4000, [1, 8, 9], [1], 4))
theorem c_303_4_0 {q0 : Nat} : vOkm T0 (eP e_303 L_303 A_303 mu_303 (some q0)) 1 g_303_4_0 := vOk_in fun ρ η h => by
  obtain ⟨f0, f1, f2, f3, f4, f5, f6, f7, f8, f9, f10, f11, f12, f13, f14, f15, _⟩ := h
  exact q_303_1 (q0 := q0) (n0 := ρ 3) (n1 := ρ 2) (n2 := ρ 1) (n3 := ρ 0) (n4 := ρ 4) (n5 := ρ 5) (n6 := ρ 6) (n7 := ρ 7) (n8 := ρ 8) (n9 := ρ 9) (H0 := η 0) (H1 := η 1) f15 f14 f13 f12 f11 f10 f9 f8 f7 f6 f5 f4 f3 f2 f1 f0
def p_303_4 : List vG := [g_303_4_0]
theorem r_303_4 : vCovO true (eRc e_303 L_303 cs_303 2000 (4, [(0, (0, -2147483648, 2147483647, 0)), (1, (0, -2147483648, 2147483647, 0)), (2, (0, -2147483648, 2147483647, 0))])) p_303_4 = true := by decide +kernel
theorem m_303 (d : Nat) : eC e_303 (d + 1) := eC_ok (e := e_303) (L := L_303) (cs := cs_303) (n := 2000) (d := d + 0) (A := A_303) (μ := mu_303) (tp := true) (p0 := p_303_s) rfl trivial rfl (.inr pre0_ok) (by decide +kernel) (fun _ => post0_ok) r_303_s (allC c_303_s_0 allN) (allC (.inl ⟨p_303_4, r_303_4, fun q0 => (allC c_303_4_0 allN)⟩) allN)
/- MixStageModel.missed (IIIII)I -/
noncomputable def s_306 : vM := ([(3, 12, 285, 0), (0, 0, 19, 0), (0, 0, 19, 0), (0, -2147483648, 2147483647, 0), (0, -2147483648, 2147483647, 0), (0, -2147483648, 2147483647, 0)], (0, -2147483648, 2147483647, 0), 0, 0, [])
noncomputable def e_306 : vE := (306, s_306, pre0, post0)
noncomputable def L_306 : List vE := []
def cs_306 : List vC := [(6, [(0, (3, 12, 285, 0)), (1, (0, 0, 19, 0)), (2, (0, 0, 19, 0)), (3, (0, -2147483648, 2147483647, 0)), (4, (0, -2147483648, 2147483647, 0)), (5, (0, -2147483648, 2147483647, 0)), (6, (0, -2147483648, 2147483647, 0)), (7, (0, 0, 8, 0))]), (46, [(0, (3, 12, 285, 0)), (1, (0, 0, 19, 0)), (2, (0, 0, 19, 0)), (3, (0, -2147483648, 2147483647, 0)), (4, (0, -2147483648, 2147483647, 0)), (5, (0, -2147483648, 2147483647, 0)), (6, (0, -2147483648, 2147483647, 0)), (7, (0, 0, 7, 0)), (8, (0, -2147483648, 2147483647, 0)), (9, (0, -2147483648, 2147483647, 0)), (10, (0, 0, 8, 0))])]
def mub_306_6 (a0 a1 a2 a3 a4 a5 x0 x1 x2 x3 x4 x5 x6 x7 : Int) (h0 h : gH) : Nat := (8589934592 + (2147483648 - x7).toNat) * 1099511627776 + 1099511627775
def mub_306_46 (a0 a1 a2 a3 a4 a5 x0 x1 x2 x3 x4 x5 x6 x7 x8 x9 x10 : Int) (h0 h : gH) : Nat := (8589934592 + (2147483648 - x7).toNat) * 1099511627776 + (8589934592 + (2147483648 - x10).toNat) * 1
def A_306 : Int → List Int → gH → gH → Prop := fun c xs h0 h => True
def mu_306 : Int → List Int → gH → gH → Nat := fun c xs h0 h => match c.toNat with
  | 6 => (match xs with
    | [a0, a1, a2, a3, a4, a5, x0, x1, x2, x3, x4, x5, x6, x7] => mub_306_6 a0 a1 a2 a3 a4 a5 x0 x1 x2 x3 x4 x5 x6 x7 h0 h
    | _ => 0)
  | 46 => (match xs with
    | [a0, a1, a2, a3, a4, a5, x0, x1, x2, x3, x4, x5, x6, x7, x8, x9, x10] => mub_306_46 a0 a1 a2 a3 a4 a5 x0 x1 x2 x3 x4 x5 x6 x7 x8 x9 x10 h0 h
    | _ => 0)
  | _ => 0
theorem q_306_0 {n0 n1 n2 n3 n4 n5 n6 n7 : Int} {H0 : gH}  : True ∧ ∀ q, none = some q → mub_306_6 n0 n1 n2 n3 n4 n5 n0 n1 n2 n3 n4 n5 n6 n7 H0 H0 < q := by
  exact ⟨trivial, fun q hq => nomatch hq⟩
def g_306_s_0 : vG := ([], (4000, [0, 1, 2, 3, 4, 5, 6, 7], [0], 6))
theorem c_306_s_0 : vOkm T0 (eP e_306 L_306 A_306 mu_306 none) 6 g_306_s_0 := vOk_in fun ρ η h => by
  obtain ⟨_⟩ := h
  exact q_306_0 (n0 := ρ 0) (n1 := ρ 1) (n2 := ρ 2) (n3 := ρ 3) (n4 := ρ 4) (n5 := ρ 5) (n6 := ρ 6) (n7 := ρ 7) (H0 := η 0) 
def p_306_s : List vG := [g_306_s_0]
theorem r_306_s : vCovO true (eR0 e_306 L_306 cs_306 2000) p_306_s = true := by decide +kernel
theorem q_306_1 {q0 : Nat} {n0 n1 n2 n3 n4 n5 : Int} {H0 : gH} (f0 : 0 ≤ n0) (f1 : n1 ≤ 19) (f2 : 0 ≤ n1) (f3 : n2 ≤ 8) (f4 : n0 < n2) (f5 : n3 = 8) (f6 : n4 = w32 (n3 * n1)) (f7 : n5 = w32 (n4 + n0)) : 0 ≤ n5 ∧ n5 < 160 := by
  rw [f5] at f6
  unfold w32 at *
  try (have ix0 : n4 = 8 * n1 := (by omega); subst ix0)
  try (have ix1 : n5 = (8 * n1) + n0 := (by omega); subst ix1)
  omega
def g_306_6_0 : vG := ([(1, [19, 18, 13], [], 0), (3, [18, 17, 7], [], 0), (0, [17], [], 8), (42, [13, 15], [], 0), (91, [15], [], 8), (90, [7], [], 0), (91, [7], [], 19), (90, [13], [], 0)], (70, [19], [], 160))
theorem c_306_6_0 {q0 : Nat} : vOkm T0 (eP e_306 L_306 A_306 mu_306 (some q0)) 6 g_306_6_0 := vOk_in fun ρ η h => by
  obtain ⟨f0, f1, f2, f3, f4, f5, f6, f7, _⟩ := h
  exact q_306_1 (q0 := q0) (n0 := ρ 13) (n1 := ρ 7) (n2 := ρ 15) (n3 := ρ 17) (n4 := ρ 18) (n5 := ρ 19) (H0 := η 0) f7 f6 f5 f4 f3 f2 f1 f0
theorem q_306_2 {q0 : Nat} {n0 n1 : Int} {H0 : gH} (f0 : n0 ≤ 8) (f1 : n1 < n0) : n1 ≤ 7 := by
  omega
def g_306_6_1 : vG := ([(42, [13, 15], [], 0), (91, [15], [], 8)], (91, [13], [], 7))
theorem c_306_6_1 {q0 : Nat} : vOkm T0 (eP e_306 L_306 A_306 mu_306 (some q0)) 6 g_306_6_1 := vOk_in fun ρ η h => by
  obtain ⟨f0, f1, _⟩ := h
  exact q_306_2 (q0 := q0) (n0 := ρ 15) (n1 := ρ 13) (H0 := η 0) f1 f0
theorem q_306_3 {q0 : Nat} {n0 n1 n2 n3 n4 n5 n6 n7 n8 n9 n10 n11 n12 n13 n14 n15 n16 n17 n18 n19 n20 n21 n22 n23 n24 n25 n26 : Int} {H0 H1 : gH} (f0 : n0 ≤ 8) (f1 : 0 ≤ n0) (f2 : n1 ≤ 2147483647) (f3 : (-2147483648) ≤ n1) (f4 : n2 ≤ 2147483647) (f5 : (-2147483648) ≤ n2) (f6 : n3 ≤ 2147483647) (f7 : (-2147483648) ≤ n3) (f8 : n4 ≤ 2147483647) (f9 : (-2147483648) ≤ n4) (f10 : n5 ≤ 19) (f11 : 0 ≤ n5) (f12 : n6 ≤ 19) (f13 : 0 ≤ n6) (f14 : n7 = 285) (f15 : n8 ≤ 2147483647) (f16 : (-2147483648) ≤ n8) (f17 : n9 ≤ 2147483647) (f18 : (-2147483648) ≤ n9) (f19 : n10 ≤ 2147483647) (f20 : (-2147483648) ≤ n10) (f21 : n11 ≤ 19) (f22 : 0 ≤ n11) (f23 : n12 ≤ 19) (f24 : 0 ≤ n12) (f25 : n13 = 285) (f26 : (hLe T0 H0 H1 ∧ hFr s_306.2.2.2.2 H0 H1 ∧ hWt T0 H1) ∧ (True ∧ True) ∧ some q0 = some (mub_306_6 n13 n12 n11 n10 n9 n8 n7 n6 n5 n4 n3 n2 n1 n0 H0 H1)) (f27 : n14 = 338) (f28 : n14 = hV H1 (n7).toNat 76) (f29 : n15 ≤ 8) (f30 : 0 ≤ n15) (f31 : n15 = hV H1 (n14).toNat (n6).toNat) (f32 : n0 < n15) (f33 : n16 = 339) (f34 : n16 = hV H1 (n7).toNat 77) (f35 : n17 = 8) (f36 : n18 = w32 (n17 * n6)) (f37 : n19 = w32 (n18 + n0)) (f38 : n20 ≤ 59) (f39 : 0 ≤ n20) (f40 : n20 = hV H1 (n16).toNat (n19).toNat) (f41 : n21 = w32 (n20 * n2)) (f42 : n22 = 10) (f43 : n23 = o32 (fun x y => x / y) n21 n22) (f44 : n24 = w32 (n3 + n23)) (f45 : n25 = 0) (f46 : n26 = 0) : True ∧ ∀ q, some q0 = some q → mub_306_46 n13 n12 n11 n10 n9 n8 n7 n6 n5 n4 n3 n2 n1 n0 n24 n25 n26 H0 H1 < q := by
  have g5 := Option.some.inj f26.2.2
  unfold mub_306_6 at g5
  unfold mub_306_46
  have e0 : hV H1 338 = hV H0 338 := fRow f26.1.2.1 338 (by decide +kernel)
  have e1 : n15 = hV H0 338 (n6).toNat := (by rw [f27] at f31; exact f31 : n15 = hV H1 338 (n6).toNat).trans ((congrFun e0 _))
  have e2 : hV H1 339 = hV H0 339 := fRow f26.1.2.1 339 (by decide +kernel)
  have e3 : n20 = hV H0 339 (n19).toNat := (by rw [f33] at f40; exact f40 : n20 = hV H1 339 (n19).toNat).trans ((congrFun e2 _))
  clear f28 f31 f34 f40 e0 e2
  clear f26
  subst e1
  subst e3
  first | have b43 := o32_div_pos f43 (by omega) (by omega) (by omega) (by omega) | skip
  try rw [f42] at b43
  rw [f35] at f36
  unfold w32 at *
  try (have ix0 : n18 = 8 * n6 := (by omega); subst ix0)
  try (have ix1 : n19 = (8 * n6) + n0 := (by omega); subst ix1)
  try (have ix2 : n24 = n3 + n23 := (by omega); subst ix2)
  refine ⟨?_, fun q hq => ?_⟩
  · trivial
  · have g6 := Option.some.inj hq
    subst g6
    omega
def g_306_6_2 : vG := ([(0, [26], [], 0), (0, [25], [], 0), (1, [24, 10, 23], [], 0), (11, [23, 21, 22], [], 0), (0, [22], [], 10), (3, [21, 20, 11], [], 0), (22, [20, 16, 19], [1], 0), (90, [20], [], 0), (91, [20], [], 59), (1, [19, 18, 13], [], 0), (3, [18, 17, 7], [], 0), (0, [17], [], 8), (20, [16, 6], [1], 77), (0, [16], [], 339), (42, [13, 15], [], 0), (22, [15, 14, 7], [1], 0), (90, [15], [], 0), (91, [15], [], 8), (20, [14, 6], [1], 76), (0, [14], [], 338), (5000, [0, 1, 2, 3, 4, 5, 6, 7, 8, 9, 10, 11, 12, 13], [0, 1], 6), (0, [0], [], 285), (90, [1], [], 0), (91, [1], [], 19), (90, [2], [], 0), (91, [2], [], 19), (90, [3], [], -2147483648), (91, [3], [], 2147483647), (90, [4], [], -2147483648), (91, [4], [], 2147483647), (90, [5], [], -2147483648), (91, [5], [], 2147483647), (0, [6], [], 285), (90, [7], [], 0), (91, [7], [], 19), (90, [8], [], 0), (91, [8], [], 19), (90, [9], [], -2147483648), (91, [9], [], 2147483647), (90, [10], [], -2147483648), (91, [10], [], 2147483647), (90, [11], [], -2147483648), (91, [11], [], 2147483647), (90, [12], [], -2147483648), (91, [12], [], 2147483647), (90, [13], [], 0), (91, [13], [], 8)], (4000, [6, 7, 8, 9, 10, 11, 12, 13, 24, 25, 26], [1], 46))
theorem c_306_6_2 {q0 : Nat} : vOkm T0 (eP e_306 L_306 A_306 mu_306 (some q0)) 6 g_306_6_2 := vOk_in fun ρ η h => by
  obtain ⟨f0, f1, f2, f3, f4, f5, f6, f7, f8, f9, f10, f11, f12, f13, f14, f15, f16, f17, f18, f19, f20, f21, f22, f23, f24, f25, f26, f27, f28, f29, f30, f31, f32, f33, f34, f35, f36, f37, f38, f39, f40, f41, f42, f43, f44, f45, f46, _⟩ := h
  exact q_306_3 (q0 := q0) (n0 := ρ 13) (n1 := ρ 12) (n2 := ρ 11) (n3 := ρ 10) (n4 := ρ 9) (n5 := ρ 8) (n6 := ρ 7) (n7 := ρ 6) (n8 := ρ 5) (n9 := ρ 4) (n10 := ρ 3) (n11 := ρ 2) (n12 := ρ 1) (n13 := ρ 0) (n14 := ρ 14) (n15 := ρ 15) (n16 := ρ 16) (n17 := ρ 17) (n18 := ρ 18) (n19 := ρ 19) (n20 := ρ 20) (n21 := ρ 21) (n22 := ρ 22) (n23 := ρ 23) (n24 := ρ 24) (n25 := ρ 25) (n26 := ρ 26) (H0 := η 0) (H1 := η 1) f46 f45 f44 f43 f42 f41 f40 f39 f38 f37 f36 f35 f34 f33 f32 f31 f30 f29 f28 f27 f26 f25 f24 f23 f22 f21 f20 f19 f18 f17 f16 f15 f14 f13 f12 f11 f10 f9 f8 f7 f6 f5 f4 f3 f2 f1 f0
def p_306_6 : List vG := [g_306_6_0,
  g_306_6_1,
  g_306_6_2]
theorem r_306_6 : vCovO true (eRc e_306 L_306 cs_306 2000 (6, [(0, (3, 12, 285, 0)), (1, (0, 0, 19, 0)), (2, (0, 0, 19, 0)), (3, (0, -2147483648, 2147483647, 0)), (4, (0, -2147483648, 2147483647, 0)), (5, (0, -2147483648, 2147483647, 0)), (6, (0, -2147483648, 2147483647, 0)), (7, (0, 0, 8, 0))])) p_306_6 = true := by decide +kernel
theorem q_306_4 {q0 : Nat} {n0 n1 : Int} {H0 : gH} (f0 : n0 ≤ 7) (f1 : 0 ≤ n0) (f2 : n1 = w32 (n0 + 1)) : 0 ≤ n1 := by
  unfold w32 at *
  try (have ix0 : n1 = n0 + 1 := (by omega); subst ix0)
  omega
def g_306_46_0 : vG := ([(10, [19, 13], [], 1), (90, [13], [], 0), (91, [13], [], 7)], (90, [19], [], 0))
theorem c_306_46_0 {q0 : Nat} : vOkm T0 (eP e_306 L_306 A_306 mu_306 (some q0)) 6 g_306_46_0 := vOk_in fun ρ η h => by
  obtain ⟨f0, f1, f2, _⟩ := h
  exact q_306_4 (q0 := q0) (n0 := ρ 13) (n1 := ρ 19) (H0 := η 0) f2 f1 f0
theorem q_306_5 {q0 : Nat} {n0 n1 : Int} {H0 : gH} (f0 : n0 ≤ 7) (f1 : 0 ≤ n0) (f2 : n1 = w32 (n0 + 1)) : n1 ≤ 8 := by
  unfold w32 at *
  try (have ix0 : n1 = n0 + 1 := (by omega); subst ix0)
  omega
def g_306_46_1 : vG := ([(10, [19, 13], [], 1), (90, [13], [], 0), (91, [13], [], 7)], (91, [19], [], 8))
theorem c_306_46_1 {q0 : Nat} : vOkm T0 (eP e_306 L_306 A_306 mu_306 (some q0)) 6 g_306_46_1 := vOk_in fun ρ η h => by
  obtain ⟨f0, f1, f2, _⟩ := h
  exact q_306_5 (q0 := q0) (n0 := ρ 13) (n1 := ρ 19) (H0 := η 0) f2 f1 f0
theorem q_306_6 {q0 : Nat} {n0 n1 n2 n3 n4 n5 n6 n7 n8 n9 n10 n11 n12 n13 n14 n15 n16 n17 n18 n19 : Int} {H0 H1 : gH} (f0 : n0 ≤ 8) (f1 : 0 ≤ n0) (f2 : n1 ≤ 2147483647) (f3 : (-2147483648) ≤ n1) (f4 : n2 ≤ 2147483647) (f5 : (-2147483648) ≤ n2) (f6 : n3 ≤ 7) (f7 : 0 ≤ n3) (f8 : n4 ≤ 2147483647) (f9 : (-2147483648) ≤ n4) (f10 : n5 ≤ 2147483647) (f11 : (-2147483648) ≤ n5) (f12 : n6 ≤ 2147483647) (f13 : (-2147483648) ≤ n6) (f14 : n7 ≤ 2147483647) (f15 : (-2147483648) ≤ n7) (f16 : n8 ≤ 19) (f17 : 0 ≤ n8) (f18 : n9 ≤ 19) (f19 : 0 ≤ n9) (f20 : n10 = 285) (f21 : n11 ≤ 2147483647) (f22 : (-2147483648) ≤ n11) (f23 : n12 ≤ 2147483647) (f24 : (-2147483648) ≤ n12) (f25 : n13 ≤ 2147483647) (f26 : (-2147483648) ≤ n13) (f27 : n14 ≤ 19) (f28 : 0 ≤ n14) (f29 : n15 ≤ 19) (f30 : 0 ≤ n15) (f31 : n16 = 285) (f32 : (hLe T0 H0 H1 ∧ hFr s_306.2.2.2.2 H0 H1 ∧ hWt T0 H1) ∧ (True ∧ True) ∧ some q0 = some (mub_306_46 n16 n15 n14 n13 n12 n11 n10 n9 n8 n7 n6 n5 n4 n3 n2 n1 n0 H0 H1)) (f33 : n17 = 338) (f34 : n17 = hV H1 (n10).toNat 76) (f35 : n18 ≤ 8) (f36 : 0 ≤ n18) (f37 : n18 = hV H1 (n17).toNat (n8).toNat) (f38 : n18 ≤ n0) (f39 : n1 ≠ 0) (f40 : n19 = w32 (n3 + 1)) : True ∧ ∀ q, some q0 = some q → mub_306_6 n16 n15 n14 n13 n12 n11 n10 n9 n8 n7 n6 n5 n4 n19 H0 H1 < q := by
  have g5 := Option.some.inj f32.2.2
  unfold mub_306_46 at g5
  unfold mub_306_6
  have e0 : hV H1 338 = hV H0 338 := fRow f32.1.2.1 338 (by decide +kernel)
  have e1 : n18 = hV H0 338 (n8).toNat := (by rw [f33] at f37; exact f37 : n18 = hV H1 338 (n8).toNat).trans ((congrFun e0 _))
  clear f34 f37 e0
  clear f32
  subst e1
  unfold w32 at *
  try (have ix0 : n19 = n3 + 1 := (by omega); subst ix0)
  refine ⟨?_, fun q hq => ?_⟩
  · trivial
  · have g6 := Option.some.inj hq
    subst g6
    omega
def g_306_46_2 : vG := ([(10, [19, 13], [], 1), (31, [15], [], 0), (43, [16, 18], [], 0), (22, [18, 17, 8], [1], 0), (90, [18], [], 0), (91, [18], [], 8), (20, [17, 6], [1], 76), (0, [17], [], 338), (5000, [0, 1, 2, 3, 4, 5, 6, 7, 8, 9, 10, 11, 12, 13, 14, 15, 16], [0, 1], 46), (0, [0], [], 285), (90, [1], [], 0), (91, [1], [], 19), (90, [2], [], 0), (91, [2], [], 19), (90, [3], [], -2147483648), (91, [3], [], 2147483647), (90, [4], [], -2147483648), (91, [4], [], 2147483647), (90, [5], [], -2147483648), (91, [5], [], 2147483647), (0, [6], [], 285), (90, [7], [], 0), (91, [7], [], 19), (90, [8], [], 0), (91, [8], [], 19), (90, [9], [], -2147483648), (91, [9], [], 2147483647), (90, [10], [], -2147483648), (91, [10], [], 2147483647), (90, [11], [], -2147483648), (91, [11], [], 2147483647), (90, [12], [], -2147483648), (91, [12], [], 2147483647), (90, [13], [], 0), (91, [13], [], 7), (90, [14], [], -2147483648), (91, [14], [], 2147483647), (90, [15], [], -2147483648), (91, [15], [], 2147483647), (90, [16], [], 0), (91, [16], [], 8)], (4000, [6, 7, 8, 9, 10, 11, 12, 19], [1], 6))
theorem c_306_46_2 {q0 : Nat} : vOkm T0 (eP e_306 L_306 A_306 mu_306 (some q0)) 6 g_306_46_2 := vOk_in fun ρ η h => by
  obtain ⟨f0, f1, f2, f3, f4, f5, f6, f7, f8, f9, f10, f11, f12, f13, f14, f15, f16, f17, f18, f19, f20, f21, f22, f23, f24, f25, f26, f27, f28, f29, f30, f31, f32, f33, f34, f35, f36, f37, f38, f39, f40, _⟩ := h
  exact q_306_6 (q0 := q0) (n0 := ρ 16) (n1 := ρ 15) (n2 := ρ 14) (n3 := ρ 13) (n4 := ρ 12) (n5 := ρ 11) (n6 := ρ 10) (n7 := ρ 9) (n8 := ρ 8) (n9 := ρ 7) (n10 := ρ 6) (n11 := ρ 5) (n12 := ρ 4) (n13 := ρ 3) (n14 := ρ 2) (n15 := ρ 1) (n16 := ρ 0) (n17 := ρ 17) (n18 := ρ 18) (n19 := ρ 19) (H0 := η 0) (H1 := η 1) f40 f39 f38 f37 f36 f35 f34 f33 f32 f31 f30 f29 f28 f27 f26 f25 f24 f23 f22 f21 f20 f19 f18 f17 f16 f15 f14 f13 f12 f11 f10 f9 f8 f7 f6 f5 f4 f3 f2 f1 f0
def g_306_46_3 : vG := ([(10, [20, 13], [], 1), (90, [13], [], 0), (91, [13], [], 7)], (90, [20], [], 0))
theorem c_306_46_3 {q0 : Nat} : vOkm T0 (eP e_306 L_306 A_306 mu_306 (some q0)) 6 g_306_46_3 := vOk_in fun ρ η h => by
  obtain ⟨f0, f1, f2, _⟩ := h
  exact q_306_4 (q0 := q0) (n0 := ρ 13) (n1 := ρ 20) (H0 := η 0) f2 f1 f0
def g_306_46_4 : vG := ([(10, [20, 13], [], 1), (90, [13], [], 0), (91, [13], [], 7)], (91, [20], [], 8))
theorem c_306_46_4 {q0 : Nat} : vOkm T0 (eP e_306 L_306 A_306 mu_306 (some q0)) 6 g_306_46_4 := vOk_in fun ρ η h => by
  obtain ⟨f0, f1, f2, _⟩ := h
  exact q_306_5 (q0 := q0) (n0 := ρ 13) (n1 := ρ 20) (H0 := η 0) f2 f1 f0
theorem q_306_7 {q0 : Nat} {n0 n1 n2 n3 n4 n5 n6 n7 n8 n9 n10 n11 n12 n13 n14 n15 n16 n17 n18 n19 n20 : Int} {H0 H1 : gH} (f0 : n0 ≤ 8) (f1 : 0 ≤ n0) (f2 : n1 ≤ 2147483647) (f3 : (-2147483648) ≤ n1) (f4 : n2 ≤ 2147483647) (f5 : (-2147483648) ≤ n2) (f6 : n3 ≤ 7) (f7 : 0 ≤ n3) (f8 : n4 ≤ 2147483647) (f9 : (-2147483648) ≤ n4) (f10 : n5 ≤ 2147483647) (f11 : (-2147483648) ≤ n5) (f12 : n6 ≤ 2147483647) (f13 : (-2147483648) ≤ n6) (f14 : n7 ≤ 2147483647) (f15 : (-2147483648) ≤ n7) (f16 : n8 ≤ 19) (f17 : 0 ≤ n8) (f18 : n9 ≤ 19) (f19 : 0 ≤ n9) (f20 : n10 = 285) (f21 : n11 ≤ 2147483647) (f22 : (-2147483648) ≤ n11) (f23 : n12 ≤ 2147483647) (f24 : (-2147483648) ≤ n12) (f25 : n13 ≤ 2147483647) (f26 : (-2147483648) ≤ n13) (f27 : n14 ≤ 19) (f28 : 0 ≤ n14) (f29 : n15 ≤ 19) (f30 : 0 ≤ n15) (f31 : n16 = 285) (f32 : (hLe T0 H0 H1 ∧ hFr s_306.2.2.2.2 H0 H1 ∧ hWt T0 H1) ∧ (True ∧ True) ∧ some q0 = some (mub_306_46 n16 n15 n14 n13 n12 n11 n10 n9 n8 n7 n6 n5 n4 n3 n2 n1 n0 H0 H1)) (f33 : n17 = 338) (f34 : n17 = hV H1 (n10).toNat 76) (f35 : n18 ≤ 8) (f36 : 0 ≤ n18) (f37 : n18 = hV H1 (n17).toNat (n8).toNat) (f38 : n18 ≤ n0) (f39 : n1 = 0) (f40 : n19 = w32 (n4 + 1)) (f41 : n20 = w32 (n3 + 1)) : True ∧ ∀ q, some q0 = some q → mub_306_6 n16 n15 n14 n13 n12 n11 n10 n9 n8 n7 n6 n5 n19 n20 H0 H1 < q := by
  have g5 := Option.some.inj f32.2.2
  unfold mub_306_46 at g5
  unfold mub_306_6
  have e0 : hV H1 338 = hV H0 338 := fRow f32.1.2.1 338 (by decide +kernel)
  have e1 : n18 = hV H0 338 (n8).toNat := (by rw [f33] at f37; exact f37 : n18 = hV H1 338 (n8).toNat).trans ((congrFun e0 _))
  clear f34 f37 e0
  clear f32
  subst e1
  unfold w32 at *
  try (have ix0 : n19 = n4 + 1 := (by omega); subst ix0)
  try (have ix1 : n20 = n3 + 1 := (by omega); subst ix1)
  refine ⟨?_, fun q hq => ?_⟩
  · trivial
  · have g6 := Option.some.inj hq
    subst g6
    omega
def g_306_46_5 : vG := ([(10, [20, 13], [], 1), (10, [19, 12], [], 1), (30, [15], [], 0), (43, [16, 18], [], 0), (22, [18, 17, 8], [1], 0), (90, [18], [], 0), (91, [18], [], 8), (20, [17, 6], [1], 76), (0, [17], [], 338), (5000, [0, 1, 2, 3, 4, 5, 6, 7, 8, 9, 10, 11, 12, 13, 14, 15, 16], [0, 1], 46), (0, [0], [], 285), (90, [1], [], 0), (91, [1], [], 19), (90, [2], [], 0), (91, [2], [], 19), (90, [3], [], -2147483648), (91, [3], [], 2147483647), (90, [4], [], -2147483648), (91, [4], [], 2147483647), (90, [5], [], -2147483648), (91, [5], [], 2147483647), (0, [6], [], 285), (90, [7], [], 0), (91, [7], [], 19), (90, [8], [], 0), (91, [8], [], 19), (90, [9], [], -2147483648), (91, [9], [], 2147483647), (90, [10], [], -2147483648), (91, [10], [], 2147483647), (90, [11], [], -2147483648), (91, [11], [], 2147483647), (90, [12], [], -2147483648), (91, [12], [], 2147483647), (90, [13], [], 0), (91, [13], [], 7), (90, [14], [], -2147483648), (91, [14], [], 2147483647), (90, [15], [], -2147483648), (91, [15], [], 2147483647), (90, [16], [], 0), (91, [16], [], 8)], (4000, [6, 7, 8, 9, 10, 11, 19, 20], [1], 6))
theorem c_306_46_5 {q0 : Nat} : vOkm T0 (eP e_306 L_306 A_306 mu_306 (some q0)) 6 g_306_46_5 := vOk_in fun ρ η h => by
  obtain ⟨f0, f1, f2, f3, f4, f5, f6, f7, f8, f9, f10, f11, f12, f13, f14, f15, f16, f17, f18, f19, f20, f21, f22, f23, f24, f25, f26, f27, f28, f29, f30, f31, f32, f33, f34, f35, f36, f37, f38, f39, f40, f41, _⟩ := h
  exact q_306_7 (q0 := q0) (n0 := ρ 16) (n1 := ρ 15) (n2 := ρ 14) (n3 := ρ 13) (n4 := ρ 12) (n5 := ρ 11) (n6 := ρ 10) (n7 := ρ 9) (n8 := ρ 8) (n9 := ρ 7) (n10 := ρ 6) (n11 := ρ 5) (n12 := ρ 4) (n13 := ρ 3) (n14 := ρ 2) (n15 := ρ 1) (n16 := ρ 0) (n17 := ρ 17) (n18 := ρ 18) (n19 := ρ 19) (n20 := ρ 20) (H0 := η 0) (H1 := η 1) f41 f40 f39 f38 f37 f36 f35 f34 f33 f32 f31 f30 f29 f28 f27 f26 f25 f24 f23 f22 f21 f20 f19 f18 f17 f16 f15 f14 f13 f12 f11 f10 f9 f8 f7 f6 f5 f4 f3 f2 f1 f0
def g_306_46_6 : vG := ([(1, [22, 21, 16], [], 0), (3, [21, 20, 8], [], 0), (0, [20], [], 8), (42, [16, 18], [], 0), (91, [18], [], 8), (90, [8], [], 0), (91, [8], [], 19), (90, [16], [], 0)], (70, [22], [], 160))
theorem c_306_46_6 {q0 : Nat} : vOkm T0 (eP e_306 L_306 A_306 mu_306 (some q0)) 6 g_306_46_6 := vOk_in fun ρ η h => by
  obtain ⟨f0, f1, f2, f3, f4, f5, f6, f7, _⟩ := h
  exact q_306_1 (q0 := q0) (n0 := ρ 16) (n1 := ρ 8) (n2 := ρ 18) (n3 := ρ 20) (n4 := ρ 21) (n5 := ρ 22) (H0 := η 0) f7 f6 f5 f4 f3 f2 f1 f0
theorem q_306_8 {q0 : Nat} {n0 n1 n2 n3 n4 n5 : Int} {H0 : gH} (f0 : 0 ≤ n0) (f1 : n1 ≤ 2147483647) (f2 : (-2147483648) ≤ n2) (f3 : n3 ≤ 8) (f4 : n0 < n3) (f5 : 0 ≤ n4) (f6 : n5 = w32 (n0 + 1)) : 0 ≤ n5 := by
  unfold w32 at *
  try (have ix0 : n5 = n0 + 1 := (by omega); subst ix0)
  omega
def g_306_46_7 : vG := ([(10, [25, 16], [], 1), (90, [23], [], 0), (42, [16, 18], [], 0), (91, [18], [], 8), (90, [9], [], -2147483648), (91, [14], [], 2147483647), (90, [16], [], 0)], (90, [25], [], 0))
theorem c_306_46_7 {q0 : Nat} : vOkm T0 (eP e_306 L_306 A_306 mu_306 (some q0)) 6 g_306_46_7 := vOk_in fun ρ η h => by
  obtain ⟨f0, f1, f2, f3, f4, f5, f6, _⟩ := h
  exact q_306_8 (q0 := q0) (n0 := ρ 16) (n1 := ρ 14) (n2 := ρ 9) (n3 := ρ 18) (n4 := ρ 23) (n5 := ρ 25) (H0 := η 0) f6 f5 f4 f3 f2 f1 f0
theorem q_306_9 {q0 : Nat} {n0 n1 n2 n3 n4 n5 : Int} {H0 : gH} (f0 : 0 ≤ n0) (f1 : n1 ≤ 2147483647) (f2 : (-2147483648) ≤ n2) (f3 : n3 ≤ 8) (f4 : n0 < n3) (f5 : 0 ≤ n4) (f6 : n5 = w32 (n0 + 1)) : n5 ≤ 8 := by
  unfold w32 at *
  try (have ix0 : n5 = n0 + 1 := (by omega); subst ix0)
  omega
def g_306_46_8 : vG := ([(10, [25, 16], [], 1), (90, [23], [], 0), (42, [16, 18], [], 0), (91, [18], [], 8), (90, [9], [], -2147483648), (91, [14], [], 2147483647), (90, [16], [], 0)], (91, [25], [], 8))
theorem c_306_46_8 {q0 : Nat} : vOkm T0 (eP e_306 L_306 A_306 mu_306 (some q0)) 6 g_306_46_8 := vOk_in fun ρ η h => by
  obtain ⟨f0, f1, f2, f3, f4, f5, f6, _⟩ := h
  exact q_306_9 (q0 := q0) (n0 := ρ 16) (n1 := ρ 14) (n2 := ρ 9) (n3 := ρ 18) (n4 := ρ 23) (n5 := ρ 25) (H0 := η 0) f6 f5 f4 f3 f2 f1 f0
theorem q_306_10 {q0 : Nat} {n0 n1 n2 n3 n4 n5 n6 n7 n8 n9 n10 n11 n12 n13 n14 n15 n16 n17 n18 n19 n20 n21 n22 n23 n24 n25 : Int} {H0 H1 : gH} (f0 : n0 ≤ 8) (f1 : 0 ≤ n0) (f2 : n1 ≤ 2147483647) (f3 : (-2147483648) ≤ n1) (f4 : n2 ≤ 2147483647) (f5 : (-2147483648) ≤ n2) (f6 : n3 ≤ 7) (f7 : 0 ≤ n3) (f8 : n4 ≤ 2147483647) (f9 : (-2147483648) ≤ n4) (f10 : n5 ≤ 2147483647) (f11 : (-2147483648) ≤ n5) (f12 : n6 ≤ 2147483647) (f13 : (-2147483648) ≤ n6) (f14 : n7 ≤ 2147483647) (f15 : (-2147483648) ≤ n7) (f16 : n8 ≤ 19) (f17 : 0 ≤ n8) (f18 : n9 ≤ 19) (f19 : 0 ≤ n9) (f20 : n10 = 285) (f21 : n11 ≤ 2147483647) (f22 : (-2147483648) ≤ n11) (f23 : n12 ≤ 2147483647) (f24 : (-2147483648) ≤ n12) (f25 : n13 ≤ 2147483647) (f26 : (-2147483648) ≤ n13) (f27 : n14 ≤ 19) (f28 : 0 ≤ n14) (f29 : n15 ≤ 19) (f30 : 0 ≤ n15) (f31 : n16 = 285) (f32 : (hLe T0 H0 H1 ∧ hFr s_306.2.2.2.2 H0 H1 ∧ hWt T0 H1) ∧ (True ∧ True) ∧ some q0 = some (mub_306_46 n16 n15 n14 n13 n12 n11 n10 n9 n8 n7 n6 n5 n4 n3 n2 n1 n0 H0 H1)) (f33 : n17 = 338) (f34 : n17 = hV H1 (n10).toNat 76) (f35 : n18 ≤ 8) (f36 : 0 ≤ n18) (f37 : n18 = hV H1 (n17).toNat (n8).toNat) (f38 : n0 < n18) (f39 : n19 = 339) (f40 : n19 = hV H1 (n10).toNat 77) (f41 : n20 = 8) (f42 : n21 = w32 (n20 * n8)) (f43 : n22 = w32 (n21 + n0)) (f44 : n23 ≤ 59) (f45 : 0 ≤ n23) (f46 : n23 = hV H1 (n19).toNat (n22).toNat) (f47 : n24 = w32 (n2 - n23)) (f48 : n7 < n24) (f49 : n25 = w32 (n0 + 1)) : True ∧ ∀ q, some q0 = some q → mub_306_46 n16 n15 n14 n13 n12 n11 n10 n9 n8 n7 n6 n5 n4 n3 n2 n1 n25 H0 H1 < q := by
  have g5 := Option.some.inj f32.2.2
  unfold mub_306_46 at g5
  unfold mub_306_46
  have e0 : hV H1 338 = hV H0 338 := fRow f32.1.2.1 338 (by decide +kernel)
  have e1 : n18 = hV H0 338 (n8).toNat := (by rw [f33] at f37; exact f37 : n18 = hV H1 338 (n8).toNat).trans ((congrFun e0 _))
  have e2 : hV H1 339 = hV H0 339 := fRow f32.1.2.1 339 (by decide +kernel)
  have e3 : n23 = hV H0 339 (n22).toNat := (by rw [f39] at f46; exact f46 : n23 = hV H1 339 (n22).toNat).trans ((congrFun e2 _))
  clear f34 f37 f40 f46 e0 e2
  clear f32
  subst e1
  subst e3
  rw [f41] at f42
  unfold w32 at *
  try (have ix0 : n21 = 8 * n8 := (by omega); subst ix0)
  try (have ix1 : n22 = (8 * n8) + n0 := (by omega); subst ix1)
  try (have ix2 : n25 = n0 + 1 := (by omega); subst ix2)
  refine ⟨?_, fun q hq => ?_⟩
  · trivial
  · have g6 := Option.some.inj hq
    subst g6
    omega
def g_306_46_9 : vG := ([(10, [25, 16], [], 1), (44, [24, 9], [], 0), (2, [24, 14, 23], [], 0), (22, [23, 19, 22], [1], 0), (90, [23], [], 0), (91, [23], [], 59), (1, [22, 21, 16], [], 0), (3, [21, 20, 8], [], 0), (0, [20], [], 8), (20, [19, 6], [1], 77), (0, [19], [], 339), (42, [16, 18], [], 0), (22, [18, 17, 8], [1], 0), (90, [18], [], 0), (91, [18], [], 8), (20, [17, 6], [1], 76), (0, [17], [], 338), (5000, [0, 1, 2, 3, 4, 5, 6, 7, 8, 9, 10, 11, 12, 13, 14, 15, 16], [0, 1], 46), (0, [0], [], 285), (90, [1], [], 0), (91, [1], [], 19), (90, [2], [], 0), (91, [2], [], 19), (90, [3], [], -2147483648), (91, [3], [], 2147483647), (90, [4], [], -2147483648), (91, [4], [], 2147483647), (90, [5], [], -2147483648), (91, [5], [], 2147483647), (0, [6], [], 285), (90, [7], [], 0), (91, [7], [], 19), (90, [8], [], 0), (91, [8], [], 19), (90, [9], [], -2147483648), (91, [9], [], 2147483647), (90, [10], [], -2147483648), (91, [10], [], 2147483647), (90, [11], [], -2147483648), (91, [11], [], 2147483647), (90, [12], [], -2147483648), (91, [12], [], 2147483647), (90, [13], [], 0), (91, [13], [], 7), (90, [14], [], -2147483648), (91, [14], [], 2147483647), (90, [15], [], -2147483648), (91, [15], [], 2147483647), (90, [16], [], 0), (91, [16], [], 8)], (4000, [6, 7, 8, 9, 10, 11, 12, 13, 14, 15, 25], [1], 46))
theorem c_306_46_9 {q0 : Nat} : vOkm T0 (eP e_306 L_306 A_306 mu_306 (some q0)) 6 g_306_46_9 := vOk_in fun ρ η h => by
  obtain ⟨f0, f1, f2, f3, f4, f5, f6, f7, f8, f9, f10, f11, f12, f13, f14, f15, f16, f17, f18, f19, f20, f21, f22, f23, f24, f25, f26, f27, f28, f29, f30, f31, f32, f33, f34, f35, f36, f37, f38, f39, f40, f41, f42, f43, f44, f45, f46, f47, f48, f49, _⟩ := h
  exact q_306_10 (q0 := q0) (n0 := ρ 16) (n1 := ρ 15) (n2 := ρ 14) (n3 := ρ 13) (n4 := ρ 12) (n5 := ρ 11) (n6 := ρ 10) (n7 := ρ 9) (n8 := ρ 8) (n9 := ρ 7) (n10 := ρ 6) (n11 := ρ 5) (n12 := ρ 4) (n13 := ρ 3) (n14 := ρ 2) (n15 := ρ 1) (n16 := ρ 0) (n17 := ρ 17) (n18 := ρ 18) (n19 := ρ 19) (n20 := ρ 20) (n21 := ρ 21) (n22 := ρ 22) (n23 := ρ 23) (n24 := ρ 24) (n25 := ρ 25) (H0 := η 0) (H1 := η 1) f49 f48 f47 f46 f45 f44 f43 f42 f41 f40 f39 f38 f37 f36 f35 f34 f33 f32 f31 f30 f29 f28 f27 f26 f25 f24 f23 f22 f21 f20 f19 f18 f17 f16 f15 f14 f13 f12 f11 f10 f9 f8 f7 f6 f5 f4 f3 f2 f1 f0
theorem q_306_11 {q0 : Nat} {n0 n1 n2 n3 n4 n5 n6 n7 n8 n9 n10 n11 n12 n13 n14 n15 n16 n17 n18 n19 n20 n21 n22 n23 n24 n25 n26 : Int} {H0 H1 : gH} (f0 : n0 ≤ 8) (f1 : 0 ≤ n0) (f2 : n1 ≤ 2147483647) (f3 : (-2147483648) ≤ n1) (f4 : n2 ≤ 2147483647) (f5 : (-2147483648) ≤ n2) (f6 : n3 ≤ 7) (f7 : 0 ≤ n3) (f8 : n4 ≤ 2147483647) (f9 : (-2147483648) ≤ n4) (f10 : n5 ≤ 2147483647) (f11 : (-2147483648) ≤ n5) (f12 : n6 ≤ 2147483647) (f13 : (-2147483648) ≤ n6) (f14 : n7 ≤ 2147483647) (f15 : (-2147483648) ≤ n7) (f16 : n8 ≤ 19) (f17 : 0 ≤ n8) (f18 : n9 ≤ 19) (f19 : 0 ≤ n9) (f20 : n10 = 285) (f21 : n11 ≤ 2147483647) (f22 : (-2147483648) ≤ n11) (f23 : n12 ≤ 2147483647) (f24 : (-2147483648) ≤ n12) (f25 : n13 ≤ 2147483647) (f26 : (-2147483648) ≤ n13) (f27 : n14 ≤ 19) (f28 : 0 ≤ n14) (f29 : n15 ≤ 19) (f30 : 0 ≤ n15) (f31 : n16 = 285) (f32 : (hLe T0 H0 H1 ∧ hFr s_306.2.2.2.2 H0 H1 ∧ hWt T0 H1) ∧ (True ∧ True) ∧ some q0 = some (mub_306_46 n16 n15 n14 n13 n12 n11 n10 n9 n8 n7 n6 n5 n4 n3 n2 n1 n0 H0 H1)) (f33 : n17 = 338) (f34 : n17 = hV H1 (n10).toNat 76) (f35 : n18 ≤ 8) (f36 : 0 ≤ n18) (f37 : n18 = hV H1 (n17).toNat (n8).toNat) (f38 : n0 < n18) (f39 : n19 = 339) (f40 : n19 = hV H1 (n10).toNat 77) (f41 : n20 = 8) (f42 : n21 = w32 (n20 * n8)) (f43 : n22 = w32 (n21 + n0)) (f44 : n23 ≤ 59) (f45 : 0 ≤ n23) (f46 : n23 = hV H1 (n19).toNat (n22).toNat) (f47 : n24 = w32 (n2 - n23)) (f48 : n24 ≤ n7) (f49 : n25 = w32 (-n7)) (f50 : n24 < n25) (f51 : n26 = w32 (n0 + 1)) : 0 ≤ n26 := by
  have e0 : hV H1 338 = hV H0 338 := fRow f32.1.2.1 338 (by decide +kernel)
  have e1 : n18 = hV H0 338 (n8).toNat := (by rw [f33] at f37; exact f37 : n18 = hV H1 338 (n8).toNat).trans ((congrFun e0 _))
  have e2 : hV H1 339 = hV H0 339 := fRow f32.1.2.1 339 (by decide +kernel)
  have e3 : n23 = hV H0 339 (n22).toNat := (by rw [f39] at f46; exact f46 : n23 = hV H1 339 (n22).toNat).trans ((congrFun e2 _))
  clear f34 f37 f40 f46 e0 e2
  clear f32
  subst e1
  subst e3
  rw [f41] at f42
  unfold w32 at *
  try (have ix0 : n21 = 8 * n8 := (by omega); subst ix0)
  try (have ix1 : n22 = (8 * n8) + n0 := (by omega); subst ix1)
  try (have ix2 : n26 = n0 + 1 := (by omega); subst ix2)
  omega
def g_306_46_10 : vG := ([(10, [26, 16], [], 1), (42, [24, 25], [], 0), (14, [25, 9], [], 0), (45, [24, 9], [], 0), (2, [24, 14, 23], [], 0), (22, [23, 19, 22], [1], 0), (90, [23], [], 0), (91, [23], [], 59), (1, [22, 21, 16], [], 0), (3, [21, 20, 8], [], 0), (0, [20], [], 8), (20, [19, 6], [1], 77), (0, [19], [], 339), (42, [16, 18], [], 0), (22, [18, 17, 8], [1], 0), (90, [18], [], 0), (91, [18], [], 8), (20, [17, 6], [1], 76), (0, [17], [], 338), (5000, [0, 1, 2, 3, 4, 5, 6, 7, 8, 9, 10, 11, 12, 13, 14, 15, 16], [0, 1], 46), (0, [0], [], 285), (90, [1], [], 0), (91, [1], [], 19), (90, [2], [], 0), (91, [2], [], 19), (90, [3], [], -2147483648), (91, [3], [], 2147483647), (90, [4], [], -2147483648), (91, [4], [], 2147483647), (90, [5], [], -2147483648), (91, [5], [], 2147483647), (0, [6], [], 285), (90, [7], [], 0), (91, [7], [], 19), (90, [8], [], 0), (91, [8], [], 19), (90, [9], [], -2147483648), (91, [9], [], 2147483647), (90, [10], [], -2147483648), (91, [10], [], 2147483647), (90, [11], [], -2147483648), (91, [11], [], 2147483647), (90, [12], [], -2147483648), (91, [12], [], 2147483647), (90, [13], [], 0), (91, [13], [], 7), (90, [14], [], -2147483648), (91, [14], [], 2147483647), (90, [15], [], -2147483648), (91, [15], [], 2147483647), (90, [16], [], 0), (91, [16], [], 8)], (90, [26], [], 0))
theorem c_306_46_10 {q0 : Nat} : vOkm T0 (eP e_306 L_306 A_306 mu_306 (some q0)) 6 g_306_46_10 := vOk_in fun ρ η h => by
  obtain ⟨f0, f1, f2, f3, f4, f5, f6, f7, f8, f9, f10, f11, f12, f13, f14, f15, f16, f17, f18, f19, f20, f21, f22, f23, f24, f25, f26, f27, f28, f29, f30, f31, f32, f33, f34, f35, f36, f37, f38, f39, f40, f41, f42, f43, f44, f45, f46, f47, f48, f49, f50, f51, _⟩ := h
  exact q_306_11 (q0 := q0) (n0 := ρ 16) (n1 := ρ 15) (n2 := ρ 14) (n3 := ρ 13) (n4 := ρ 12) (n5 := ρ 11) (n6 := ρ 10) (n7 := ρ 9) (n8 := ρ 8) (n9 := ρ 7) (n10 := ρ 6) (n11 := ρ 5) (n12 := ρ 4) (n13 := ρ 3) (n14 := ρ 2) (n15 := ρ 1) (n16 := ρ 0) (n17 := ρ 17) (n18 := ρ 18) (n19 := ρ 19) (n20 := ρ 20) (n21 := ρ 21) (n22 := ρ 22) (n23 := ρ 23) (n24 := ρ 24) (n25 := ρ 25) (n26 := ρ 26) (H0 := η 0) (H1 := η 1) f51 f50 f49 f48 f47 f46 f45 f44 f43 f42 f41 f40 f39 f38 f37 f36 f35 f34 f33 f32 f31 f30 f29 f28 f27 f26 f25 f24 f23 f22 f21 f20 f19 f18 f17 f16 f15 f14 f13 f12 f11 f10 f9 f8 f7 f6 f5 f4 f3 f2 f1 f0
theorem q_306_12 {q0 : Nat} {n0 n1 n2 n3 n4 n5 n6 n7 n8 n9 n10 n11 n12 n13 n14 n15 n16 n17 n18 n19 n20 n21 n22 n23 n24 n25 n26 : Int} {H0 H1 : gH} (f0 : n0 ≤ 8) (f1 : 0 ≤ n0) (f2 : n1 ≤ 2147483647) (f3 : (-2147483648) ≤ n1) (f4 : n2 ≤ 2147483647) (f5 : (-2147483648) ≤ n2) (f6 : n3 ≤ 7) (f7 : 0 ≤ n3) (f8 : n4 ≤ 2147483647) (f9 : (-2147483648) ≤ n4) (f10 : n5 ≤ 2147483647) (f11 : (-2147483648) ≤ n5) (f12 : n6 ≤ 2147483647) (f13 : (-2147483648) ≤ n6) (f14 : n7 ≤ 2147483647) (f15 : (-2147483648) ≤ n7) (f16 : n8 ≤ 19) (f17 : 0 ≤ n8) (f18 : n9 ≤ 19) (f19 : 0 ≤ n9) (f20 : n10 = 285) (f21 : n11 ≤ 2147483647) (f22 : (-2147483648) ≤ n11) (f23 : n12 ≤ 2147483647) (f24 : (-2147483648) ≤ n12) (f25 : n13 ≤ 2147483647) (f26 : (-2147483648) ≤ n13) (f27 : n14 ≤ 19) (f28 : 0 ≤ n14) (f29 : n15 ≤ 19) (f30 : 0 ≤ n15) (f31 : n16 = 285) (f32 : (hLe T0 H0 H1 ∧ hFr s_306.2.2.2.2 H0 H1 ∧ hWt T0 H1) ∧ (True ∧ True) ∧ some q0 = some (mub_306_46 n16 n15 n14 n13 n12 n11 n10 n9 n8 n7 n6 n5 n4 n3 n2 n1 n0 H0 H1)) (f33 : n17 = 338) (f34 : n17 = hV H1 (n10).toNat 76) (f35 : n18 ≤ 8) (f36 : 0 ≤ n18) (f37 : n18 = hV H1 (n17).toNat (n8).toNat) (f38 : n0 < n18) (f39 : n19 = 339) (f40 : n19 = hV H1 (n10).toNat 77) (f41 : n20 = 8) (f42 : n21 = w32 (n20 * n8)) (f43 : n22 = w32 (n21 + n0)) (f44 : n23 ≤ 59) (f45 : 0 ≤ n23) (f46 : n23 = hV H1 (n19).toNat (n22).toNat) (f47 : n24 = w32 (n2 - n23)) (f48 : n24 ≤ n7) (f49 : n25 = w32 (-n7)) (f50 : n24 < n25) (f51 : n26 = w32 (n0 + 1)) : n26 ≤ 8 := by
  have e0 : hV H1 338 = hV H0 338 := fRow f32.1.2.1 338 (by decide +kernel)
  have e1 : n18 = hV H0 338 (n8).toNat := (by rw [f33] at f37; exact f37 : n18 = hV H1 338 (n8).toNat).trans ((congrFun e0 _))
  have e2 : hV H1 339 = hV H0 339 := fRow f32.1.2.1 339 (by decide +kernel)
  have e3 : n23 = hV H0 339 (n22).toNat := (by rw [f39] at f46; exact f46 : n23 = hV H1 339 (n22).toNat).trans ((congrFun e2 _))
  clear f34 f37 f40 f46 e0 e2
  clear f32
  subst e1
  subst e3
  rw [f41] at f42
  unfold w32 at *
  try (have ix0 : n21 = 8 * n8 := (by omega); subst ix0)
  try (have ix1 : n22 = (8 * n8) + n0 := (by omega); subst ix1)
  try (have ix2 : n26 = n0 + 1 := (by omega); subst ix2)
  omega
def g_306_46_11 : vG := ([(10, [26, 16], [], 1), (42, [24, 25], [], 0), (14, [25, 9], [], 0), (45, [24, 9], [], 0), (2, [24, 14, 23], [], 0), (22, [23, 19, 22], [1], 0), (90, [23], [], 0), (91, [23], [], 59), (1, [22, 21, 16], [], 0), (3, [21, 20, 8], [], 0), (0, [20], [], 8), (20, [19, 6], [1], 77), (0, [19], [], 339), (42, [16, 18], [], 0), (22, [18, 17, 8], [1], 0), (90, [18], [], 0), (91, [18], [], 8), (20, [17, 6], [1], 76), (0, [17], [], 338), (5000, [0, 1, 2, 3, 4, 5, 6, 7, 8, 9, 10, 11, 12, 13, 14, 15, 16], [0, 1], 46), (0, [0], [], 285), (90, [1], [], 0), (91, [1], [], 19), (90, [2], [], 0), (91, [2], [], 19), (90, [3], [], -2147483648), (91, [3], [], 2147483647), (90, [4], [], -2147483648), (91, [4], [], 2147483647), (90, [5], [], -2147483648), (91, [5], [], 2147483647), (0, [6], [], 285), (90, [7], [], 0), (91, [7], [], 19), (90, [8], [], 0), (91, [8], [], 19), (90, [9], [], -2147483648), (91, [9], [], 2147483647), (90, [10], [], -2147483648), (91, [10], [], 2147483647), (90, [11], [], -2147483648), (91, [11], [], 2147483647), (90, [12], [], -2147483648), (91, [12], [], 2147483647), (90, [13], [], 0), (91, [13], [], 7), (90, [14], [], -2147483648), (91, [14], [], 2147483647), (90, [15], [], -2147483648), (91, [15], [], 2147483647), (90, [16], [], 0), (91, [16], [], 8)], (91, [26], [], 8))
theorem c_306_46_11 {q0 : Nat} : vOkm T0 (eP e_306 L_306 A_306 mu_306 (some q0)) 6 g_306_46_11 := vOk_in fun ρ η h => by
  obtain ⟨f0, f1, f2, f3, f4, f5, f6, f7, f8, f9, f10, f11, f12, f13, f14, f15, f16, f17, f18, f19, f20, f21, f22, f23, f24, f25, f26, f27, f28, f29, f30, f31, f32, f33, f34, f35, f36, f37, f38, f39, f40, f41, f42, f43, f44, f45, f46, f47, f48, f49, f50, f51, _⟩ := h
  exact q_306_12 (q0 := q0) (n0 := ρ 16) (n1 := ρ 15) (n2 := ρ 14) (n3 := ρ 13) (n4 := ρ 12) (n5 := ρ 11) (n6 := ρ 10) (n7 := ρ 9) (n8 := ρ 8) (n9 := ρ 7) (n10 := ρ 6) (n11 := ρ 5) (n12 := ρ 4) (n13 := ρ 3) (n14 := ρ 2) (n15 := ρ 1) (n16 := ρ 0) (n17 := ρ 17) (n18 := ρ 18) (n19 := ρ 19) (n20 := ρ 20) (n21 := ρ 21) (n22 := ρ 22) (n23 := ρ 23) (n24 := ρ 24) (n25 := ρ 25) (n26 := ρ 26) (H0 := η 0) (H1 := η 1) f51 f50 f49 f48 f47 f46 f45 f44 f43 f42 f41 f40 f39 f38 f37 f36 f35 f34 f33 f32 f31 f30 f29 f28 f27 f26 f25 f24 f23 f22 f21 f20 f19 f18 f17 f16 f15 f14 f13 f12 f11 f10 f9 f8 f7 f6 f5 f4 f3 f2 f1 f0
theorem q_306_13 {q0 : Nat} {n0 n1 n2 n3 n4 n5 n6 n7 n8 n9 n10 n11 n12 n13 n14 n15 n16 n17 n18 n19 n20 n21 n22 n23 n24 n25 n26 : Int} {H0 H1 : gH} (f0 : n0 ≤ 8) (f1 : 0 ≤ n0) (f2 : n1 ≤ 2147483647) (f3 : (-2147483648) ≤ n1) (f4 : n2 ≤ 2147483647) (f5 : (-2147483648) ≤ n2) (f6 : n3 ≤ 7) (f7 : 0 ≤ n3) (f8 : n4 ≤ 2147483647) (f9 : (-2147483648) ≤ n4) (f10 : n5 ≤ 2147483647) (f11 : (-2147483648) ≤ n5) (f12 : n6 ≤ 2147483647) (f13 : (-2147483648) ≤ n6) (f14 : n7 ≤ 2147483647) (f15 : (-2147483648) ≤ n7) (f16 : n8 ≤ 19) (f17 : 0 ≤ n8) (f18 : n9 ≤ 19) (f19 : 0 ≤ n9) (f20 : n10 = 285) (f21 : n11 ≤ 2147483647) (f22 : (-2147483648) ≤ n11) (f23 : n12 ≤ 2147483647) (f24 : (-2147483648) ≤ n12) (f25 : n13 ≤ 2147483647) (f26 : (-2147483648) ≤ n13) (f27 : n14 ≤ 19) (f28 : 0 ≤ n14) (f29 : n15 ≤ 19) (f30 : 0 ≤ n15) (f31 : n16 = 285) (f32 : (hLe T0 H0 H1 ∧ hFr s_306.2.2.2.2 H0 H1 ∧ hWt T0 H1) ∧ (True ∧ True) ∧ some q0 = some (mub_306_46 n16 n15 n14 n13 n12 n11 n10 n9 n8 n7 n6 n5 n4 n3 n2 n1 n0 H0 H1)) (f33 : n17 = 338) (f34 : n17 = hV H1 (n10).toNat 76) (f35 : n18 ≤ 8) (f36 : 0 ≤ n18) (f37 : n18 = hV H1 (n17).toNat (n8).toNat) (f38 : n0 < n18) (f39 : n19 = 339) (f40 : n19 = hV H1 (n10).toNat 77) (f41 : n20 = 8) (f42 : n21 = w32 (n20 * n8)) (f43 : n22 = w32 (n21 + n0)) (f44 : n23 ≤ 59) (f45 : 0 ≤ n23) (f46 : n23 = hV H1 (n19).toNat (n22).toNat) (f47 : n24 = w32 (n2 - n23)) (f48 : n24 ≤ n7) (f49 : n25 = w32 (-n7)) (f50 : n24 < n25) (f51 : n26 = w32 (n0 + 1)) : True ∧ ∀ q, some q0 = some q → mub_306_46 n16 n15 n14 n13 n12 n11 n10 n9 n8 n7 n6 n5 n4 n3 n2 n1 n26 H0 H1 < q := by
  have g5 := Option.some.inj f32.2.2
  unfold mub_306_46 at g5
  unfold mub_306_46
  have e0 : hV H1 338 = hV H0 338 := fRow f32.1.2.1 338 (by decide +kernel)
  have e1 : n18 = hV H0 338 (n8).toNat := (by rw [f33] at f37; exact f37 : n18 = hV H1 338 (n8).toNat).trans ((congrFun e0 _))
  have e2 : hV H1 339 = hV H0 339 := fRow f32.1.2.1 339 (by decide +kernel)
  have e3 : n23 = hV H0 339 (n22).toNat := (by rw [f39] at f46; exact f46 : n23 = hV H1 339 (n22).toNat).trans ((congrFun e2 _))
  clear f34 f37 f40 f46 e0 e2
  clear f32
  subst e1
  subst e3
  rw [f41] at f42
  unfold w32 at *
  try (have ix0 : n21 = 8 * n8 := (by omega); subst ix0)
  try (have ix1 : n22 = (8 * n8) + n0 := (by omega); subst ix1)
  try (have ix2 : n26 = n0 + 1 := (by omega); subst ix2)
  refine ⟨?_, fun q hq => ?_⟩
  · trivial
  · have g6 := Option.some.inj hq
    subst g6
    omega
def g_306_46_12 : vG := ([(10, [26, 16], [], 1), (42, [24, 25], [], 0), (14, [25, 9], [], 0), (45, [24, 9], [], 0), (2, [24, 14, 23], [], 0), (22, [23, 19, 22], [1], 0), (90, [23], [], 0), (91, [23], [], 59), (1, [22, 21, 16], [], 0), (3, [21, 20, 8], [], 0), (0, [20], [], 8), (20, [19, 6], [1], 77), (0, [19], [], 339), (42, [16, 18], [], 0), (22, [18, 17, 8], [1], 0), (90, [18], [], 0), (91, [18], [], 8), (20, [17, 6], [1], 76), (0, [17], [], 338), (5000, [0, 1, 2, 3, 4, 5, 6, 7, 8, 9, 10, 11, 12, 13, 14, 15, 16], [0, 1], 46), (0, [0], [], 285), (90, [1], [], 0), (91, [1], [], 19), (90, [2], [], 0), (91, [2], [], 19), (90, [3], [], -2147483648), (91, [3], [], 2147483647), (90, [4], [], -2147483648), (91, [4], [], 2147483647), (90, [5], [], -2147483648), (91, [5], [], 2147483647), (0, [6], [], 285), (90, [7], [], 0), (91, [7], [], 19), (90, [8], [], 0), (91, [8], [], 19), (90, [9], [], -2147483648), (91, [9], [], 2147483647), (90, [10], [], -2147483648), (91, [10], [], 2147483647), (90, [11], [], -2147483648), (91, [11], [], 2147483647), (90, [12], [], -2147483648), (91, [12], [], 2147483647), (90, [13], [], 0), (91, [13], [], 7), (90, [14], [], -2147483648), (91, [14], [], 2147483647), (90, [15], [], -2147483648), (91, [15], [], 2147483647), (90, [16], [], 0), (91, [16], [], 8)], (4000, [6, 7, 8, 9, 10, 11, 12, 13, 14, 15, 26], [1], 46))
theorem c_306_46_12 {q0 : Nat} : vOkm T0 (eP e_306 L_306 A_306 mu_306 (some q0)) 6 g_306_46_12 := vOk_in fun ρ η h => by
  obtain ⟨f0, f1, f2, f3, f4, f5, f6, f7, f8, f9, f10, f11, f12, f13, f14, f15, f16, f17, f18, f19, f20, f21, f22, f23, f24, f25, f26, f27, f28, f29, f30, f31, f32, f33, f34, f35, f36, f37, f38, f39, f40, f41, f42, f43, f44, f45, f46, f47, f48, f49, f50, f51, _⟩ := h
  exact q_306_13 (q0 := q0) (n0 := ρ 16) (n1 := ρ 15) (n2 := ρ 14) (n3 := ρ 13) (n4 := ρ 12) (n5 := ρ 11) (n6 := ρ 10) (n7 := ρ 9) (n8 := ρ 8) (n9 := ρ 7) (n10 := ρ 6) (n11 := ρ 5) (n12 := ρ 4) (n13 := ρ 3) (n14 := ρ 2) (n15 := ρ 1) (n16 := ρ 0) (n17 := ρ 17) (n18 := ρ 18) (n19 := ρ 19) (n20 := ρ 20) (n21 := ρ 21) (n22 := ρ 22) (n23 := ρ 23) (n24 := ρ 24) (n25 := ρ 25) (n26 := ρ 26) (H0 := η 0) (H1 := η 1) f51 f50 f49 f48 f47 f46 f45 f44 f43 f42 f41 f40 f39 f38 f37 f36 f35 f34 f33 f32 f31 f30 f29 f28 f27 f26 f25 f24 f23 f22 f21 f20 f19 f18 f17 f16 f15 f14 f13 f12 f11 f10 f9 f8 f7 f6 f5 f4 f3 f2 f1 f0
theorem q_306_14 {q0 : Nat} {n0 n1 n2 n3 n4 n5 n6 n7 n8 n9 n10 n11 n12 n13 n14 n15 n16 n17 n18 n19 n20 n21 n22 n23 n24 n25 n26 : Int} {H0 H1 : gH} (f0 : n0 ≤ 8) (f1 : 0 ≤ n0) (f2 : n1 ≤ 2147483647) (f3 : (-2147483648) ≤ n1) (f4 : n2 ≤ 2147483647) (f5 : (-2147483648) ≤ n2) (f6 : n3 ≤ 7) (f7 : 0 ≤ n3) (f8 : n4 ≤ 2147483647) (f9 : (-2147483648) ≤ n4) (f10 : n5 ≤ 2147483647) (f11 : (-2147483648) ≤ n5) (f12 : n6 ≤ 2147483647) (f13 : (-2147483648) ≤ n6) (f14 : n7 ≤ 2147483647) (f15 : (-2147483648) ≤ n7) (f16 : n8 ≤ 19) (f17 : 0 ≤ n8) (f18 : n9 ≤ 19) (f19 : 0 ≤ n9) (f20 : n10 = 285) (f21 : n11 ≤ 2147483647) (f22 : (-2147483648) ≤ n11) (f23 : n12 ≤ 2147483647) (f24 : (-2147483648) ≤ n12) (f25 : n13 ≤ 2147483647) (f26 : (-2147483648) ≤ n13) (f27 : n14 ≤ 19) (f28 : 0 ≤ n14) (f29 : n15 ≤ 19) (f30 : 0 ≤ n15) (f31 : n16 = 285) (f32 : (hLe T0 H0 H1 ∧ hFr s_306.2.2.2.2 H0 H1 ∧ hWt T0 H1) ∧ (True ∧ True) ∧ some q0 = some (mub_306_46 n16 n15 n14 n13 n12 n11 n10 n9 n8 n7 n6 n5 n4 n3 n2 n1 n0 H0 H1)) (f33 : n17 = 338) (f34 : n17 = hV H1 (n10).toNat 76) (f35 : n18 ≤ 8) (f36 : 0 ≤ n18) (f37 : n18 = hV H1 (n17).toNat (n8).toNat) (f38 : n0 < n18) (f39 : n19 = 339) (f40 : n19 = hV H1 (n10).toNat 77) (f41 : n20 = 8) (f42 : n21 = w32 (n20 * n8)) (f43 : n22 = w32 (n21 + n0)) (f44 : n23 ≤ 59) (f45 : 0 ≤ n23) (f46 : n23 = hV H1 (n19).toNat (n22).toNat) (f47 : n24 = w32 (n2 - n23)) (f48 : n24 ≤ n7) (f49 : n25 = w32 (-n7)) (f50 : n25 ≤ n24) (f51 : n26 = w32 (n0 + 1)) : 0 ≤ n26 := by
  have e0 : hV H1 338 = hV H0 338 := fRow f32.1.2.1 338 (by decide +kernel)
  have e1 : n18 = hV H0 338 (n8).toNat := (by rw [f33] at f37; exact f37 : n18 = hV H1 338 (n8).toNat).trans ((congrFun e0 _))
  have e2 : hV H1 339 = hV H0 339 := fRow f32.1.2.1 339 (by decide +kernel)
  have e3 : n23 = hV H0 339 (n22).toNat := (by rw [f39] at f46; exact f46 : n23 = hV H1 339 (n22).toNat).trans ((congrFun e2 _))
  clear f34 f37 f40 f46 e0 e2
  clear f32
  subst e1
  subst e3
  rw [f41] at f42
  unfold w32 at *
  try (have ix0 : n21 = 8 * n8 := (by omega); subst ix0)
  try (have ix1 : n22 = (8 * n8) + n0 := (by omega); subst ix1)
  try (have ix2 : n26 = n0 + 1 := (by omega); subst ix2)
  omega
def g_306_46_13 : vG := ([(10, [27, 16], [], 1), (43, [24, 25], [], 0), (14, [25, 9], [], 0), (45, [24, 9], [], 0), (2, [24, 14, 23], [], 0), (22, [23, 19, 22], [1], 0), (90, [23], [], 0), (91, [23], [], 59), (1, [22, 21, 16], [], 0), (3, [21, 20, 8], [], 0), (0, [20], [], 8), (20, [19, 6], [1], 77), (0, [19], [], 339), (42, [16, 18], [], 0), (22, [18, 17, 8], [1], 0), (90, [18], [], 0), (91, [18], [], 8), (20, [17, 6], [1], 76), (0, [17], [], 338), (5000, [0, 1, 2, 3, 4, 5, 6, 7, 8, 9, 10, 11, 12, 13, 14, 15, 16], [0, 1], 46), (0, [0], [], 285), (90, [1], [], 0), (91, [1], [], 19), (90, [2], [], 0), (91, [2], [], 19), (90, [3], [], -2147483648), (91, [3], [], 2147483647), (90, [4], [], -2147483648), (91, [4], [], 2147483647), (90, [5], [], -2147483648), (91, [5], [], 2147483647), (0, [6], [], 285), (90, [7], [], 0), (91, [7], [], 19), (90, [8], [], 0), (91, [8], [], 19), (90, [9], [], -2147483648), (91, [9], [], 2147483647), (90, [10], [], -2147483648), (91, [10], [], 2147483647), (90, [11], [], -2147483648), (91, [11], [], 2147483647), (90, [12], [], -2147483648), (91, [12], [], 2147483647), (90, [13], [], 0), (91, [13], [], 7), (90, [14], [], -2147483648), (91, [14], [], 2147483647), (90, [15], [], -2147483648), (91, [15], [], 2147483647), (90, [16], [], 0), (91, [16], [], 8)], (90, [27], [], 0))
theorem c_306_46_13 {q0 : Nat} : vOkm T0 (eP e_306 L_306 A_306 mu_306 (some q0)) 6 g_306_46_13 := vOk_in fun ρ η h => by
  obtain ⟨f0, f1, f2, f3, f4, f5, f6, f7, f8, f9, f10, f11, f12, f13, f14, f15, f16, f17, f18, f19, f20, f21, f22, f23, f24, f25, f26, f27, f28, f29, f30, f31, f32, f33, f34, f35, f36, f37, f38, f39, f40, f41, f42, f43, f44, f45, f46, f47, f48, f49, f50, f51, _⟩ := h
  exact q_306_14 (q0 := q0) (n0 := ρ 16) (n1 := ρ 15) (n2 := ρ 14) (n3 := ρ 13) (n4 := ρ 12) (n5 := ρ 11) (n6 := ρ 10) (n7 := ρ 9) (n8 := ρ 8) (n9 := ρ 7) (n10 := ρ 6) (n11 := ρ 5) (n12 := ρ 4) (n13 := ρ 3) (n14 := ρ 2) (n15 := ρ 1) (n16 := ρ 0) (n17 := ρ 17) (n18 := ρ 18) (n19 := ρ 19) (n20 := ρ 20) (n21 := ρ 21) (n22 := ρ 22) (n23 := ρ 23) (n24 := ρ 24) (n25 := ρ 25) (n26 := ρ 27) (H0 := η 0) (H1 := η 1) f51 f50 f49 f48 f47 f46 f45 f44 f43 f42 f41 f40 f39 f38 f37 f36 f35 f34 f33 f32 f31 f30 f29 f28 f27 f26 f25 f24 f23 f22 f21 f20 f19 f18 f17 f16 f15 f14 f13 f12 f11 f10 f9 f8 f7 f6 f5 f4 f3 f2 f1 f0
theorem q_306_15 {q0 : Nat} {n0 n1 n2 n3 n4 n5 n6 n7 n8 n9 n10 n11 n12 n13 n14 n15 n16 n17 n18 n19 n20 n21 n22 n23 n24 n25 n26 : Int} {H0 H1 : gH} (f0 : n0 ≤ 8) (f1 : 0 ≤ n0) (f2 : n1 ≤ 2147483647) (f3 : (-2147483648) ≤ n1) (f4 : n2 ≤ 2147483647) (f5 : (-2147483648) ≤ n2) (f6 : n3 ≤ 7) (f7 : 0 ≤ n3) (f8 : n4 ≤ 2147483647) (f9 : (-2147483648) ≤ n4) (f10 : n5 ≤ 2147483647) (f11 : (-2147483648) ≤ n5) (f12 : n6 ≤ 2147483647) (f13 : (-2147483648) ≤ n6) (f14 : n7 ≤ 2147483647) (f15 : (-2147483648) ≤ n7) (f16 : n8 ≤ 19) (f17 : 0 ≤ n8) (f18 : n9 ≤ 19) (f19 : 0 ≤ n9) (f20 : n10 = 285) (f21 : n11 ≤ 2147483647) (f22 : (-2147483648) ≤ n11) (f23 : n12 ≤ 2147483647) (f24 : (-2147483648) ≤ n12) (f25 : n13 ≤ 2147483647) (f26 : (-2147483648) ≤ n13) (f27 : n14 ≤ 19) (f28 : 0 ≤ n14) (f29 : n15 ≤ 19) (f30 : 0 ≤ n15) (f31 : n16 = 285) (f32 : (hLe T0 H0 H1 ∧ hFr s_306.2.2.2.2 H0 H1 ∧ hWt T0 H1) ∧ (True ∧ True) ∧ some q0 = some (mub_306_46 n16 n15 n14 n13 n12 n11 n10 n9 n8 n7 n6 n5 n4 n3 n2 n1 n0 H0 H1)) (f33 : n17 = 338) (f34 : n17 = hV H1 (n10).toNat 76) (f35 : n18 ≤ 8) (f36 : 0 ≤ n18) (f37 : n18 = hV H1 (n17).toNat (n8).toNat) (f38 : n0 < n18) (f39 : n19 = 339) (f40 : n19 = hV H1 (n10).toNat 77) (f41 : n20 = 8) (f42 : n21 = w32 (n20 * n8)) (f43 : n22 = w32 (n21 + n0)) (f44 : n23 ≤ 59) (f45 : 0 ≤ n23) (f46 : n23 = hV H1 (n19).toNat (n22).toNat) (f47 : n24 = w32 (n2 - n23)) (f48 : n24 ≤ n7) (f49 : n25 = w32 (-n7)) (f50 : n25 ≤ n24) (f51 : n26 = w32 (n0 + 1)) : n26 ≤ 8 := by
  have e0 : hV H1 338 = hV H0 338 := fRow f32.1.2.1 338 (by decide +kernel)
  have e1 : n18 = hV H0 338 (n8).toNat := (by rw [f33] at f37; exact f37 : n18 = hV H1 338 (n8).toNat).trans ((congrFun e0 _))
  have e2 : hV H1 339 = hV H0 339 := fRow f32.1.2.1 339 (by decide +kernel)
  have e3 : n23 = hV H0 339 (n22).toNat := (by rw [f39] at f46; exact f46 : n23 = hV H1 339 (n22).toNat).trans ((congrFun e2 _))
  clear f34 f37 f40 f46 e0 e2
  clear f32
  subst e1
  subst e3
  rw [f41] at f42
  unfold w32 at *
  try (have ix0 : n21 = 8 * n8 := (by omega); subst ix0)
  try (have ix1 : n22 = (8 * n8) + n0 := (by omega); subst ix1)
  try (have ix2 : n26 = n0 + 1 := (by omega); subst ix2)
  omega
def g_306_46_14 : vG := ([(10, [27, 16], [], 1), (43, [24, 25], [], 0), (14, [25, 9], [], 0), (45, [24, 9], [], 0), (2, [24, 14, 23], [], 0), (22, [23, 19, 22], [1], 0), (90, [23], [], 0), (91, [23], [], 59), (1, [22, 21, 16], [], 0), (3, [21, 20, 8], [], 0), (0, [20], [], 8), (20, [19, 6], [1], 77), (0, [19], [], 339), (42, [16, 18], [], 0), (22, [18, 17, 8], [1], 0), (90, [18], [], 0), (91, [18], [], 8), (20, [17, 6], [1], 76), (0, [17], [], 338), (5000, [0, 1, 2, 3, 4, 5, 6, 7, 8, 9, 10, 11, 12, 13, 14, 15, 16], [0, 1], 46), (0, [0], [], 285), (90, [1], [], 0), (91, [1], [], 19), (90, [2], [], 0), (91, [2], [], 19), (90, [3], [], -2147483648), (91, [3], [], 2147483647), (90, [4], [], -2147483648), (91, [4], [], 2147483647), (90, [5], [], -2147483648), (91, [5], [], 2147483647), (0, [6], [], 285), (90, [7], [], 0), (91, [7], [], 19), (90, [8], [], 0), (91, [8], [], 19), (90, [9], [], -2147483648), (91, [9], [], 2147483647), (90, [10], [], -2147483648), (91, [10], [], 2147483647), (90, [11], [], -2147483648), (91, [11], [], 2147483647), (90, [12], [], -2147483648), (91, [12], [], 2147483647), (90, [13], [], 0), (91, [13], [], 7), (90, [14], [], -2147483648), (91, [14], [], 2147483647), (90, [15], [], -2147483648), (91, [15], [], 2147483647), (90, [16], [], 0), (91, [16], [], 8)], (91, [27], [], 8))
theorem c_306_46_14 {q0 : Nat} : vOkm T0 (eP e_306 L_306 A_306 mu_306 (some q0)) 6 g_306_46_14 := vOk_in fun ρ η h => by
  obtain ⟨f0, f1, f2, f3, f4, f5, f6, f7, f8, f9, f10, f11, f12, f13, f14, f15, f16, f17, f18, f19, f20, f21, f22, f23, f24, f25, f26, f27, f28, f29, f30, f31, f32, f33, f34, f35, f36, f37, f38, f39, f40, f41, f42, f43, f44, f45, f46, f47, f48, f49, f50, f51, _⟩ := h
  exact q_306_15 (q0 := q0) (n0 := ρ 16) (n1 := ρ 15) (n2 := ρ 14) (n3 := ρ 13) (n4 := ρ 12) (n5 := ρ 11) (n6 := ρ 10) (n7 := ρ 9) (n8 := ρ 8) (n9 := ρ 7) (n10 := ρ 6) (n11 := ρ 5) (n12 := ρ 4) (n13 := ρ 3) (n14 := ρ 2) (n15 := ρ 1) (n16 := ρ 0) (n17 := ρ 17) (n18 := ρ 18) (n19 := ρ 19) (n20 := ρ 20) (n21 := ρ 21) (n22 := ρ 22) (n23 := ρ 23) (n24 := ρ 24) (n25 := ρ 25) (n26 := ρ 27) (H0 := η 0) (H1 := η 1) f51 f50 f49 f48 f47 f46 f45 f44 f43 f42 f41 f40 f39 f38 f37 f36 f35 f34 f33 f32 f31 f30 f29 f28 f27 f26 f25 f24 f23 f22 f21 f20 f19 f18 f17 f16 f15 f14 f13 f12 f11 f10 f9 f8 f7 f6 f5 f4 f3 f2 f1 f0
theorem q_306_16 {q0 : Nat} {n0 n1 n2 n3 n4 n5 n6 n7 n8 n9 n10 n11 n12 n13 n14 n15 n16 n17 n18 n19 n20 n21 n22 n23 n24 n25 n26 n27 : Int} {H0 H1 : gH} (f0 : n0 ≤ 8) (f1 : 0 ≤ n0) (f2 : n1 ≤ 2147483647) (f3 : (-2147483648) ≤ n1) (f4 : n2 ≤ 2147483647) (f5 : (-2147483648) ≤ n2) (f6 : n3 ≤ 7) (f7 : 0 ≤ n3) (f8 : n4 ≤ 2147483647) (f9 : (-2147483648) ≤ n4) (f10 : n5 ≤ 2147483647) (f11 : (-2147483648) ≤ n5) (f12 : n6 ≤ 2147483647) (f13 : (-2147483648) ≤ n6) (f14 : n7 ≤ 2147483647) (f15 : (-2147483648) ≤ n7) (f16 : n8 ≤ 19) (f17 : 0 ≤ n8) (f18 : n9 ≤ 19) (f19 : 0 ≤ n9) (f20 : n10 = 285) (f21 : n11 ≤ 2147483647) (f22 : (-2147483648) ≤ n11) (f23 : n12 ≤ 2147483647) (f24 : (-2147483648) ≤ n12) (f25 : n13 ≤ 2147483647) (f26 : (-2147483648) ≤ n13) (f27 : n14 ≤ 19) (f28 : 0 ≤ n14) (f29 : n15 ≤ 19) (f30 : 0 ≤ n15) (f31 : n16 = 285) (f32 : (hLe T0 H0 H1 ∧ hFr s_306.2.2.2.2 H0 H1 ∧ hWt T0 H1) ∧ (True ∧ True) ∧ some q0 = some (mub_306_46 n16 n15 n14 n13 n12 n11 n10 n9 n8 n7 n6 n5 n4 n3 n2 n1 n0 H0 H1)) (f33 : n17 = 338) (f34 : n17 = hV H1 (n10).toNat 76) (f35 : n18 ≤ 8) (f36 : 0 ≤ n18) (f37 : n18 = hV H1 (n17).toNat (n8).toNat) (f38 : n0 < n18) (f39 : n19 = 339) (f40 : n19 = hV H1 (n10).toNat 77) (f41 : n20 = 8) (f42 : n21 = w32 (n20 * n8)) (f43 : n22 = w32 (n21 + n0)) (f44 : n23 ≤ 59) (f45 : 0 ≤ n23) (f46 : n23 = hV H1 (n19).toNat (n22).toNat) (f47 : n24 = w32 (n2 - n23)) (f48 : n24 ≤ n7) (f49 : n25 = w32 (-n7)) (f50 : n25 ≤ n24) (f51 : n26 = 1) (f52 : n27 = w32 (n0 + 1)) : True ∧ ∀ q, some q0 = some q → mub_306_46 n16 n15 n14 n13 n12 n11 n10 n9 n8 n7 n6 n5 n4 n3 n2 n26 n27 H0 H1 < q := by
  have g5 := Option.some.inj f32.2.2
  unfold mub_306_46 at g5
  unfold mub_306_46
  have e0 : hV H1 338 = hV H0 338 := fRow f32.1.2.1 338 (by decide +kernel)
  have e1 : n18 = hV H0 338 (n8).toNat := (by rw [f33] at f37; exact f37 : n18 = hV H1 338 (n8).toNat).trans ((congrFun e0 _))
  have e2 : hV H1 339 = hV H0 339 := fRow f32.1.2.1 339 (by decide +kernel)
  have e3 : n23 = hV H0 339 (n22).toNat := (by rw [f39] at f46; exact f46 : n23 = hV H1 339 (n22).toNat).trans ((congrFun e2 _))
  clear f34 f37 f40 f46 e0 e2
  clear f32
  subst e1
  subst e3
  rw [f41] at f42
  unfold w32 at *
  try (have ix0 : n21 = 8 * n8 := (by omega); subst ix0)
  try (have ix1 : n22 = (8 * n8) + n0 := (by omega); subst ix1)
  try (have ix2 : n27 = n0 + 1 := (by omega); subst ix2)
  refine ⟨?_, fun q hq => ?_⟩
  · trivial
  · have g6 := Option.some.inj hq
    subst g6
    omega
def g_306_46_15 : vG := ([(10, [27, 16], [], 1), (0, [26], [], 1), (43, [24, 25], [], 0), (14, [25, 9], [], 0), (45, [24, 9], [], 0), (2, [24, 14, 23], [], 0), (22, [23, 19, 22], [1], 0), (90, [23], [], 0), (91, [23], [], 59), (1, [22, 21, 16], [], 0), (3, [21, 20, 8], [], 0), (0, [20], [], 8), (20, [19, 6], [1], 77), (0, [19], [], 339), (42, [16, 18], [], 0), (22, [18, 17, 8], [1], 0), (90, [18], [], 0), (91, [18], [], 8), (20, [17, 6], [1], 76), (0, [17], [], 338), (5000, [0, 1, 2, 3, 4, 5, 6, 7, 8, 9, 10, 11, 12, 13, 14, 15, 16], [0, 1], 46), (0, [0], [], 285), (90, [1], [], 0), (91, [1], [], 19), (90, [2], [], 0), (91, [2], [], 19), (90, [3], [], -2147483648), (91, [3], [], 2147483647), (90, [4], [], -2147483648), (91, [4], [], 2147483647), (90, [5], [], -2147483648), (91, [5], [], 2147483647), (0, [6], [], 285), (90, [7], [], 0), (91, [7], [], 19), (90, [8], [], 0), (91, [8], [], 19), (90, [9], [], -2147483648), (91, [9], [], 2147483647), (90, [10], [], -2147483648), (91, [10], [], 2147483647), (90, [11], [], -2147483648), (91, [11], [], 2147483647), (90, [12], [], -2147483648), (91, [12], [], 2147483647), (90, [13], [], 0), (91, [13], [], 7), (90, [14], [], -2147483648), (91, [14], [], 2147483647), (90, [15], [], -2147483648), (91, [15], [], 2147483647), (90, [16], [], 0), (91, [16], [], 8)], (4000, [6, 7, 8, 9, 10, 11, 12, 13, 14, 26, 27], [1], 46))
theorem c_306_46_15 {q0 : Nat} : vOkm T0 (eP e_306 L_306 A_306 mu_306 (some q0)) 6 g_306_46_15 := vOk_in fun ρ η h => by
  obtain ⟨f0, f1, f2, f3, f4, f5, f6, f7, f8, f9, f10, f11, f12, f13, f14, f15, f16, f17, f18, f19, f20, f21, f22, f23, f24, f25, f26, f27, f28, f29, f30, f31, f32, f33, f34, f35, f36, f37, f38, f39, f40, f41, f42, f43, f44, f45, f46, f47, f48, f49, f50, f51, f52, _⟩ := h
  exact q_306_16 (q0 := q0) (n0 := ρ 16) (n1 := ρ 15) (n2 := ρ 14) (n3 := ρ 13) (n4 := ρ 12) (n5 := ρ 11) (n6 := ρ 10) (n7 := ρ 9) (n8 := ρ 8) (n9 := ρ 7) (n10 := ρ 6) (n11 := ρ 5) (n12 := ρ 4) (n13 := ρ 3) (n14 := ρ 2) (n15 := ρ 1) (n16 := ρ 0) (n17 := ρ 17) (n18 := ρ 18) (n19 := ρ 19) (n20 := ρ 20) (n21 := ρ 21) (n22 := ρ 22) (n23 := ρ 23) (n24 := ρ 24) (n25 := ρ 25) (n26 := ρ 26) (n27 := ρ 27) (H0 := η 0) (H1 := η 1) f52 f51 f50 f49 f48 f47 f46 f45 f44 f43 f42 f41 f40 f39 f38 f37 f36 f35 f34 f33 f32 f31 f30 f29 f28 f27 f26 f25 f24 f23 f22 f21 f20 f19 f18 f17 f16 f15 f14 f13 f12 f11 f10 f9 f8 f7 f6 f5 f4 f3 f2 f1 f0
def p_306_46 : List vG := [g_306_46_0,
  g_306_46_1,
  g_306_46_2,
  g_306_46_3,
  g_306_46_4,
  g_306_46_5,
  g_306_46_6,
  g_306_46_7,
  g_306_46_8,
  g_306_46_9,
  g_306_46_10,
  g_306_46_11,
  g_306_46_12,
  g_306_46_13,
  g_306_46_14,
  g_306_46_15]
theorem r_306_46 : vCovO true (eRc e_306 L_306 cs_306 2000 (46, [(0, (3, 12, 285, 0)), (1, (0, 0, 19, 0)), (2, (0, 0, 19, 0)), (3, (0, -2147483648, 2147483647, 0)), (4, (0, -2147483648, 2147483647, 0)), (5, (0, -2147483648, 2147483647, 0)), (6, (0, -2147483648, 2147483647, 0)), (7, (0, 0, 7, 0)), (8, (0, -2147483648, 2147483647, 0)), (9, (0, -2147483648, 2147483647, 0)), (10, (0, 0, 8, 0))])) p_306_46 = true := by decide +kernel
theorem m_306 (d : Nat) : eC e_306 (d + 1) := eC_ok (e := e_306) (L := L_306) (cs := cs_306) (n := 2000) (d := d + 0) (A := A_306) (μ := mu_306) (tp := true) (p0 := p_306_s) rfl trivial rfl (.inr pre0_ok) (by decide +kernel) (fun _ => post0_ok) r_306_s (allC c_306_s_0 allN) (allC (.inl ⟨p_306_6, r_306_6, fun q0 => (allC c_306_6_0 (allC c_306_6_1 (allC c_306_6_2 allN)))⟩) (allC (.inl ⟨p_306_46, r_306_46, fun q0 => (allC c_306_46_0 (allC c_306_46_1 (allC c_306_46_2 (allC c_306_46_3 (allC c_306_46_4 (allC c_306_46_5 (allC c_306_46_6 (allC c_306_46_7 (allC c_306_46_8 (allC c_306_46_9 (allC c_306_46_10 (allC c_306_46_11 (allC c_306_46_12 (allC c_306_46_13 (allC c_306_46_14 (allC c_306_46_15 allN))))))))))))))))⟩) allN))
/- MixStageModel.fits (III)V -/
noncomputable def s_307 : vM := ([(3, 12, 285, 0), (0, 0, 19, 0), (0, 0, 19, 0), (0, -2147483648, 2147483647, 0)], (9, 0, 0, 0), 0, 0, [(12, 100), (12, 101), (12, 102)])
noncomputable def e_307 : vE := (307, s_307, pre0, post0)
noncomputable def L_307 : List vE := [e_306]
def cs_307 : List vC := [(8, [(0, (3, 12, 285, 0)), (1, (0, 0, 19, 0)), (2, (0, 0, 19, 0)), (3, (0, -2147483648, 2147483647, 0)), (4, (0, 0, 25, 0))]), (18, [(0, (3, 12, 285, 0)), (1, (0, 0, 19, 0)), (2, (0, 0, 19, 0)), (3, (0, -2147483648, 2147483647, 0)), (4, (0, 0, 24, 0)), (5, (0, -1, 3, 0))]), (27, [(0, (3, 12, 285, 0)), (1, (0, 0, 19, 0)), (2, (0, 0, 19, 0)), (3, (0, -2147483648, 2147483647, 0)), (4, (0, 0, 24, 0)), (5, (0, -1, 1, 0)), (6, (0, 0, 3, 0))])]
def mub_307_8 (a0 a1 a2 a3 x0 x1 x2 x3 x4 : Int) (h0 h : gH) : Nat := (8589934592 + (2147483648 - x4).toNat) * 1208925819614629174706176 + 1208925819614629174706175
def mub_307_18 (a0 a1 a2 a3 x0 x1 x2 x3 x4 x5 : Int) (h0 h : gH) : Nat := (8589934592 + (2147483648 - x4).toNat) * 1208925819614629174706176 + (8589934592 + (2147483648 - x5).toNat) * 1099511627776 + 1099511627775
def mub_307_27 (a0 a1 a2 a3 x0 x1 x2 x3 x4 x5 x6 : Int) (h0 h : gH) : Nat := (8589934592 + (2147483648 - x4).toNat) * 1208925819614629174706176 + (8589934592 + (2147483648 - x5).toNat) * 1099511627776 + (8589934592 + (2147483648 - x6).toNat) * 1
def A_307 : Int → List Int → gH → gH → Prop := fun c xs h0 h => True
def mu_307 : Int → List Int → gH → gH → Nat := fun c xs h0 h => match c.toNat with
  | 8 => (match xs with
    | [a0, a1, a2, a3, x0, x1, x2, x3, x4] => mub_307_8 a0 a1 a2 a3 x0 x1 x2 x3 x4 h0 h
    | _ => 0)
  | 18 => (match xs with
    | [a0, a1, a2, a3, x0, x1, x2, x3, x4, x5] => mub_307_18 a0 a1 a2 a3 x0 x1 x2 x3 x4 x5 h0 h
    | _ => 0)
  | 27 => (match xs with
    | [a0, a1, a2, a3, x0, x1, x2, x3, x4, x5, x6] => mub_307_27 a0 a1 a2 a3 x0 x1 x2 x3 x4 x5 x6 h0 h
    | _ => 0)
  | _ => 0
theorem q_307_0 {n0 n1 n2 n3 n4 : Int} {H0 H1 : gH}  : True ∧ ∀ q, none = some q → mub_307_8 n0 n1 n2 n3 n0 n1 n2 n3 n4 H0 H1 < q := by
  exact ⟨trivial, fun q hq => nomatch hq⟩
def g_307_s_0 : vG := ([], (4000, [0, 1, 2, 3, 6], [1], 8))
theorem c_307_s_0 : vOkm T0 (eP e_307 L_307 A_307 mu_307 none) 4 g_307_s_0 := vOk_in fun ρ η h => by
  obtain ⟨_⟩ := h
  exact q_307_0 (n0 := ρ 0) (n1 := ρ 1) (n2 := ρ 2) (n3 := ρ 3) (n4 := ρ 6) (H0 := η 0) (H1 := η 1) 
def p_307_s : List vG := [g_307_s_0]
theorem r_307_s : vCovO true (eR0 e_307 L_307 cs_307 2000) p_307_s = true := by decide +kernel
theorem q_307_1 {q0 : Nat} {n0 n1 : Int} {H0 : gH} (f0 : n0 = 24) (f1 : n1 ≤ n0) : n1 ≤ 24 := by
  omega
def g_307_8_0 : vG := ([(45, [8, 9], [], 0), (0, [9], [], 24)], (91, [8], [], 24))
theorem c_307_8_0 {q0 : Nat} : vOkm T0 (eP e_307 L_307 A_307 mu_307 (some q0)) 4 g_307_8_0 := vOk_in fun ρ η h => by
  obtain ⟨f0, f1, _⟩ := h
  exact q_307_1 (q0 := q0) (n0 := ρ 9) (n1 := ρ 8) (H0 := η 0) f1 f0
theorem q_307_2 {q0 : Nat} {n0 n1 n2 n3 n4 n5 n6 n7 n8 n9 n10 : Int} {H0 H1 : gH} (f0 : n0 ≤ 25) (f1 : 0 ≤ n0) (f2 : n1 ≤ 2147483647) (f3 : (-2147483648) ≤ n1) (f4 : n2 ≤ 19) (f5 : 0 ≤ n2) (f6 : n3 ≤ 19) (f7 : 0 ≤ n3) (f8 : n4 = 285) (f9 : n5 ≤ 2147483647) (f10 : (-2147483648) ≤ n5) (f11 : n6 ≤ 19) (f12 : 0 ≤ n6) (f13 : n7 ≤ 19) (f14 : 0 ≤ n7) (f15 : n8 = 285) (f16 : (hLe T0 H0 H1 ∧ hFr s_307.2.2.2.2 H0 H1 ∧ hWt T0 H1) ∧ (True ∧ True) ∧ some q0 = some (mub_307_8 n8 n7 n6 n5 n4 n3 n2 n1 n0 H0 H1)) (f17 : n9 = 24) (f18 : n0 ≤ n9) (f19 : n10 = (-1)) : True ∧ ∀ q, some q0 = some q → mub_307_18 n8 n7 n6 n5 n4 n3 n2 n1 n0 n10 H0 H1 < q := by
  have g5 := Option.some.inj f16.2.2
  unfold mub_307_8 at g5
  unfold mub_307_18
  clear f16
  refine ⟨?_, fun q hq => ?_⟩
  · trivial
  · have g6 := Option.some.inj hq
    subst g6
    omega
def g_307_8_1 : vG := ([(0, [10], [], -1), (45, [8, 9], [], 0), (0, [9], [], 24), (5000, [0, 1, 2, 3, 4, 5, 6, 7, 8], [0, 1], 8), (0, [0], [], 285), (90, [1], [], 0), (91, [1], [], 19), (90, [2], [], 0), (91, [2], [], 19), (90, [3], [], -2147483648), (91, [3], [], 2147483647), (0, [4], [], 285), (90, [5], [], 0), (91, [5], [], 19), (90, [6], [], 0), (91, [6], [], 19), (90, [7], [], -2147483648), (91, [7], [], 2147483647), (90, [8], [], 0), (91, [8], [], 25)], (4000, [4, 5, 6, 7, 8, 10], [1], 18))
theorem c_307_8_1 {q0 : Nat} : vOkm T0 (eP e_307 L_307 A_307 mu_307 (some q0)) 4 g_307_8_1 := vOk_in fun ρ η h => by
  obtain ⟨f0, f1, f2, f3, f4, f5, f6, f7, f8, f9, f10, f11, f12, f13, f14, f15, f16, f17, f18, f19, _⟩ := h
  exact q_307_2 (q0 := q0) (n0 := ρ 8) (n1 := ρ 7) (n2 := ρ 6) (n3 := ρ 5) (n4 := ρ 4) (n5 := ρ 3) (n6 := ρ 2) (n7 := ρ 1) (n8 := ρ 0) (n9 := ρ 9) (n10 := ρ 10) (H0 := η 0) (H1 := η 1) f19 f18 f17 f16 f15 f14 f13 f12 f11 f10 f9 f8 f7 f6 f5 f4 f3 f2 f1 f0
def p_307_8 : List vG := [g_307_8_0,
  g_307_8_1]
theorem r_307_8 : vCovO true (eRc e_307 L_307 cs_307 2000 (8, [(0, (3, 12, 285, 0)), (1, (0, 0, 19, 0)), (2, (0, 0, 19, 0)), (3, (0, -2147483648, 2147483647, 0)), (4, (0, 0, 25, 0))])) p_307_8 = true := by decide +kernel
theorem q_307_3 {q0 : Nat} {n0 n1 : Int} {H0 : gH} (f0 : n0 ≤ 24) (f1 : 0 ≤ n0) (f2 : n1 = w32 (n0 + 1)) : 0 ≤ n1 := by
  unfold w32 at *
  try (have ix0 : n1 = n0 + 1 := (by omega); subst ix0)
  omega
def g_307_18_0 : vG := ([(10, [11, 8], [], 1), (90, [8], [], 0), (91, [8], [], 24)], (90, [11], [], 0))
theorem c_307_18_0 {q0 : Nat} : vOkm T0 (eP e_307 L_307 A_307 mu_307 (some q0)) 4 g_307_18_0 := vOk_in fun ρ η h => by
  obtain ⟨f0, f1, f2, _⟩ := h
  exact q_307_3 (q0 := q0) (n0 := ρ 8) (n1 := ρ 11) (H0 := η 0) f2 f1 f0
theorem q_307_4 {q0 : Nat} {n0 n1 : Int} {H0 : gH} (f0 : n0 ≤ 24) (f1 : 0 ≤ n0) (f2 : n1 = w32 (n0 + 1)) : n1 ≤ 25 := by
  unfold w32 at *
  try (have ix0 : n1 = n0 + 1 := (by omega); subst ix0)
  omega
def g_307_18_1 : vG := ([(10, [11, 8], [], 1), (90, [8], [], 0), (91, [8], [], 24)], (91, [11], [], 25))
theorem c_307_18_1 {q0 : Nat} : vOkm T0 (eP e_307 L_307 A_307 mu_307 (some q0)) 4 g_307_18_1 := vOk_in fun ρ η h => by
  obtain ⟨f0, f1, f2, _⟩ := h
  exact q_307_4 (q0 := q0) (n0 := ρ 8) (n1 := ρ 11) (H0 := η 0) f2 f1 f0
theorem q_307_5 {q0 : Nat} {n0 n1 n2 n3 n4 n5 n6 n7 n8 n9 n10 n11 : Int} {H0 H1 : gH} (f0 : n0 ≤ 3) (f1 : (-1) ≤ n0) (f2 : n1 ≤ 24) (f3 : 0 ≤ n1) (f4 : n2 ≤ 2147483647) (f5 : (-2147483648) ≤ n2) (f6 : n3 ≤ 19) (f7 : 0 ≤ n3) (f8 : n4 ≤ 19) (f9 : 0 ≤ n4) (f10 : n5 = 285) (f11 : n6 ≤ 2147483647) (f12 : (-2147483648) ≤ n6) (f13 : n7 ≤ 19) (f14 : 0 ≤ n7) (f15 : n8 ≤ 19) (f16 : 0 ≤ n8) (f17 : n9 = 285) (f18 : (hLe T0 H0 H1 ∧ hFr s_307.2.2.2.2 H0 H1 ∧ hWt T0 H1) ∧ (True ∧ True) ∧ some q0 = some (mub_307_18 n9 n8 n7 n6 n5 n4 n3 n2 n1 n0 H0 H1)) (f19 : n10 = 1) (f20 : n10 < n0) (f21 : n11 = w32 (n1 + 1)) : True ∧ ∀ q, some q0 = some q → mub_307_8 n9 n8 n7 n6 n5 n4 n3 n2 n11 H0 H1 < q := by
  have g5 := Option.some.inj f18.2.2
  unfold mub_307_18 at g5
  unfold mub_307_8
  clear f18
  unfold w32 at *
  try (have ix0 : n11 = n1 + 1 := (by omega); subst ix0)
  refine ⟨?_, fun q hq => ?_⟩
  · trivial
  · have g6 := Option.some.inj hq
    subst g6
    omega
def g_307_18_2 : vG := ([(10, [11, 8], [], 1), (44, [9, 10], [], 0), (0, [10], [], 1), (5000, [0, 1, 2, 3, 4, 5, 6, 7, 8, 9], [0, 1], 18), (0, [0], [], 285), (90, [1], [], 0), (91, [1], [], 19), (90, [2], [], 0), (91, [2], [], 19), (90, [3], [], -2147483648), (91, [3], [], 2147483647), (0, [4], [], 285), (90, [5], [], 0), (91, [5], [], 19), (90, [6], [], 0), (91, [6], [], 19), (90, [7], [], -2147483648), (91, [7], [], 2147483647), (90, [8], [], 0), (91, [8], [], 24), (90, [9], [], -1), (91, [9], [], 3)], (4000, [4, 5, 6, 7, 11], [1], 8))
theorem c_307_18_2 {q0 : Nat} : vOkm T0 (eP e_307 L_307 A_307 mu_307 (some q0)) 4 g_307_18_2 := vOk_in fun ρ η h => by
  obtain ⟨f0, f1, f2, f3, f4, f5, f6, f7, f8, f9, f10, f11, f12, f13, f14, f15, f16, f17, f18, f19, f20, f21, _⟩ := h
  exact q_307_5 (q0 := q0) (n0 := ρ 9) (n1 := ρ 8) (n2 := ρ 7) (n3 := ρ 6) (n4 := ρ 5) (n5 := ρ 4) (n6 := ρ 3) (n7 := ρ 2) (n8 := ρ 1) (n9 := ρ 0) (n10 := ρ 10) (n11 := ρ 11) (H0 := η 0) (H1 := η 1) f21 f20 f19 f18 f17 f16 f15 f14 f13 f12 f11 f10 f9 f8 f7 f6 f5 f4 f3 f2 f1 f0
theorem q_307_6 {q0 : Nat} {n0 n1 : Int} {H0 : gH} (f0 : n0 = 1) (f1 : n1 ≤ n0) : n1 ≤ 1 := by
  omega
def g_307_18_3 : vG := ([(45, [9, 10], [], 0), (0, [10], [], 1)], (91, [9], [], 1))
theorem c_307_18_3 {q0 : Nat} : vOkm T0 (eP e_307 L_307 A_307 mu_307 (some q0)) 4 g_307_18_3 := vOk_in fun ρ η h => by
  obtain ⟨f0, f1, _⟩ := h
  exact q_307_6 (q0 := q0) (n0 := ρ 10) (n1 := ρ 9) (H0 := η 0) f1 f0
theorem q_307_7 {q0 : Nat} {n0 n1 n2 n3 n4 n5 n6 n7 n8 n9 n10 n11 : Int} {H0 H1 : gH} (f0 : n0 ≤ 3) (f1 : (-1) ≤ n0) (f2 : n1 ≤ 24) (f3 : 0 ≤ n1) (f4 : n2 ≤ 2147483647) (f5 : (-2147483648) ≤ n2) (f6 : n3 ≤ 19) (f7 : 0 ≤ n3) (f8 : n4 ≤ 19) (f9 : 0 ≤ n4) (f10 : n5 = 285) (f11 : n6 ≤ 2147483647) (f12 : (-2147483648) ≤ n6) (f13 : n7 ≤ 19) (f14 : 0 ≤ n7) (f15 : n8 ≤ 19) (f16 : 0 ≤ n8) (f17 : n9 = 285) (f18 : (hLe T0 H0 H1 ∧ hFr s_307.2.2.2.2 H0 H1 ∧ hWt T0 H1) ∧ (True ∧ True) ∧ some q0 = some (mub_307_18 n9 n8 n7 n6 n5 n4 n3 n2 n1 n0 H0 H1)) (f19 : n10 = 1) (f20 : n0 ≤ n10) (f21 : n11 = 0) : True ∧ ∀ q, some q0 = some q → mub_307_27 n9 n8 n7 n6 n5 n4 n3 n2 n1 n0 n11 H0 H1 < q := by
  have g5 := Option.some.inj f18.2.2
  unfold mub_307_18 at g5
  unfold mub_307_27
  clear f18
  refine ⟨?_, fun q hq => ?_⟩
  · trivial
  · have g6 := Option.some.inj hq
    subst g6
    omega
def g_307_18_4 : vG := ([(0, [11], [], 0), (45, [9, 10], [], 0), (0, [10], [], 1), (5000, [0, 1, 2, 3, 4, 5, 6, 7, 8, 9], [0, 1], 18), (0, [0], [], 285), (90, [1], [], 0), (91, [1], [], 19), (90, [2], [], 0), (91, [2], [], 19), (90, [3], [], -2147483648), (91, [3], [], 2147483647), (0, [4], [], 285), (90, [5], [], 0), (91, [5], [], 19), (90, [6], [], 0), (91, [6], [], 19), (90, [7], [], -2147483648), (91, [7], [], 2147483647), (90, [8], [], 0), (91, [8], [], 24), (90, [9], [], -1), (91, [9], [], 3)], (4000, [4, 5, 6, 7, 8, 9, 11], [1], 27))
theorem c_307_18_4 {q0 : Nat} : vOkm T0 (eP e_307 L_307 A_307 mu_307 (some q0)) 4 g_307_18_4 := vOk_in fun ρ η h => by
  obtain ⟨f0, f1, f2, f3, f4, f5, f6, f7, f8, f9, f10, f11, f12, f13, f14, f15, f16, f17, f18, f19, f20, f21, _⟩ := h
  exact q_307_7 (q0 := q0) (n0 := ρ 9) (n1 := ρ 8) (n2 := ρ 7) (n3 := ρ 6) (n4 := ρ 5) (n5 := ρ 4) (n6 := ρ 3) (n7 := ρ 2) (n8 := ρ 1) (n9 := ρ 0) (n10 := ρ 10) (n11 := ρ 11) (H0 := η 0) (H1 := η 1) f21 f20 f19 f18 f17 f16 f15 f14 f13 f12 f11 f10 f9 f8 f7 f6 f5 f4 f3 f2 f1 f0
def p_307_18 : List vG := [g_307_18_0,
  g_307_18_1,
  g_307_18_2,
  g_307_18_3,
  g_307_18_4]
theorem r_307_18 : vCovO true (eRc e_307 L_307 cs_307 2000 (18, [(0, (3, 12, 285, 0)), (1, (0, 0, 19, 0)), (2, (0, 0, 19, 0)), (3, (0, -2147483648, 2147483647, 0)), (4, (0, 0, 24, 0)), (5, (0, -1, 3, 0))])) p_307_18 = true := by decide +kernel
theorem q_307_8 {q0 : Nat} {n0 n1 : Int} {H0 : gH} (f0 : n0 ≤ 1) (f1 : (-1) ≤ n0) (f2 : n1 = w32 (n0 + 2)) : (-1) ≤ n1 := by
  unfold w32 at *
  try (have ix0 : n1 = n0 + 2 := (by omega); subst ix0)
  omega
def g_307_27_0 : vG := ([(10, [12, 9], [], 2), (90, [9], [], -1), (91, [9], [], 1)], (90, [12], [], -1))
theorem c_307_27_0 {q0 : Nat} : vOkm T0 (eP e_307 L_307 A_307 mu_307 (some q0)) 4 g_307_27_0 := vOk_in fun ρ η h => by
  obtain ⟨f0, f1, f2, _⟩ := h
  exact q_307_8 (q0 := q0) (n0 := ρ 9) (n1 := ρ 12) (H0 := η 0) f2 f1 f0
theorem q_307_9 {q0 : Nat} {n0 n1 : Int} {H0 : gH} (f0 : n0 ≤ 1) (f1 : (-1) ≤ n0) (f2 : n1 = w32 (n0 + 2)) : n1 ≤ 3 := by
  unfold w32 at *
  try (have ix0 : n1 = n0 + 2 := (by omega); subst ix0)
  omega
def g_307_27_1 : vG := ([(10, [12, 9], [], 2), (90, [9], [], -1), (91, [9], [], 1)], (91, [12], [], 3))
theorem c_307_27_1 {q0 : Nat} : vOkm T0 (eP e_307 L_307 A_307 mu_307 (some q0)) 4 g_307_27_1 := vOk_in fun ρ η h => by
  obtain ⟨f0, f1, f2, _⟩ := h
  exact q_307_9 (q0 := q0) (n0 := ρ 9) (n1 := ρ 12) (H0 := η 0) f2 f1 f0
theorem q_307_10 {q0 : Nat} {n0 n1 n2 n3 n4 n5 n6 n7 n8 n9 n10 n11 n12 : Int} {H0 H1 : gH} (f0 : n0 ≤ 3) (f1 : 0 ≤ n0) (f2 : n1 ≤ 1) (f3 : (-1) ≤ n1) (f4 : n2 ≤ 24) (f5 : 0 ≤ n2) (f6 : n3 ≤ 2147483647) (f7 : (-2147483648) ≤ n3) (f8 : n4 ≤ 19) (f9 : 0 ≤ n4) (f10 : n5 ≤ 19) (f11 : 0 ≤ n5) (f12 : n6 = 285) (f13 : n7 ≤ 2147483647) (f14 : (-2147483648) ≤ n7) (f15 : n8 ≤ 19) (f16 : 0 ≤ n8) (f17 : n9 ≤ 19) (f18 : 0 ≤ n9) (f19 : n10 = 285) (f20 : (hLe T0 H0 H1 ∧ hFr s_307.2.2.2.2 H0 H1 ∧ hWt T0 H1) ∧ (True ∧ True) ∧ some q0 = some (mub_307_27 n10 n9 n8 n7 n6 n5 n4 n3 n2 n1 n0 H0 H1)) (f21 : n11 = 3) (f22 : n11 ≤ n0) (f23 : n12 = w32 (n1 + 2)) : True ∧ ∀ q, some q0 = some q → mub_307_18 n10 n9 n8 n7 n6 n5 n4 n3 n2 n12 H0 H1 < q := by
  have g5 := Option.some.inj f20.2.2
  unfold mub_307_27 at g5
  unfold mub_307_18
  clear f20
  unfold w32 at *
  try (have ix0 : n12 = n1 + 2 := (by omega); subst ix0)
  refine ⟨?_, fun q hq => ?_⟩
  · trivial
  · have g6 := Option.some.inj hq
    subst g6
    omega
def g_307_27_2 : vG := ([(10, [12, 9], [], 2), (43, [10, 11], [], 0), (0, [11], [], 3), (5000, [0, 1, 2, 3, 4, 5, 6, 7, 8, 9, 10], [0, 1], 27), (0, [0], [], 285), (90, [1], [], 0), (91, [1], [], 19), (90, [2], [], 0), (91, [2], [], 19), (90, [3], [], -2147483648), (91, [3], [], 2147483647), (0, [4], [], 285), (90, [5], [], 0), (91, [5], [], 19), (90, [6], [], 0), (91, [6], [], 19), (90, [7], [], -2147483648), (91, [7], [], 2147483647), (90, [8], [], 0), (91, [8], [], 24), (90, [9], [], -1), (91, [9], [], 1), (90, [10], [], 0), (91, [10], [], 3)], (4000, [4, 5, 6, 7, 8, 12], [1], 18))
theorem c_307_27_2 {q0 : Nat} : vOkm T0 (eP e_307 L_307 A_307 mu_307 (some q0)) 4 g_307_27_2 := vOk_in fun ρ η h => by
  obtain ⟨f0, f1, f2, f3, f4, f5, f6, f7, f8, f9, f10, f11, f12, f13, f14, f15, f16, f17, f18, f19, f20, f21, f22, f23, _⟩ := h
  exact q_307_10 (q0 := q0) (n0 := ρ 10) (n1 := ρ 9) (n2 := ρ 8) (n3 := ρ 7) (n4 := ρ 6) (n5 := ρ 5) (n6 := ρ 4) (n7 := ρ 3) (n8 := ρ 2) (n9 := ρ 1) (n10 := ρ 0) (n11 := ρ 11) (n12 := ρ 12) (H0 := η 0) (H1 := η 1) f23 f22 f21 f20 f19 f18 f17 f16 f15 f14 f13 f12 f11 f10 f9 f8 f7 f6 f5 f4 f3 f2 f1 f0
theorem q_307_11 {q0 : Nat} {n0 n1 n2 : Int} {H0 : gH} (f0 : 0 ≤ n0) (f1 : n1 = 3) (f2 : n0 < n1) (f3 : n2 = w32 (n0 + 1)) : 0 ≤ n2 := by
  unfold w32 at *
  try (have ix0 : n2 = n0 + 1 := (by omega); subst ix0)
  omega
def g_307_27_3 : vG := ([(10, [22, 10], [], 1), (42, [10, 11], [], 0), (0, [11], [], 3), (90, [10], [], 0)], (90, [22], [], 0))
theorem c_307_27_3 {q0 : Nat} : vOkm T0 (eP e_307 L_307 A_307 mu_307 (some q0)) 4 g_307_27_3 := vOk_in fun ρ η h => by
  obtain ⟨f0, f1, f2, f3, _⟩ := h
  exact q_307_11 (q0 := q0) (n0 := ρ 10) (n1 := ρ 11) (n2 := ρ 22) (H0 := η 0) f3 f2 f1 f0
theorem q_307_12 {q0 : Nat} {n0 n1 n2 : Int} {H0 : gH} (f0 : 0 ≤ n0) (f1 : n1 = 3) (f2 : n0 < n1) (f3 : n2 = w32 (n0 + 1)) : n2 ≤ 3 := by
  unfold w32 at *
  try (have ix0 : n2 = n0 + 1 := (by omega); subst ix0)
  omega
def g_307_27_4 : vG := ([(10, [22, 10], [], 1), (42, [10, 11], [], 0), (0, [11], [], 3), (90, [10], [], 0)], (91, [22], [], 3))
theorem c_307_27_4 {q0 : Nat} : vOkm T0 (eP e_307 L_307 A_307 mu_307 (some q0)) 4 g_307_27_4 := vOk_in fun ρ η h => by
  obtain ⟨f0, f1, f2, f3, _⟩ := h
  exact q_307_12 (q0 := q0) (n0 := ρ 10) (n1 := ρ 11) (n2 := ρ 22) (H0 := η 0) f3 f2 f1 f0
theorem q_307_13 {q0 : Nat} {n0 n1 n2 n3 n4 n5 n6 n7 n8 n9 n10 n11 n12 n13 n14 n15 n16 n17 n18 n19 n20 : Int} {H0 H1 H2 H3 H4 H5 : gH} (f0 : n0 ≤ 3) (f1 : 0 ≤ n0) (f2 : n1 ≤ 1) (f3 : (-1) ≤ n1) (f4 : n2 ≤ 24) (f5 : 0 ≤ n2) (f6 : n3 ≤ 2147483647) (f7 : (-2147483648) ≤ n3) (f8 : n4 ≤ 19) (f9 : 0 ≤ n4) (f10 : n5 ≤ 19) (f11 : 0 ≤ n5) (f12 : n6 = 285) (f13 : n7 ≤ 2147483647) (f14 : (-2147483648) ≤ n7) (f15 : n8 ≤ 19) (f16 : 0 ≤ n8) (f17 : n9 ≤ 19) (f18 : 0 ≤ n9) (f19 : n10 = 285) (f20 : (hLe T0 H0 H1 ∧ hFr s_307.2.2.2.2 H0 H1 ∧ hWt T0 H1) ∧ (True ∧ True) ∧ some q0 = some (mub_307_27 n10 n9 n8 n7 n6 n5 n4 n3 n2 n1 n0 H0 H1)) (f21 : n11 = 3) (f22 : n0 < n11) (f23 : n0 ≠ 0) (f24 : n12 = 1) (f25 : n0 ≠ n12) (f26 : n13 = 11) (f27 : n14 = w32 (n1 * n2)) (f28 : n15 ≤ 2147483647) (f29 : (-2147483648) ≤ n15) (f30 : (hLe T0 H1 H2 ∧ hFr s_306.2.2.2.2 H1 H2 ∧ ((0 : Int) = 0 → H2.length = H1.length) ∧ hWt T0 H2) ∧ True) (f31 : n16 = 100) (f32 : hUpd H3 H2 n6 n16 n15) (f33 : n17 = w32 (n1 * n2)) (f34 : n18 = 101) (f35 : hUpd H4 H3 n6 n18 n17) (f36 : n19 = 102) (f37 : hUpd H5 H4 n6 n19 n13) (f38 : n20 = w32 (n0 + 1)) : True ∧ ∀ q, some q0 = some q → mub_307_27 n10 n9 n8 n7 n6 n5 n4 n3 n2 n1 n20 H0 H5 < q := by
  have g5 := Option.some.inj f20.2.2
  unfold mub_307_27 at g5
  unfold mub_307_27
  clear f20 f30
  unfold w32 at *
  try (have ix0 : n20 = n0 + 1 := (by omega); subst ix0)
  refine ⟨?_, fun q hq => ?_⟩
  · trivial
  · have g6 := Option.some.inj hq
    subst g6
    omega
def g_307_27_5 : vG := ([(10, [22, 10], [], 1), (80, [4, 21, 13], [5, 4], 0), (0, [21], [], 102), (80, [4, 20, 19], [4, 3], 0), (0, [20], [], 101), (3, [19, 9, 8], [], 0), (80, [4, 18, 15], [3, 2], 0), (0, [18], [], 100), (1306, [15, 4, 5, 6, 7, 14, 13], [1, 2], 0), (90, [15], [], -2147483648), (91, [15], [], 2147483647), (3, [14, 9, 8], [], 0), (0, [13], [], 11), (41, [10, 12], [], 0), (0, [12], [], 1), (31, [10], [], 0), (42, [10, 11], [], 0), (0, [11], [], 3), (5000, [0, 1, 2, 3, 4, 5, 6, 7, 8, 9, 10], [0, 1], 27), (0, [0], [], 285), (90, [1], [], 0), (91, [1], [], 19), (90, [2], [], 0), (91, [2], [], 19), (90, [3], [], -2147483648), (91, [3], [], 2147483647), (0, [4], [], 285), (90, [5], [], 0), (91, [5], [], 19), (90, [6], [], 0), (91, [6], [], 19), (90, [7], [], -2147483648), (91, [7], [], 2147483647), (90, [8], [], 0), (91, [8], [], 24), (90, [9], [], -1), (91, [9], [], 1), (90, [10], [], 0), (91, [10], [], 3)], (4000, [4, 5, 6, 7, 8, 9, 22], [5], 27))
theorem c_307_27_5 {q0 : Nat} : vOkm T0 (eP e_307 L_307 A_307 mu_307 (some q0)) 4 g_307_27_5 := vOk_in fun ρ η h => by
  obtain ⟨f0, f1, f2, f3, f4, f5, f6, f7, f8, f9, f10, f11, f12, f13, f14, f15, f16, f17, f18, f19, f20, f21, f22, f23, f24, f25, f26, f27, f28, f29, f30, f31, f32, f33, f34, f35, f36, f37, f38, _⟩ := h
  exact q_307_13 (q0 := q0) (n0 := ρ 10) (n1 := ρ 9) (n2 := ρ 8) (n3 := ρ 7) (n4 := ρ 6) (n5 := ρ 5) (n6 := ρ 4) (n7 := ρ 3) (n8 := ρ 2) (n9 := ρ 1) (n10 := ρ 0) (n11 := ρ 11) (n12 := ρ 12) (n13 := ρ 13) (n14 := ρ 14) (n15 := ρ 15) (n16 := ρ 18) (n17 := ρ 19) (n18 := ρ 20) (n19 := ρ 21) (n20 := ρ 22) (H0 := η 0) (H1 := η 1) (H2 := η 2) (H3 := η 3) (H4 := η 4) (H5 := η 5) f38 f37 f36 f35 f34 f33 f32 f31 f30 f29 f28 f27 f26 f25 f24 f23 f22 f21 f20 f19 f18 f17 f16 f15 f14 f13 f12 f11 f10 f9 f8 f7 f6 f5 f4 f3 f2 f1 f0
def g_307_27_6 : vG := ([(10, [23, 10], [], 1), (42, [10, 11], [], 0), (0, [11], [], 3), (90, [10], [], 0)], (90, [23], [], 0))
theorem c_307_27_6 {q0 : Nat} : vOkm T0 (eP e_307 L_307 A_307 mu_307 (some q0)) 4 g_307_27_6 := vOk_in fun ρ η h => by
  obtain ⟨f0, f1, f2, f3, _⟩ := h
  exact q_307_11 (q0 := q0) (n0 := ρ 10) (n1 := ρ 11) (n2 := ρ 23) (H0 := η 0) f3 f2 f1 f0
def g_307_27_7 : vG := ([(10, [23, 10], [], 1), (42, [10, 11], [], 0), (0, [11], [], 3), (90, [10], [], 0)], (91, [23], [], 3))
theorem c_307_27_7 {q0 : Nat} : vOkm T0 (eP e_307 L_307 A_307 mu_307 (some q0)) 4 g_307_27_7 := vOk_in fun ρ η h => by
  obtain ⟨f0, f1, f2, f3, _⟩ := h
  exact q_307_12 (q0 := q0) (n0 := ρ 10) (n1 := ρ 11) (n2 := ρ 23) (H0 := η 0) f3 f2 f1 f0
theorem q_307_14 {q0 : Nat} {n0 n1 n2 n3 n4 n5 n6 n7 n8 n9 n10 n11 n12 n13 n14 n15 n16 n17 n18 n19 n20 n21 n22 n23 : Int} {H0 H1 H2 H3 H4 H5 : gH} (f0 : n0 ≤ 3) (f1 : 0 ≤ n0) (f2 : n1 ≤ 1) (f3 : (-1) ≤ n1) (f4 : n2 ≤ 24) (f5 : 0 ≤ n2) (f6 : n3 ≤ 2147483647) (f7 : (-2147483648) ≤ n3) (f8 : n4 ≤ 19) (f9 : 0 ≤ n4) (f10 : n5 ≤ 19) (f11 : 0 ≤ n5) (f12 : n6 = 285) (f13 : n7 ≤ 2147483647) (f14 : (-2147483648) ≤ n7) (f15 : n8 ≤ 19) (f16 : 0 ≤ n8) (f17 : n9 ≤ 19) (f18 : 0 ≤ n9) (f19 : n10 = 285) (f20 : (hLe T0 H0 H1 ∧ hFr s_307.2.2.2.2 H0 H1 ∧ hWt T0 H1) ∧ (True ∧ True) ∧ some q0 = some (mub_307_27 n10 n9 n8 n7 n6 n5 n4 n3 n2 n1 n0 H0 H1)) (f21 : n11 = 3) (f22 : n0 < n11) (f23 : n0 ≠ 0) (f24 : n12 = 1) (f25 : n0 ≠ n12) (f26 : n13 = 11) (f27 : n14 = w32 (n1 * n2)) (f28 : n15 ≤ 2147483647) (f29 : (-2147483648) ≤ n15) (f30 : (hLe T0 H1 H2 ∧ hFr s_306.2.2.2.2 H1 H2 ∧ ((0 : Int) = 0 → H2.length = H1.length) ∧ hWt T0 H2) ∧ True) (f31 : n16 ≤ 2147483647) (f32 : (-2147483648) ≤ n16) (f33 : n16 = hV H2 (n6).toNat 100) (f34 : n17 = (-1)) (f35 : n16 ≠ n17) (f36 : n18 ≤ 2147483647) (f37 : (-2147483648) ≤ n18) (f38 : n18 = hV H2 (n6).toNat 100) (f39 : n15 < n18) (f40 : n19 = 100) (f41 : hUpd H3 H2 n6 n19 n15) (f42 : n20 = w32 (n1 * n2)) (f43 : n21 = 101) (f44 : hUpd H4 H3 n6 n21 n20) (f45 : n22 = 102) (f46 : hUpd H5 H4 n6 n22 n13) (f47 : n23 = w32 (n0 + 1)) : True ∧ ∀ q, some q0 = some q → mub_307_27 n10 n9 n8 n7 n6 n5 n4 n3 n2 n1 n23 H0 H5 < q := by
  have g5 := Option.some.inj f20.2.2
  unfold mub_307_27 at g5
  unfold mub_307_27
  have e0 : hV H2 285 100 = hV H1 285 100 := f30.1.2.1.1 285 100 (by decide +kernel)
  have e1 : n16 = hV H1 285 100 := (by rw [f12] at f33; exact f33 : n16 = hV H2 285 100).trans (e0)
  have e2 : n18 = hV H1 285 100 := (by rw [f12] at f38; exact f38 : n18 = hV H2 285 100).trans (e0)
  clear f33 f38 e0
  clear f20 f30
  subst e1
  subst e2
  unfold w32 at *
  try (have ix0 : n23 = n0 + 1 := (by omega); subst ix0)
  refine ⟨?_, fun q hq => ?_⟩
  · trivial
  · have g6 := Option.some.inj hq
    subst g6
    omega
def g_307_27_8 : vG := ([(10, [23, 10], [], 1), (80, [4, 22, 13], [5, 4], 0), (0, [22], [], 102), (80, [4, 21, 20], [4, 3], 0), (0, [21], [], 101), (3, [20, 9, 8], [], 0), (80, [4, 19, 15], [3, 2], 0), (0, [19], [], 100), (42, [15, 18], [], 0), (20, [18, 4], [2], 100), (90, [18], [], -2147483648), (91, [18], [], 2147483647), (41, [16, 17], [], 0), (0, [17], [], -1), (20, [16, 4], [2], 100), (90, [16], [], -2147483648), (91, [16], [], 2147483647), (1306, [15, 4, 5, 6, 7, 14, 13], [1, 2], 0), (90, [15], [], -2147483648), (91, [15], [], 2147483647), (3, [14, 9, 8], [], 0), (0, [13], [], 11), (41, [10, 12], [], 0), (0, [12], [], 1), (31, [10], [], 0), (42, [10, 11], [], 0), (0, [11], [], 3), (5000, [0, 1, 2, 3, 4, 5, 6, 7, 8, 9, 10], [0, 1], 27), (0, [0], [], 285), (90, [1], [], 0), (91, [1], [], 19), (90, [2], [], 0), (91, [2], [], 19), (90, [3], [], -2147483648), (91, [3], [], 2147483647), (0, [4], [], 285), (90, [5], [], 0), (91, [5], [], 19), (90, [6], [], 0), (91, [6], [], 19), (90, [7], [], -2147483648), (91, [7], [], 2147483647), (90, [8], [], 0), (91, [8], [], 24), (90, [9], [], -1), (91, [9], [], 1), (90, [10], [], 0), (91, [10], [], 3)], (4000, [4, 5, 6, 7, 8, 9, 23], [5], 27))
theorem c_307_27_8 {q0 : Nat} : vOkm T0 (eP e_307 L_307 A_307 mu_307 (some q0)) 4 g_307_27_8 := vOk_in fun ρ η h => by
  obtain ⟨f0, f1, f2, f3, f4, f5, f6, f7, f8, f9, f10, f11, f12, f13, f14, f15, f16, f17, f18, f19, f20, f21, f22, f23, f24, f25, f26, f27, f28, f29, f30, f31, f32, f33, f34, f35, f36, f37, f38, f39, f40, f41, f42, f43, f44, f45, f46, f47, _⟩ := h
  exact q_307_14 (q0 := q0) (n0 := ρ 10) (n1 := ρ 9) (n2 := ρ 8) (n3 := ρ 7) (n4 := ρ 6) (n5 := ρ 5) (n6 := ρ 4) (n7 := ρ 3) (n8 := ρ 2) (n9 := ρ 1) (n10 := ρ 0) (n11 := ρ 11) (n12 := ρ 12) (n13 := ρ 13) (n14 := ρ 14) (n15 := ρ 15) (n16 := ρ 16) (n17 := ρ 17) (n18 := ρ 18) (n19 := ρ 19) (n20 := ρ 20) (n21 := ρ 21) (n22 := ρ 22) (n23 := ρ 23) (H0 := η 0) (H1 := η 1) (H2 := η 2) (H3 := η 3) (H4 := η 4) (H5 := η 5) f47 f46 f45 f44 f43 f42 f41 f40 f39 f38 f37 f36 f35 f34 f33 f32 f31 f30 f29 f28 f27 f26 f25 f24 f23 f22 f21 f20 f19 f18 f17 f16 f15 f14 f13 f12 f11 f10 f9 f8 f7 f6 f5 f4 f3 f2 f1 f0
def g_307_27_9 : vG := ([(10, [19, 10], [], 1), (42, [10, 11], [], 0), (0, [11], [], 3), (90, [10], [], 0)], (90, [19], [], 0))
theorem c_307_27_9 {q0 : Nat} : vOkm T0 (eP e_307 L_307 A_307 mu_307 (some q0)) 4 g_307_27_9 := vOk_in fun ρ η h => by
  obtain ⟨f0, f1, f2, f3, _⟩ := h
  exact q_307_11 (q0 := q0) (n0 := ρ 10) (n1 := ρ 11) (n2 := ρ 19) (H0 := η 0) f3 f2 f1 f0
def g_307_27_10 : vG := ([(10, [19, 10], [], 1), (42, [10, 11], [], 0), (0, [11], [], 3), (90, [10], [], 0)], (91, [19], [], 3))
theorem c_307_27_10 {q0 : Nat} : vOkm T0 (eP e_307 L_307 A_307 mu_307 (some q0)) 4 g_307_27_10 := vOk_in fun ρ η h => by
  obtain ⟨f0, f1, f2, f3, _⟩ := h
  exact q_307_12 (q0 := q0) (n0 := ρ 10) (n1 := ρ 11) (n2 := ρ 19) (H0 := η 0) f3 f2 f1 f0
theorem q_307_15 {q0 : Nat} {n0 n1 n2 n3 n4 n5 n6 n7 n8 n9 n10 n11 n12 n13 n14 n15 n16 n17 n18 n19 : Int} {H0 H1 H2 : gH} (f0 : n0 ≤ 3) (f1 : 0 ≤ n0) (f2 : n1 ≤ 1) (f3 : (-1) ≤ n1) (f4 : n2 ≤ 24) (f5 : 0 ≤ n2) (f6 : n3 ≤ 2147483647) (f7 : (-2147483648) ≤ n3) (f8 : n4 ≤ 19) (f9 : 0 ≤ n4) (f10 : n5 ≤ 19) (f11 : 0 ≤ n5) (f12 : n6 = 285) (f13 : n7 ≤ 2147483647) (f14 : (-2147483648) ≤ n7) (f15 : n8 ≤ 19) (f16 : 0 ≤ n8) (f17 : n9 ≤ 19) (f18 : 0 ≤ n9) (f19 : n10 = 285) (f20 : (hLe T0 H0 H1 ∧ hFr s_307.2.2.2.2 H0 H1 ∧ hWt T0 H1) ∧ (True ∧ True) ∧ some q0 = some (mub_307_27 n10 n9 n8 n7 n6 n5 n4 n3 n2 n1 n0 H0 H1)) (f21 : n11 = 3) (f22 : n0 < n11) (f23 : n0 ≠ 0) (f24 : n12 = 1) (f25 : n0 ≠ n12) (f26 : n13 = 11) (f27 : n14 = w32 (n1 * n2)) (f28 : n15 ≤ 2147483647) (f29 : (-2147483648) ≤ n15) (f30 : (hLe T0 H1 H2 ∧ hFr s_306.2.2.2.2 H1 H2 ∧ ((0 : Int) = 0 → H2.length = H1.length) ∧ hWt T0 H2) ∧ True) (f31 : n16 ≤ 2147483647) (f32 : (-2147483648) ≤ n16) (f33 : n16 = hV H2 (n6).toNat 100) (f34 : n17 = (-1)) (f35 : n16 ≠ n17) (f36 : n18 ≤ 2147483647) (f37 : (-2147483648) ≤ n18) (f38 : n18 = hV H2 (n6).toNat 100) (f39 : n18 ≤ n15) (f40 : n19 = w32 (n0 + 1)) : True ∧ ∀ q, some q0 = some q → mub_307_27 n10 n9 n8 n7 n6 n5 n4 n3 n2 n1 n19 H0 H2 < q := by
  have g5 := Option.some.inj f20.2.2
  unfold mub_307_27 at g5
  unfold mub_307_27
  have e0 : hV H2 285 100 = hV H1 285 100 := f30.1.2.1.1 285 100 (by decide +kernel)
  have e1 : n16 = hV H1 285 100 := (by rw [f12] at f33; exact f33 : n16 = hV H2 285 100).trans (e0)
  have e2 : n18 = hV H1 285 100 := (by rw [f12] at f38; exact f38 : n18 = hV H2 285 100).trans (e0)
  clear f33 f38 e0
  clear f20 f30
  subst e1
  subst e2
  unfold w32 at *
  try (have ix0 : n19 = n0 + 1 := (by omega); subst ix0)
  refine ⟨?_, fun q hq => ?_⟩
  · trivial
  · have g6 := Option.some.inj hq
    subst g6
    omega
def g_307_27_11 : vG := ([(10, [19, 10], [], 1), (43, [15, 18], [], 0), (20, [18, 4], [2], 100), (90, [18], [], -2147483648), (91, [18], [], 2147483647), (41, [16, 17], [], 0), (0, [17], [], -1), (20, [16, 4], [2], 100), (90, [16], [], -2147483648), (91, [16], [], 2147483647), (1306, [15, 4, 5, 6, 7, 14, 13], [1, 2], 0), (90, [15], [], -2147483648), (91, [15], [], 2147483647), (3, [14, 9, 8], [], 0), (0, [13], [], 11), (41, [10, 12], [], 0), (0, [12], [], 1), (31, [10], [], 0), (42, [10, 11], [], 0), (0, [11], [], 3), (5000, [0, 1, 2, 3, 4, 5, 6, 7, 8, 9, 10], [0, 1], 27), (0, [0], [], 285), (90, [1], [], 0), (91, [1], [], 19), (90, [2], [], 0), (91, [2], [], 19), (90, [3], [], -2147483648), (91, [3], [], 2147483647), (0, [4], [], 285), (90, [5], [], 0), (91, [5], [], 19), (90, [6], [], 0), (91, [6], [], 19), (90, [7], [], -2147483648), (91, [7], [], 2147483647), (90, [8], [], 0), (91, [8], [], 24), (90, [9], [], -1), (91, [9], [], 1), (90, [10], [], 0), (91, [10], [], 3)], (4000, [4, 5, 6, 7, 8, 9, 19], [2], 27))
theorem c_307_27_11 {q0 : Nat} : vOkm T0 (eP e_307 L_307 A_307 mu_307 (some q0)) 4 g_307_27_11 := vOk_in fun ρ η h => by
  obtain ⟨f0, f1, f2, f3, f4, f5, f6, f7, f8, f9, f10, f11, f12, f13, f14, f15, f16, f17, f18, f19, f20, f21, f22, f23, f24, f25, f26, f27, f28, f29, f30, f31, f32, f33, f34, f35, f36, f37, f38, f39, f40, _⟩ := h
  exact q_307_15 (q0 := q0) (n0 := ρ 10) (n1 := ρ 9) (n2 := ρ 8) (n3 := ρ 7) (n4 := ρ 6) (n5 := ρ 5) (n6 := ρ 4) (n7 := ρ 3) (n8 := ρ 2) (n9 := ρ 1) (n10 := ρ 0) (n11 := ρ 11) (n12 := ρ 12) (n13 := ρ 13) (n14 := ρ 14) (n15 := ρ 15) (n16 := ρ 16) (n17 := ρ 17) (n18 := ρ 18) (n19 := ρ 19) (H0 := η 0) (H1 := η 1) (H2 := η 2) f40 f39 f38 f37 f36 f35 f34 f33 f32 f31 f30 f29 f28 f27 f26 f25 f24 f23 f22 f21 f20 f19 f18 f17 f16 f15 f14 f13 f12 f11 f10 f9 f8 f7 f6 f5 f4 f3 f2 f1 f0
theorem q_307_16 {q0 : Nat} {n0 n1 n2 : Int} {H0 : gH} (f0 : n0 = 1) (f1 : n1 = n0) (f2 : n2 = w32 (n1 + 1)) : 0 ≤ n2 := by
  unfold w32 at *
  try (have ix0 : n2 = n1 + 1 := (by omega); subst ix0)
  omega
def g_307_27_12 : vG := ([(10, [22, 10], [], 1), (40, [10, 12], [], 0), (0, [12], [], 1)], (90, [22], [], 0))
theorem c_307_27_12 {q0 : Nat} : vOkm T0 (eP e_307 L_307 A_307 mu_307 (some q0)) 4 g_307_27_12 := vOk_in fun ρ η h => by
  obtain ⟨f0, f1, f2, _⟩ := h
  exact q_307_16 (q0 := q0) (n0 := ρ 12) (n1 := ρ 10) (n2 := ρ 22) (H0 := η 0) f2 f1 f0
theorem q_307_17 {q0 : Nat} {n0 n1 n2 : Int} {H0 : gH} (f0 : n0 = 1) (f1 : n1 = n0) (f2 : n2 = w32 (n1 + 1)) : n2 ≤ 3 := by
  unfold w32 at *
  try (have ix0 : n2 = n1 + 1 := (by omega); subst ix0)
  omega
def g_307_27_13 : vG := ([(10, [22, 10], [], 1), (40, [10, 12], [], 0), (0, [12], [], 1)], (91, [22], [], 3))
theorem c_307_27_13 {q0 : Nat} : vOkm T0 (eP e_307 L_307 A_307 mu_307 (some q0)) 4 g_307_27_13 := vOk_in fun ρ η h => by
  obtain ⟨f0, f1, f2, _⟩ := h
  exact q_307_17 (q0 := q0) (n0 := ρ 12) (n1 := ρ 10) (n2 := ρ 22) (H0 := η 0) f2 f1 f0
theorem q_307_18 {q0 : Nat} {n0 n1 n2 n3 n4 n5 n6 n7 n8 n9 n10 n11 n12 n13 n14 n15 n16 n17 n18 n19 n20 : Int} {H0 H1 H2 H3 H4 H5 : gH} (f0 : n0 ≤ 3) (f1 : 0 ≤ n0) (f2 : n1 ≤ 1) (f3 : (-1) ≤ n1) (f4 : n2 ≤ 24) (f5 : 0 ≤ n2) (f6 : n3 ≤ 2147483647) (f7 : (-2147483648) ≤ n3) (f8 : n4 ≤ 19) (f9 : 0 ≤ n4) (f10 : n5 ≤ 19) (f11 : 0 ≤ n5) (f12 : n6 = 285) (f13 : n7 ≤ 2147483647) (f14 : (-2147483648) ≤ n7) (f15 : n8 ≤ 19) (f16 : 0 ≤ n8) (f17 : n9 ≤ 19) (f18 : 0 ≤ n9) (f19 : n10 = 285) (f20 : (hLe T0 H0 H1 ∧ hFr s_307.2.2.2.2 H0 H1 ∧ hWt T0 H1) ∧ (True ∧ True) ∧ some q0 = some (mub_307_27 n10 n9 n8 n7 n6 n5 n4 n3 n2 n1 n0 H0 H1)) (f21 : n11 = 3) (f22 : n0 < n11) (f23 : n0 ≠ 0) (f24 : n12 = 1) (f25 : n0 = n12) (f26 : n13 = 9) (f27 : n14 = w32 (n1 * n2)) (f28 : n15 ≤ 2147483647) (f29 : (-2147483648) ≤ n15) (f30 : (hLe T0 H1 H2 ∧ hFr s_306.2.2.2.2 H1 H2 ∧ ((0 : Int) = 0 → H2.length = H1.length) ∧ hWt T0 H2) ∧ True) (f31 : n16 = 100) (f32 : hUpd H3 H2 n6 n16 n15) (f33 : n17 = w32 (n1 * n2)) (f34 : n18 = 101) (f35 : hUpd H4 H3 n6 n18 n17) (f36 : n19 = 102) (f37 : hUpd H5 H4 n6 n19 n13) (f38 : n20 = w32 (n0 + 1)) : True ∧ ∀ q, some q0 = some q → mub_307_27 n10 n9 n8 n7 n6 n5 n4 n3 n2 n1 n20 H0 H5 < q := by
  have g5 := Option.some.inj f20.2.2
  unfold mub_307_27 at g5
  unfold mub_307_27
  clear f20 f30
  unfold w32 at *
  try (have ix0 : n20 = n0 + 1 := (by omega); subst ix0)
  refine ⟨?_, fun q hq => ?_⟩
  · trivial
  · have g6 := Option.some.inj hq
    subst g6
    omega
def g_307_27_14 : vG := ([(10, [22, 10], [], 1), (80, [4, 21, 13], [5, 4], 0), (0, [21], [], 102), (80, [4, 20, 19], [4, 3], 0), (0, [20], [], 101), (3, [19, 9, 8], [], 0), (80, [4, 18, 15], [3, 2], 0), (0, [18], [], 100), (1306, [15, 4, 5, 6, 7, 14, 13], [1, 2], 0), (90, [15], [], -2147483648), (91, [15], [], 2147483647), (3, [14, 9, 8], [], 0), (0, [13], [], 9), (40, [10, 12], [], 0), (0, [12], [], 1), (31, [10], [], 0), (42, [10, 11], [], 0), (0, [11], [], 3), (5000, [0, 1, 2, 3, 4, 5, 6, 7, 8, 9, 10], [0, 1], 27), (0, [0], [], 285), (90, [1], [], 0), (91, [1], [], 19), (90, [2], [], 0), (91, [2], [], 19), (90, [3], [], -2147483648), (91, [3], [], 2147483647), (0, [4], [], 285), (90, [5], [], 0), (91, [5], [], 19), (90, [6], [], 0), (91, [6], [], 19), (90, [7], [], -2147483648), (91, [7], [], 2147483647), (90, [8], [], 0), (91, [8], [], 24), (90, [9], [], -1), (91, [9], [], 1), (90, [10], [], 0), (91, [10], [], 3)], (4000, [4, 5, 6, 7, 8, 9, 22], [5], 27))
theorem c_307_27_14 {q0 : Nat} : vOkm T0 (eP e_307 L_307 A_307 mu_307 (some q0)) 4 g_307_27_14 := vOk_in fun ρ η h => by
  obtain ⟨f0, f1, f2, f3, f4, f5, f6, f7, f8, f9, f10, f11, f12, f13, f14, f15, f16, f17, f18, f19, f20, f21, f22, f23, f24, f25, f26, f27, f28, f29, f30, f31, f32, f33, f34, f35, f36, f37, f38, _⟩ := h
  exact q_307_18 (q0 := q0) (n0 := ρ 10) (n1 := ρ 9) (n2 := ρ 8) (n3 := ρ 7) (n4 := ρ 6) (n5 := ρ 5) (n6 := ρ 4) (n7 := ρ 3) (n8 := ρ 2) (n9 := ρ 1) (n10 := ρ 0) (n11 := ρ 11) (n12 := ρ 12) (n13 := ρ 13) (n14 := ρ 14) (n15 := ρ 15) (n16 := ρ 18) (n17 := ρ 19) (n18 := ρ 20) (n19 := ρ 21) (n20 := ρ 22) (H0 := η 0) (H1 := η 1) (H2 := η 2) (H3 := η 3) (H4 := η 4) (H5 := η 5) f38 f37 f36 f35 f34 f33 f32 f31 f30 f29 f28 f27 f26 f25 f24 f23 f22 f21 f20 f19 f18 f17 f16 f15 f14 f13 f12 f11 f10 f9 f8 f7 f6 f5 f4 f3 f2 f1 f0
def g_307_27_15 : vG := ([(10, [23, 10], [], 1), (40, [10, 12], [], 0), (0, [12], [], 1)], (90, [23], [], 0))
theorem c_307_27_15 {q0 : Nat} : vOkm T0 (eP e_307 L_307 A_307 mu_307 (some q0)) 4 g_307_27_15 := vOk_in fun ρ η h => by
  obtain ⟨f0, f1, f2, _⟩ := h
  exact q_307_16 (q0 := q0) (n0 := ρ 12) (n1 := ρ 10) (n2 := ρ 23) (H0 := η 0) f2 f1 f0
def g_307_27_16 : vG := ([(10, [23, 10], [], 1), (40, [10, 12], [], 0), (0, [12], [], 1)], (91, [23], [], 3))
theorem c_307_27_16 {q0 : Nat} : vOkm T0 (eP e_307 L_307 A_307 mu_307 (some q0)) 4 g_307_27_16 := vOk_in fun ρ η h => by
  obtain ⟨f0, f1, f2, _⟩ := h
  exact q_307_17 (q0 := q0) (n0 := ρ 12) (n1 := ρ 10) (n2 := ρ 23) (H0 := η 0) f2 f1 f0
theorem q_307_19 {q0 : Nat} {n0 n1 n2 n3 n4 n5 n6 n7 n8 n9 n10 n11 n12 n13 n14 n15 n16 n17 n18 n19 n20 n21 n22 n23 : Int} {H0 H1 H2 H3 H4 H5 : gH} (f0 : n0 ≤ 3) (f1 : 0 ≤ n0) (f2 : n1 ≤ 1) (f3 : (-1) ≤ n1) (f4 : n2 ≤ 24) (f5 : 0 ≤ n2) (f6 : n3 ≤ 2147483647) (f7 : (-2147483648) ≤ n3) (f8 : n4 ≤ 19) (f9 : 0 ≤ n4) (f10 : n5 ≤ 19) (f11 : 0 ≤ n5) (f12 : n6 = 285) (f13 : n7 ≤ 2147483647) (f14 : (-2147483648) ≤ n7) (f15 : n8 ≤ 19) (f16 : 0 ≤ n8) (f17 : n9 ≤ 19) (f18 : 0 ≤ n9) (f19 : n10 = 285) (f20 : (hLe T0 H0 H1 ∧ hFr s_307.2.2.2.2 H0 H1 ∧ hWt T0 H1) ∧ (True ∧ True) ∧ some q0 = some (mub_307_27 n10 n9 n8 n7 n6 n5 n4 n3 n2 n1 n0 H0 H1)) (f21 : n11 = 3) (f22 : n0 < n11) (f23 : n0 ≠ 0) (f24 : n12 = 1) (f25 : n0 = n12) (f26 : n13 = 9) (f27 : n14 = w32 (n1 * n2)) (f28 : n15 ≤ 2147483647) (f29 : (-2147483648) ≤ n15) (f30 : (hLe T0 H1 H2 ∧ hFr s_306.2.2.2.2 H1 H2 ∧ ((0 : Int) = 0 → H2.length = H1.length) ∧ hWt T0 H2) ∧ True) (f31 : n16 ≤ 2147483647) (f32 : (-2147483648) ≤ n16) (f33 : n16 = hV H2 (n6).toNat 100) (f34 : n17 = (-1)) (f35 : n16 ≠ n17) (f36 : n18 ≤ 2147483647) (f37 : (-2147483648) ≤ n18) (f38 : n18 = hV H2 (n6).toNat 100) (f39 : n15 < n18) (f40 : n19 = 100) (f41 : hUpd H3 H2 n6 n19 n15) (f42 : n20 = w32 (n1 * n2)) (f43 : n21 = 101) (f44 : hUpd H4 H3 n6 n21 n20) (f45 : n22 = 102) (f46 : hUpd H5 H4 n6 n22 n13) (f47 : n23 = w32 (n0 + 1)) : True ∧ ∀ q, some q0 = some q → mub_307_27 n10 n9 n8 n7 n6 n5 n4 n3 n2 n1 n23 H0 H5 < q := by
  have g5 := Option.some.inj f20.2.2
  unfold mub_307_27 at g5
  unfold mub_307_27
  have e0 : hV H2 285 100 = hV H1 285 100 := f30.1.2.1.1 285 100 (by decide +kernel)
  have e1 : n16 = hV H1 285 100 := (by rw [f12] at f33; exact f33 : n16 = hV H2 285 100).trans (e0)
  have e2 : n18 = hV H1 285 100 := (by rw [f12] at f38; exact f38 : n18 = hV H2 285 100).trans (e0)
  clear f33 f38 e0
  clear f20 f30
  subst e1
  subst e2
  unfold w32 at *
  try (have ix0 : n23 = n0 + 1 := (by omega); subst ix0)
  refine ⟨?_, fun q hq => ?_⟩
  · trivial
  · have g6 := Option.some.inj hq
    subst g6
    omega
def g_307_27_17 : vG := ([(10, [23, 10], [], 1), (80, [4, 22, 13], [5, 4], 0), (0, [22], [], 102), (80, [4, 21, 20], [4, 3], 0), (0, [21], [], 101), (3, [20, 9, 8], [], 0), (80, [4, 19, 15], [3, 2], 0), (0, [19], [], 100), (42, [15, 18], [], 0), (20, [18, 4], [2], 100), (90, [18], [], -2147483648), (91, [18], [], 2147483647), (41, [16, 17], [], 0), (0, [17], [], -1), (20, [16, 4], [2], 100), (90, [16], [], -2147483648), (91, [16], [], 2147483647), (1306, [15, 4, 5, 6, 7, 14, 13], [1, 2], 0), (90, [15], [], -2147483648), (91, [15], [], 2147483647), (3, [14, 9, 8], [], 0), (0, [13], [], 9), (40, [10, 12], [], 0), (0, [12], [], 1), (31, [10], [], 0), (42, [10, 11], [], 0), (0, [11], [], 3), (5000, [0, 1, 2, 3, 4, 5, 6, 7, 8, 9, 10], [0, 1], 27), (0, [0], [], 285), (90, [1], [], 0), (91, [1], [], 19), (90, [2], [], 0), (91, [2], [], 19), (90, [3], [], -2147483648), (91, [3], [], 2147483647), (0, [4], [], 285), (90, [5], [], 0), (91, [5], [], 19), (90, [6], [], 0), (91, [6], [], 19), (90, [7], [], -2147483648), (91, [7], [], 2147483647), (90, [8], [], 0), (91, [8], [], 24), (90, [9], [], -1), (91, [9], [], 1), (90, [10], [], 0), (91, [10], [], 3)], (4000, [4, 5, 6, 7, 8, 9, 23], [5], 27))
theorem c_307_27_17 {q0 : Nat} : vOkm T0 (eP e_307 L_307 A_307 mu_307 (some q0)) 4 g_307_27_17 := vOk_in fun ρ η h => by
  obtain ⟨f0, f1, f2, f3, f4, f5, f6, f7, f8, f9, f10, f11, f12, f13, f14, f15, f16, f17, f18, f19, f20, f21, f22, f23, f24, f25, f26, f27, f28, f29, f30, f31, f32, f33, f34, f35, f36, f37, f38, f39, f40, f41, f42, f43, f44, f45, f46, f47, _⟩ := h
  exact q_307_19 (q0 := q0) (n0 := ρ 10) (n1 := ρ 9) (n2 := ρ 8) (n3 := ρ 7) (n4 := ρ 6) (n5 := ρ 5) (n6 := ρ 4) (n7 := ρ 3) (n8 := ρ 2) (n9 := ρ 1) (n10 := ρ 0) (n11 := ρ 11) (n12 := ρ 12) (n13 := ρ 13) (n14 := ρ 14) (n15 := ρ 15) (n16 := ρ 16) (n17 := ρ 17) (n18 := ρ 18) (n19 := ρ 19) (n20 := ρ 20) (n21 := ρ 21) (n22 := ρ 22) (n23 := ρ 23) (H0 := η 0) (H1 := η 1) (H2 := η 2) (H3 := η 3) (H4 := η 4) (H5 := η 5) f47 f46 f45 f44 f43 f42 f41 f40 f39 f38 f37 f36 f35 f34 f33 f32 f31 f30 f29 f28 f27 f26 f25 f24 f23 f22 f21 f20 f19 f18 f17 f16 f15 f14 f13 f12 f11 f10 f9 f8 f7 f6 f5 f4 f3 f2 f1 f0
def g_307_27_18 : vG := ([(10, [19, 10], [], 1), (40, [10, 12], [], 0), (0, [12], [], 1)], (90, [19], [], 0))
theorem c_307_27_18 {q0 : Nat} : vOkm T0 (eP e_307 L_307 A_307 mu_307 (some q0)) 4 g_307_27_18 := vOk_in fun ρ η h => by
  obtain ⟨f0, f1, f2, _⟩ := h
  exact q_307_16 (q0 := q0) (n0 := ρ 12) (n1 := ρ 10) (n2 := ρ 19) (H0 := η 0) f2 f1 f0
def g_307_27_19 : vG := ([(10, [19, 10], [], 1), (40, [10, 12], [], 0), (0, [12], [], 1)], (91, [19], [], 3))
theorem c_307_27_19 {q0 : Nat} : vOkm T0 (eP e_307 L_307 A_307 mu_307 (some q0)) 4 g_307_27_19 := vOk_in fun ρ η h => by
  obtain ⟨f0, f1, f2, _⟩ := h
  exact q_307_17 (q0 := q0) (n0 := ρ 12) (n1 := ρ 10) (n2 := ρ 19) (H0 := η 0) f2 f1 f0
theorem q_307_20 {q0 : Nat} {n0 n1 n2 n3 n4 n5 n6 n7 n8 n9 n10 n11 n12 n13 n14 n15 n16 n17 n18 n19 : Int} {H0 H1 H2 : gH} (f0 : n0 ≤ 3) (f1 : 0 ≤ n0) (f2 : n1 ≤ 1) (f3 : (-1) ≤ n1) (f4 : n2 ≤ 24) (f5 : 0 ≤ n2) (f6 : n3 ≤ 2147483647) (f7 : (-2147483648) ≤ n3) (f8 : n4 ≤ 19) (f9 : 0 ≤ n4) (f10 : n5 ≤ 19) (f11 : 0 ≤ n5) (f12 : n6 = 285) (f13 : n7 ≤ 2147483647) (f14 : (-2147483648) ≤ n7) (f15 : n8 ≤ 19) (f16 : 0 ≤ n8) (f17 : n9 ≤ 19) (f18 : 0 ≤ n9) (f19 : n10 = 285) (f20 : (hLe T0 H0 H1 ∧ hFr s_307.2.2.2.2 H0 H1 ∧ hWt T0 H1) ∧ (True ∧ True) ∧ some q0 = some (mub_307_27 n10 n9 n8 n7 n6 n5 n4 n3 n2 n1 n0 H0 H1)) (f21 : n11 = 3) (f22 : n0 < n11) (f23 : n0 ≠ 0) (f24 : n12 = 1) (f25 : n0 = n12) (f26 : n13 = 9) (f27 : n14 = w32 (n1 * n2)) (f28 : n15 ≤ 2147483647) (f29 : (-2147483648) ≤ n15) (f30 : (hLe T0 H1 H2 ∧ hFr s_306.2.2.2.2 H1 H2 ∧ ((0 : Int) = 0 → H2.length = H1.length) ∧ hWt T0 H2) ∧ True) (f31 : n16 ≤ 2147483647) (f32 : (-2147483648) ≤ n16) (f33 : n16 = hV H2 (n6).toNat 100) (f34 : n17 = (-1)) (f35 : n16 ≠ n17) (f36 : n18 ≤ 2147483647) (f37 : (-2147483648) ≤ n18) (f38 : n18 = hV H2 (n6).toNat 100) (f39 : n18 ≤ n15) (f40 : n19 = w32 (n0 + 1)) : True ∧ ∀ q, some q0 = some q → mub_307_27 n10 n9 n8 n7 n6 n5 n4 n3 n2 n1 n19 H0 H2 < q := by
  have g5 := Option.some.inj f20.2.2
  unfold mub_307_27 at g5
  unfold mub_307_27
  have e0 : hV H2 285 100 = hV H1 285 100 := f30.1.2.1.1 285 100 (by decide +kernel)
  have e1 : n16 = hV H1 285 100 := (by rw [f12] at f33; exact f33 : n16 = hV H2 285 100).trans (e0)
  have e2 : n18 = hV H1 285 100 := (by rw [f12] at f38; exact f38 : n18 = hV H2 285 100).trans (e0)
  clear f33 f38 e0
  clear f20 f30
  subst e1
  subst e2
  unfold w32 at *
  try (have ix0 : n19 = n0 + 1 := (by omega); subst ix0)
  refine ⟨?_, fun q hq => ?_⟩
  · trivial
  · have g6 := Option.some.inj hq
    subst g6
    omega
def g_307_27_20 : vG := ([(10, [19, 10], [], 1), (43, [15, 18], [], 0), (20, [18, 4], [2], 100), (90, [18], [], -2147483648), (91, [18], [], 2147483647), (41, [16, 17], [], 0), (0, [17], [], -1), (20, [16, 4], [2], 100), (90, [16], [], -2147483648), (91, [16], [], 2147483647), (1306, [15, 4, 5, 6, 7, 14, 13], [1, 2], 0), (90, [15], [], -2147483648), (91, [15], [], 2147483647), (3, [14, 9, 8], [], 0), (0, [13], [], 9), (40, [10, 12], [], 0), (0, [12], [], 1), (31, [10], [], 0), (42, [10, 11], [], 0), (0, [11], [], 3), (5000, [0, 1, 2, 3, 4, 5, 6, 7, 8, 9, 10], [0, 1], 27), (0, [0], [], 285), (90, [1], [], 0), (91, [1], [], 19), (90, [2], [], 0), (91, [2], [], 19), (90, [3], [], -2147483648), (91, [3], [], 2147483647), (0, [4], [], 285), (90, [5], [], 0), (91, [5], [], 19), (90, [6], [], 0), (91, [6], [], 19), (90, [7], [], -2147483648), (91, [7], [], 2147483647), (90, [8], [], 0), (91, [8], [], 24), (90, [9], [], -1), (91, [9], [], 1), (90, [10], [], 0), (91, [10], [], 3)], (4000, [4, 5, 6, 7, 8, 9, 19], [2], 27))
theorem c_307_27_20 {q0 : Nat} : vOkm T0 (eP e_307 L_307 A_307 mu_307 (some q0)) 4 g_307_27_20 := vOk_in fun ρ η h => by
  obtain ⟨f0, f1, f2, f3, f4, f5, f6, f7, f8, f9, f10, f11, f12, f13, f14, f15, f16, f17, f18, f19, f20, f21, f22, f23, f24, f25, f26, f27, f28, f29, f30, f31, f32, f33, f34, f35, f36, f37, f38, f39, f40, _⟩ := h
  exact q_307_20 (q0 := q0) (n0 := ρ 10) (n1 := ρ 9) (n2 := ρ 8) (n3 := ρ 7) (n4 := ρ 6) (n5 := ρ 5) (n6 := ρ 4) (n7 := ρ 3) (n8 := ρ 2) (n9 := ρ 1) (n10 := ρ 0) (n11 := ρ 11) (n12 := ρ 12) (n13 := ρ 13) (n14 := ρ 14) (n15 := ρ 15) (n16 := ρ 16) (n17 := ρ 17) (n18 := ρ 18) (n19 := ρ 19) (H0 := η 0) (H1 := η 1) (H2 := η 2) f40 f39 f38 f37 f36 f35 f34 f33 f32 f31 f30 f29 f28 f27 f26 f25 f24 f23 f22 f21 f20 f19 f18 f17 f16 f15 f14 f13 f12 f11 f10 f9 f8 f7 f6 f5 f4 f3 f2 f1 f0
theorem q_307_21 {q0 : Nat} {n0 n1 : Int} {H0 : gH} (f0 : n0 = 0) (f1 : n1 = w32 (n0 + 1)) : 0 ≤ n1 := by
  unfold w32 at *
  try (have ix0 : n1 = n0 + 1 := (by omega); subst ix0)
  omega
def g_307_27_21 : vG := ([(10, [21, 10], [], 1), (30, [10], [], 0)], (90, [21], [], 0))
theorem c_307_27_21 {q0 : Nat} : vOkm T0 (eP e_307 L_307 A_307 mu_307 (some q0)) 4 g_307_27_21 := vOk_in fun ρ η h => by
  obtain ⟨f0, f1, _⟩ := h
  exact q_307_21 (q0 := q0) (n0 := ρ 10) (n1 := ρ 21) (H0 := η 0) f1 f0
theorem q_307_22 {q0 : Nat} {n0 n1 : Int} {H0 : gH} (f0 : n0 = 0) (f1 : n1 = w32 (n0 + 1)) : n1 ≤ 3 := by
  unfold w32 at *
  try (have ix0 : n1 = n0 + 1 := (by omega); subst ix0)
  omega
def g_307_27_22 : vG := ([(10, [21, 10], [], 1), (30, [10], [], 0)], (91, [21], [], 3))
theorem c_307_27_22 {q0 : Nat} : vOkm T0 (eP e_307 L_307 A_307 mu_307 (some q0)) 4 g_307_27_22 := vOk_in fun ρ η h => by
  obtain ⟨f0, f1, _⟩ := h
  exact q_307_22 (q0 := q0) (n0 := ρ 10) (n1 := ρ 21) (H0 := η 0) f1 f0
theorem q_307_23 {q0 : Nat} {n0 n1 n2 n3 n4 n5 n6 n7 n8 n9 n10 n11 n12 n13 n14 n15 n16 n17 n18 n19 : Int} {H0 H1 H2 H3 H4 H5 : gH} (f0 : n0 ≤ 3) (f1 : 0 ≤ n0) (f2 : n1 ≤ 1) (f3 : (-1) ≤ n1) (f4 : n2 ≤ 24) (f5 : 0 ≤ n2) (f6 : n3 ≤ 2147483647) (f7 : (-2147483648) ≤ n3) (f8 : n4 ≤ 19) (f9 : 0 ≤ n4) (f10 : n5 ≤ 19) (f11 : 0 ≤ n5) (f12 : n6 = 285) (f13 : n7 ≤ 2147483647) (f14 : (-2147483648) ≤ n7) (f15 : n8 ≤ 19) (f16 : 0 ≤ n8) (f17 : n9 ≤ 19) (f18 : 0 ≤ n9) (f19 : n10 = 285) (f20 : (hLe T0 H0 H1 ∧ hFr s_307.2.2.2.2 H0 H1 ∧ hWt T0 H1) ∧ (True ∧ True) ∧ some q0 = some (mub_307_27 n10 n9 n8 n7 n6 n5 n4 n3 n2 n1 n0 H0 H1)) (f21 : n11 = 3) (f22 : n0 < n11) (f23 : n0 = 0) (f24 : n12 = 10) (f25 : n13 = w32 (n1 * n2)) (f26 : n14 ≤ 2147483647) (f27 : (-2147483648) ≤ n14) (f28 : (hLe T0 H1 H2 ∧ hFr s_306.2.2.2.2 H1 H2 ∧ ((0 : Int) = 0 → H2.length = H1.length) ∧ hWt T0 H2) ∧ True) (f29 : n15 = 100) (f30 : hUpd H3 H2 n6 n15 n14) (f31 : n16 = w32 (n1 * n2)) (f32 : n17 = 101) (f33 : hUpd H4 H3 n6 n17 n16) (f34 : n18 = 102) (f35 : hUpd H5 H4 n6 n18 n12) (f36 : n19 = w32 (n0 + 1)) : True ∧ ∀ q, some q0 = some q → mub_307_27 n10 n9 n8 n7 n6 n5 n4 n3 n2 n1 n19 H0 H5 < q := by
  have g5 := Option.some.inj f20.2.2
  unfold mub_307_27 at g5
  unfold mub_307_27
  clear f20 f28
  unfold w32 at *
  try (have ix0 : n19 = n0 + 1 := (by omega); subst ix0)
  refine ⟨?_, fun q hq => ?_⟩
  · trivial
  · have g6 := Option.some.inj hq
    subst g6
    omega
def g_307_27_23 : vG := ([(10, [21, 10], [], 1), (80, [4, 20, 12], [5, 4], 0), (0, [20], [], 102), (80, [4, 19, 18], [4, 3], 0), (0, [19], [], 101), (3, [18, 9, 8], [], 0), (80, [4, 17, 14], [3, 2], 0), (0, [17], [], 100), (1306, [14, 4, 5, 6, 7, 13, 12], [1, 2], 0), (90, [14], [], -2147483648), (91, [14], [], 2147483647), (3, [13, 9, 8], [], 0), (0, [12], [], 10), (30, [10], [], 0), (42, [10, 11], [], 0), (0, [11], [], 3), (5000, [0, 1, 2, 3, 4, 5, 6, 7, 8, 9, 10], [0, 1], 27), (0, [0], [], 285), (90, [1], [], 0), (91, [1], [], 19), (90, [2], [], 0), (91, [2], [], 19), (90, [3], [], -2147483648), (91, [3], [], 2147483647), (0, [4], [], 285), (90, [5], [], 0), (91, [5], [], 19), (90, [6], [], 0), (91, [6], [], 19), (90, [7], [], -2147483648), (91, [7], [], 2147483647), (90, [8], [], 0), (91, [8], [], 24), (90, [9], [], -1), (91, [9], [], 1), (90, [10], [], 0), (91, [10], [], 3)], (4000, [4, 5, 6, 7, 8, 9, 21], [5], 27))
theorem c_307_27_23 {q0 : Nat} : vOkm T0 (eP e_307 L_307 A_307 mu_307 (some q0)) 4 g_307_27_23 := vOk_in fun ρ η h => by
  obtain ⟨f0, f1, f2, f3, f4, f5, f6, f7, f8, f9, f10, f11, f12, f13, f14, f15, f16, f17, f18, f19, f20, f21, f22, f23, f24, f25, f26, f27, f28, f29, f30, f31, f32, f33, f34, f35, f36, _⟩ := h
  exact q_307_23 (q0 := q0) (n0 := ρ 10) (n1 := ρ 9) (n2 := ρ 8) (n3 := ρ 7) (n4 := ρ 6) (n5 := ρ 5) (n6 := ρ 4) (n7 := ρ 3) (n8 := ρ 2) (n9 := ρ 1) (n10 := ρ 0) (n11 := ρ 11) (n12 := ρ 12) (n13 := ρ 13) (n14 := ρ 14) (n15 := ρ 17) (n16 := ρ 18) (n17 := ρ 19) (n18 := ρ 20) (n19 := ρ 21) (H0 := η 0) (H1 := η 1) (H2 := η 2) (H3 := η 3) (H4 := η 4) (H5 := η 5) f36 f35 f34 f33 f32 f31 f30 f29 f28 f27 f26 f25 f24 f23 f22 f21 f20 f19 f18 f17 f16 f15 f14 f13 f12 f11 f10 f9 f8 f7 f6 f5 f4 f3 f2 f1 f0
def g_307_27_24 : vG := ([(10, [22, 10], [], 1), (30, [10], [], 0)], (90, [22], [], 0))
theorem c_307_27_24 {q0 : Nat} : vOkm T0 (eP e_307 L_307 A_307 mu_307 (some q0)) 4 g_307_27_24 := vOk_in fun ρ η h => by
  obtain ⟨f0, f1, _⟩ := h
  exact q_307_21 (q0 := q0) (n0 := ρ 10) (n1 := ρ 22) (H0 := η 0) f1 f0
def g_307_27_25 : vG := ([(10, [22, 10], [], 1), (30, [10], [], 0)], (91, [22], [], 3))
theorem c_307_27_25 {q0 : Nat} : vOkm T0 (eP e_307 L_307 A_307 mu_307 (some q0)) 4 g_307_27_25 := vOk_in fun ρ η h => by
  obtain ⟨f0, f1, _⟩ := h
  exact q_307_22 (q0 := q0) (n0 := ρ 10) (n1 := ρ 22) (H0 := η 0) f1 f0
theorem q_307_24 {q0 : Nat} {n0 n1 n2 n3 n4 n5 n6 n7 n8 n9 n10 n11 n12 n13 n14 n15 n16 n17 n18 n19 n20 n21 n22 : Int} {H0 H1 H2 H3 H4 H5 : gH} (f0 : n0 ≤ 3) (f1 : 0 ≤ n0) (f2 : n1 ≤ 1) (f3 : (-1) ≤ n1) (f4 : n2 ≤ 24) (f5 : 0 ≤ n2) (f6 : n3 ≤ 2147483647) (f7 : (-2147483648) ≤ n3) (f8 : n4 ≤ 19) (f9 : 0 ≤ n4) (f10 : n5 ≤ 19) (f11 : 0 ≤ n5) (f12 : n6 = 285) (f13 : n7 ≤ 2147483647) (f14 : (-2147483648) ≤ n7) (f15 : n8 ≤ 19) (f16 : 0 ≤ n8) (f17 : n9 ≤ 19) (f18 : 0 ≤ n9) (f19 : n10 = 285) (f20 : (hLe T0 H0 H1 ∧ hFr s_307.2.2.2.2 H0 H1 ∧ hWt T0 H1) ∧ (True ∧ True) ∧ some q0 = some (mub_307_27 n10 n9 n8 n7 n6 n5 n4 n3 n2 n1 n0 H0 H1)) (f21 : n11 = 3) (f22 : n0 < n11) (f23 : n0 = 0) (f24 : n12 = 10) (f25 : n13 = w32 (n1 * n2)) (f26 : n14 ≤ 2147483647) (f27 : (-2147483648) ≤ n14) (f28 : (hLe T0 H1 H2 ∧ hFr s_306.2.2.2.2 H1 H2 ∧ ((0 : Int) = 0 → H2.length = H1.length) ∧ hWt T0 H2) ∧ True) (f29 : n15 ≤ 2147483647) (f30 : (-2147483648) ≤ n15) (f31 : n15 = hV H2 (n6).toNat 100) (f32 : n16 = (-1)) (f33 : n15 ≠ n16) (f34 : n17 ≤ 2147483647) (f35 : (-2147483648) ≤ n17) (f36 : n17 = hV H2 (n6).toNat 100) (f37 : n14 < n17) (f38 : n18 = 100) (f39 : hUpd H3 H2 n6 n18 n14) (f40 : n19 = w32 (n1 * n2)) (f41 : n20 = 101) (f42 : hUpd H4 H3 n6 n20 n19) (f43 : n21 = 102) (f44 : hUpd H5 H4 n6 n21 n12) (f45 : n22 = w32 (n0 + 1)) : True ∧ ∀ q, some q0 = some q → mub_307_27 n10 n9 n8 n7 n6 n5 n4 n3 n2 n1 n22 H0 H5 < q := by
  have g5 := Option.some.inj f20.2.2
  unfold mub_307_27 at g5
  unfold mub_307_27
  have e0 : hV H2 285 100 = hV H1 285 100 := f28.1.2.1.1 285 100 (by decide +kernel)
  have e1 : n15 = hV H1 285 100 := (by rw [f12] at f31; exact f31 : n15 = hV H2 285 100).trans (e0)
  have e2 : n17 = hV H1 285 100 := (by rw [f12] at f36; exact f36 : n17 = hV H2 285 100).trans (e0)
  clear f31 f36 e0
  clear f20 f28
  subst e1
  subst e2
  unfold w32 at *
  try (have ix0 : n22 = n0 + 1 := (by omega); subst ix0)
  refine ⟨?_, fun q hq => ?_⟩
  · trivial
  · have g6 := Option.some.inj hq
    subst g6
    omega
def g_307_27_26 : vG := ([(10, [22, 10], [], 1), (80, [4, 21, 12], [5, 4], 0), (0, [21], [], 102), (80, [4, 20, 19], [4, 3], 0), (0, [20], [], 101), (3, [19, 9, 8], [], 0), (80, [4, 18, 14], [3, 2], 0), (0, [18], [], 100), (42, [14, 17], [], 0), (20, [17, 4], [2], 100), (90, [17], [], -2147483648), (91, [17], [], 2147483647), (41, [15, 16], [], 0), (0, [16], [], -1), (20, [15, 4], [2], 100), (90, [15], [], -2147483648), (91, [15], [], 2147483647), (1306, [14, 4, 5, 6, 7, 13, 12], [1, 2], 0), (90, [14], [], -2147483648), (91, [14], [], 2147483647), (3, [13, 9, 8], [], 0), (0, [12], [], 10), (30, [10], [], 0), (42, [10, 11], [], 0), (0, [11], [], 3), (5000, [0, 1, 2, 3, 4, 5, 6, 7, 8, 9, 10], [0, 1], 27), (0, [0], [], 285), (90, [1], [], 0), (91, [1], [], 19), (90, [2], [], 0), (91, [2], [], 19), (90, [3], [], -2147483648), (91, [3], [], 2147483647), (0, [4], [], 285), (90, [5], [], 0), (91, [5], [], 19), (90, [6], [], 0), (91, [6], [], 19), (90, [7], [], -2147483648), (91, [7], [], 2147483647), (90, [8], [], 0), (91, [8], [], 24), (90, [9], [], -1), (91, [9], [], 1), (90, [10], [], 0), (91, [10], [], 3)], (4000, [4, 5, 6, 7, 8, 9, 22], [5], 27))
theorem c_307_27_26 {q0 : Nat} : vOkm T0 (eP e_307 L_307 A_307 mu_307 (some q0)) 4 g_307_27_26 := vOk_in fun ρ η h => by
  obtain ⟨f0, f1, f2, f3, f4, f5, f6, f7, f8, f9, f10, f11, f12, f13, f14, f15, f16, f17, f18, f19, f20, f21, f22, f23, f24, f25, f26, f27, f28, f29, f30, f31, f32, f33, f34, f35, f36, f37, f38, f39, f40, f41, f42, f43, f44, f45, _⟩ := h
  exact q_307_24 (q0 := q0) (n0 := ρ 10) (n1 := ρ 9) (n2 := ρ 8) (n3 := ρ 7) (n4 := ρ 6) (n5 := ρ 5) (n6 := ρ 4) (n7 := ρ 3) (n8 := ρ 2) (n9 := ρ 1) (n10 := ρ 0) (n11 := ρ 11) (n12 := ρ 12) (n13 := ρ 13) (n14 := ρ 14) (n15 := ρ 15) (n16 := ρ 16) (n17 := ρ 17) (n18 := ρ 18) (n19 := ρ 19) (n20 := ρ 20) (n21 := ρ 21) (n22 := ρ 22) (H0 := η 0) (H1 := η 1) (H2 := η 2) (H3 := η 3) (H4 := η 4) (H5 := η 5) f45 f44 f43 f42 f41 f40 f39 f38 f37 f36 f35 f34 f33 f32 f31 f30 f29 f28 f27 f26 f25 f24 f23 f22 f21 f20 f19 f18 f17 f16 f15 f14 f13 f12 f11 f10 f9 f8 f7 f6 f5 f4 f3 f2 f1 f0
def g_307_27_27 : vG := ([(10, [18, 10], [], 1), (30, [10], [], 0)], (90, [18], [], 0))
theorem c_307_27_27 {q0 : Nat} : vOkm T0 (eP e_307 L_307 A_307 mu_307 (some q0)) 4 g_307_27_27 := vOk_in fun ρ η h => by
  obtain ⟨f0, f1, _⟩ := h
  exact q_307_21 (q0 := q0) (n0 := ρ 10) (n1 := ρ 18) (H0 := η 0) f1 f0
def g_307_27_28 : vG := ([(10, [18, 10], [], 1), (30, [10], [], 0)], (91, [18], [], 3))
theorem c_307_27_28 {q0 : Nat} : vOkm T0 (eP e_307 L_307 A_307 mu_307 (some q0)) 4 g_307_27_28 := vOk_in fun ρ η h => by
  obtain ⟨f0, f1, _⟩ := h
  exact q_307_22 (q0 := q0) (n0 := ρ 10) (n1 := ρ 18) (H0 := η 0) f1 f0
theorem q_307_25 {q0 : Nat} {n0 n1 n2 n3 n4 n5 n6 n7 n8 n9 n10 n11 n12 n13 n14 n15 n16 n17 n18 : Int} {H0 H1 H2 : gH} (f0 : n0 ≤ 3) (f1 : 0 ≤ n0) (f2 : n1 ≤ 1) (f3 : (-1) ≤ n1) (f4 : n2 ≤ 24) (f5 : 0 ≤ n2) (f6 : n3 ≤ 2147483647) (f7 : (-2147483648) ≤ n3) (f8 : n4 ≤ 19) (f9 : 0 ≤ n4) (f10 : n5 ≤ 19) (f11 : 0 ≤ n5) (f12 : n6 = 285) (f13 : n7 ≤ 2147483647) (f14 : (-2147483648) ≤ n7) (f15 : n8 ≤ 19) (f16 : 0 ≤ n8) (f17 : n9 ≤ 19) (f18 : 0 ≤ n9) (f19 : n10 = 285) (f20 : (hLe T0 H0 H1 ∧ hFr s_307.2.2.2.2 H0 H1 ∧ hWt T0 H1) ∧ (True ∧ True) ∧ some q0 = some (mub_307_27 n10 n9 n8 n7 n6 n5 n4 n3 n2 n1 n0 H0 H1)) (f21 : n11 = 3) (f22 : n0 < n11) (f23 : n0 = 0) (f24 : n12 = 10) (f25 : n13 = w32 (n1 * n2)) (f26 : n14 ≤ 2147483647) (f27 : (-2147483648) ≤ n14) (f28 : (hLe T0 H1 H2 ∧ hFr s_306.2.2.2.2 H1 H2 ∧ ((0 : Int) = 0 → H2.length = H1.length) ∧ hWt T0 H2) ∧ True) (f29 : n15 ≤ 2147483647) (f30 : (-2147483648) ≤ n15) (f31 : n15 = hV H2 (n6).toNat 100) (f32 : n16 = (-1)) (f33 : n15 ≠ n16) (f34 : n17 ≤ 2147483647) (f35 : (-2147483648) ≤ n17) (f36 : n17 = hV H2 (n6).toNat 100) (f37 : n17 ≤ n14) (f38 : n18 = w32 (n0 + 1)) : True ∧ ∀ q, some q0 = some q → mub_307_27 n10 n9 n8 n7 n6 n5 n4 n3 n2 n1 n18 H0 H2 < q := by
  have g5 := Option.some.inj f20.2.2
  unfold mub_307_27 at g5
  unfold mub_307_27
  have e0 : hV H2 285 100 = hV H1 285 100 := f28.1.2.1.1 285 100 (by decide +kernel)
  have e1 : n15 = hV H1 285 100 := (by rw [f12] at f31; exact f31 : n15 = hV H2 285 100).trans (e0)
  have e2 : n17 = hV H1 285 100 := (by rw [f12] at f36; exact f36 : n17 = hV H2 285 100).trans (e0)
  clear f31 f36 e0
  clear f20 f28
  subst e1
  subst e2
  unfold w32 at *
  try (have ix0 : n18 = n0 + 1 := (by omega); subst ix0)
  refine ⟨?_, fun q hq => ?_⟩
  · trivial
  · have g6 := Option.some.inj hq
    subst g6
    omega
def g_307_27_29 : vG := ([(10, [18, 10], [], 1), (43, [14, 17], [], 0), (20, [17, 4], [2], 100), (90, [17], [], -2147483648), (91, [17], [], 2147483647), (41, [15, 16], [], 0), (0, [16], [], -1), (20, [15, 4], [2], 100), (90, [15], [], -2147483648), (91, [15], [], 2147483647), (1306, [14, 4, 5, 6, 7, 13, 12], [1, 2], 0), (90, [14], [], -2147483648), (91, [14], [], 2147483647), (3, [13, 9, 8], [], 0), (0, [12], [], 10), (30, [10], [], 0), (42, [10, 11], [], 0), (0, [11], [], 3), (5000, [0, 1, 2, 3, 4, 5, 6, 7, 8, 9, 10], [0, 1], 27), (0, [0], [], 285), (90, [1], [], 0), (91, [1], [], 19), (90, [2], [], 0), (91, [2], [], 19), (90, [3], [], -2147483648), (91, [3], [], 2147483647), (0, [4], [], 285), (90, [5], [], 0), (91, [5], [], 19), (90, [6], [], 0), (91, [6], [], 19), (90, [7], [], -2147483648), (91, [7], [], 2147483647), (90, [8], [], 0), (91, [8], [], 24), (90, [9], [], -1), (91, [9], [], 1), (90, [10], [], 0), (91, [10], [], 3)], (4000, [4, 5, 6, 7, 8, 9, 18], [2], 27))
theorem c_307_27_29 {q0 : Nat} : vOkm T0 (eP e_307 L_307 A_307 mu_307 (some q0)) 4 g_307_27_29 := vOk_in fun ρ η h => by
  obtain ⟨f0, f1, f2, f3, f4, f5, f6, f7, f8, f9, f10, f11, f12, f13, f14, f15, f16, f17, f18, f19, f20, f21, f22, f23, f24, f25, f26, f27, f28, f29, f30, f31, f32, f33, f34, f35, f36, f37, f38, _⟩ := h
  exact q_307_25 (q0 := q0) (n0 := ρ 10) (n1 := ρ 9) (n2 := ρ 8) (n3 := ρ 7) (n4 := ρ 6) (n5 := ρ 5) (n6 := ρ 4) (n7 := ρ 3) (n8 := ρ 2) (n9 := ρ 1) (n10 := ρ 0) (n11 := ρ 11) (n12 := ρ 12) (n13 := ρ 13) (n14 := ρ 14) (n15 := ρ 15) (n16 := ρ 16) (n17 := ρ 17) (n18 := ρ 18) (H0 := η 0) (H1 := η 1) (H2 := η 2) f38 f37 f36 f35 f34 f33 f32 f31 f30 f29 f28 f27 f26 f25 f24 f23 f22 f21 f20 f19 f18 f17 f16 f15 f14 f13 f12 f11 f10 f9 f8 f7 f6 f5 f4 f3 f2 f1 f0
def p_307_27 : List vG := [g_307_27_0,
  g_307_27_1,
  g_307_27_2,
  g_307_27_3,
  g_307_27_4,
  g_307_27_5,
  g_307_27_6,
  g_307_27_7,
  g_307_27_8,
  g_307_27_9,
  g_307_27_10,
  g_307_27_11,
  g_307_27_12,
  g_307_27_13,
  g_307_27_14,
  g_307_27_15,
  g_307_27_16,
  g_307_27_17,
  g_307_27_18,
  g_307_27_19,
  g_307_27_20,
  g_307_27_21,
  g_307_27_22,
  g_307_27_23,
  g_307_27_24,
  g_307_27_25,
  g_307_27_26,
  g_307_27_27,
  g_307_27_28,
  g_307_27_29]
theorem r_307_27 : vCovO true (eRc e_307 L_307 cs_307 2000 (27, [(0, (3, 12, 285, 0)), (1, (0, 0, 19, 0)), (2, (0, 0, 19, 0)), (3, (0, -2147483648, 2147483647, 0)), (4, (0, 0, 24, 0)), (5, (0, -1, 1, 0)), (6, (0, 0, 3, 0))])) p_307_27 = true := by decide +kernel
theorem m_307 (d : Nat) : eC e_307 (d + 2) := eC_ok (e := e_307) (L := L_307) (cs := cs_307) (n := 2000) (d := d + 1) (A := A_307) (μ := mu_307) (tp := true) (p0 := p_307_s) rfl ⟨m_306 d, trivial⟩ rfl (.inr pre0_ok) (by decide +kernel) (fun _ => post0_ok) r_307_s (allC c_307_s_0 allN) (allC (.inl ⟨p_307_8, r_307_8, fun q0 => (allC c_307_8_0 (allC c_307_8_1 allN))⟩) (allC (.inl ⟨p_307_18, r_307_18, fun q0 => (allC c_307_18_0 (allC c_307_18_1 (allC c_307_18_2 (allC c_307_18_3 (allC c_307_18_4 allN)))))⟩) (allC (.inl ⟨p_307_27, r_307_27, fun q0 => (allC c_307_27_0 (allC c_307_27_1 (allC c_307_27_2 (allC c_307_27_3 (allC c_307_27_4 (allC c_307_27_5 (allC c_307_27_6 (allC c_307_27_7 (allC c_307_27_8 (allC c_307_27_9 (allC c_307_27_10 (allC c_307_27_11 (allC c_307_27_12 (allC c_307_27_13 (allC c_307_27_14 (allC c_307_27_15 (allC c_307_27_16 (allC c_307_27_17 (allC c_307_27_18 (allC c_307_27_19 (allC c_307_27_20 (allC c_307_27_21 (allC c_307_27_22 (allC c_307_27_23 (allC c_307_27_24 (allC c_307_27_25 (allC c_307_27_26 (allC c_307_27_27 (allC c_307_27_28 (allC c_307_27_29 allN))))))))))))))))))))))))))))))⟩) allN)))
/- MixStageModel.isLine (I)Z -/
noncomputable def s_308 : vM := ([(3, 12, 285, 0), (0, -2147483648, 2147483647, 0)], (0, 0, 1, 0), 0, 0, [])
def postb_308 (r a0 a1 : Int) (h0 h : gH) : Prop := r ≠ 0 → 0 ≤ a1 ∧ a1 < hV h 285 64
def post_308 : List Int → gH → gH → Prop := fun xs h0 h => match xs with
  | [r, a0, a1] => postb_308 r a0 a1 h0 h
  | _ => True
noncomputable def e_308 : vE := (308, s_308, pre0, post_308)
noncomputable def L_308 : List vE := [e_250]
def cs_308 : List vC := []
def A_308 : Int → List Int → gH → gH → Prop := fun c xs h0 h => True
def mu_308 : Int → List Int → gH → gH → Nat := fun c xs h0 h => 0
theorem q_308_0 {n0 n1 n2 : Int} {H0 H1 : gH} (f0 : n0 = 0) : postb_308 n0 n1 n2 H0 H1 := by
  unfold postb_308
  first | assumption | omega | trivial
def g_308_s_0 : vG := ([(0, [3], [], 0)], (3000, [3], [1], 23))
theorem c_308_s_0 : vOkm T0 (eP e_308 L_308 A_308 mu_308 none) 2 g_308_s_0 := vOk_in fun ρ η h => by
  obtain ⟨f0, _⟩ := h
  exact q_308_0 (n0 := ρ 3) (n1 := ρ 0) (n2 := ρ 1) (H0 := η 0) (H1 := η 1) f0
theorem q_308_1 {n0 n1 n2 : Int} {H0 H1 : gH} (f0 : n0 = 285) (f1 : hWt T0 H0 ∧ True) (f2 : 0 ≤ n2) (f3 : (hLe T0 H0 H1 ∧ hFr s_250.2.2.2.2 H0 H1 ∧ ((0 : Int) = 0 → H1.length = H0.length) ∧ hWt T0 H1) ∧ postb_250 n2 n0 n1 H0 H1) (f4 : n2 ≠ 0) : 0 ≤ n1 ∧ n1 < 20 := by
  unfold postb_250 at f3
  have e0 : hV H1 285 64 = hV H0 285 64 := f3.1.2.1.1 285 64 (by decide +kernel)
  have e1 : hV H1 285 64 = hV H0 285 64 := e0
  have e2 : (0 : Int) ≤ hV H1 285 64 ∧ hV H1 285 64 ≤ 20 := f3.1.2.2.2 285 64 _ _ (by decide +kernel)
  have e3 : (0 : Int) ≤ hV H0 285 64 ∧ hV H0 285 64 ≤ 20 := f1.1 285 64 _ _ (by decide +kernel)
  try simp only [e1] at e2
  try simp only [e1]
  have r0_0 := f3.2
  try simp only [e1] at r0_0
  clear e0 e1
  clear f1 f3
  omega
def g_308_s_1 : vG := ([(31, [2], [], 0), (1250, [2, 0, 1], [0, 1], 0), (90, [2], [], 0), (6000, [0, 1], [0], 0), (0, [0], [], 285)], (70, [1], [], 20))
theorem c_308_s_1 : vOkm T0 (eP e_308 L_308 A_308 mu_308 none) 2 g_308_s_1 := vOk_in fun ρ η h => by
  obtain ⟨f0, f1, f2, f3, f4, _⟩ := h
  exact q_308_1 (n0 := ρ 0) (n1 := ρ 1) (n2 := ρ 2) (H0 := η 0) (H1 := η 1) f4 f3 f2 f1 f0
def g_308_s_2 : vG := ([(0, [6], [], 0)], (3000, [6], [1], 23))
theorem c_308_s_2 : vOkm T0 (eP e_308 L_308 A_308 mu_308 none) 2 g_308_s_2 := vOk_in fun ρ η h => by
  obtain ⟨f0, _⟩ := h
  exact q_308_0 (n0 := ρ 6) (n1 := ρ 0) (n2 := ρ 1) (H0 := η 0) (H1 := η 1) f0
theorem q_308_2 {n0 n1 n2 n3 : Int} {H0 H1 : gH} (f0 : n0 = 285) (f1 : 0 ≤ n1) (f2 : (hLe T0 H0 H1 ∧ hFr s_250.2.2.2.2 H0 H1 ∧ ((0 : Int) = 0 → H1.length = H0.length) ∧ hWt T0 H1) ∧ postb_250 n1 n0 n2 H0 H1) (f3 : n1 ≠ 0) (f4 : n3 = 1) : postb_308 n3 n0 n2 H0 H1 := by
  unfold postb_250 at f2
  unfold postb_308
  have e0 : hV H1 285 64 = hV H0 285 64 := f2.1.2.1.1 285 64 (by decide +kernel)
  have e1 : hV H1 285 64 = hV H0 285 64 := e0
  have e2 : (0 : Int) ≤ hV H1 285 64 ∧ hV H1 285 64 ≤ 20 := f2.1.2.2.2 285 64 _ _ (by decide +kernel)
  try simp only [e1] at e2
  try simp only [e1]
  have r0_0 := f2.2
  try simp only [e1] at r0_0
  clear e0 e1
  clear f2
  first | assumption | omega | trivial
def g_308_s_3 : vG := ([(0, [6], [], 1), (31, [2], [], 0), (1250, [2, 0, 1], [0, 1], 0), (90, [2], [], 0), (0, [0], [], 285)], (3000, [6], [1], 23))
theorem c_308_s_3 : vOkm T0 (eP e_308 L_308 A_308 mu_308 none) 2 g_308_s_3 := vOk_in fun ρ η h => by
  obtain ⟨f0, f1, f2, f3, f4, _⟩ := h
  exact q_308_2 (n0 := ρ 0) (n1 := ρ 2) (n2 := ρ 1) (n3 := ρ 6) (H0 := η 0) (H1 := η 1) f4 f3 f2 f1 f0
def p_308_s : List vG := [g_308_s_0,
  g_308_s_1,
  g_308_s_2,
  g_308_s_3]
theorem r_308_s : vCovO false (eR0 e_308 L_308 cs_308 2000) p_308_s = true := by decide +kernel
theorem m_308 (d : Nat) : eC e_308 (d + 2) := eC_ok (e := e_308) (L := L_308) (cs := cs_308) (n := 2000) (d := d + 1) (A := A_308) (μ := mu_308) (tp := false) (p0 := p_308_s) rfl ⟨m_250 d, trivial⟩ rfl (.inr pre0_ok) (by decide +kernel) (fun z => nomatch z) r_308_s (allC c_308_s_0 (allC c_308_s_1 (allC c_308_s_2 (allC c_308_s_3 allN)))) allN
/- MixStageModel.fit (IIII)I -/
noncomputable def s_309 : vM := ([(3, 12, 285, 0), (0, -2147483648, 2147483647, 0), (0, -2147483648, 2147483647, 0), (0, -2147483648, 2147483647, 0), (0, -2147483648, 2147483647, 0)], (0, -2147483648, 2147483647, 0), 0, 0, [(12, 100), (12, 101), (12, 102)])
noncomputable def e_309 : vE := (309, s_309, pre0, post0)
noncomputable def L_309 : List vE := [e_251, e_307, e_308]
def cs_309 : List vC := []
def A_309 : Int → List Int → gH → gH → Prop := fun c xs h0 h => True
def mu_309 : Int → List Int → gH → gH → Nat := fun c xs h0 h => 0
theorem q_309_0 {n0 n1 n2 : Int} {H0 H1 : gH} (f0 : n0 = 285) (f1 : (hLe T0 H0 H1 ∧ hFr s_308.2.2.2.2 H0 H1 ∧ ((0 : Int) = 0 → H1.length = H0.length) ∧ hWt T0 H1) ∧ postb_308 n1 n0 n2 H0 H1) (f2 : n1 ≠ 0) : 0 ≤ n2 := by
  unfold postb_308 at f1
  have e0 : hV H1 285 64 = hV H0 285 64 := f1.1.2.1.1 285 64 (by decide +kernel)
  have e1 : hV H1 285 64 = hV H0 285 64 := e0
  have e2 : (0 : Int) ≤ hV H1 285 64 ∧ hV H1 285 64 ≤ 20 := f1.1.2.2.2 285 64 _ _ (by decide +kernel)
  try simp only [e1] at e2
  try simp only [e1]
  have r0_0 := f1.2
  try simp only [e1] at r0_0
  clear e0 e1
  clear f1
  omega
def g_309_s_0 : vG := ([(31, [5], [], 0), (1308, [5, 0, 1], [0, 1], 0), (0, [0], [], 285)], (90, [1], [], 0))
theorem c_309_s_0 : vOkm T0 (eP e_309 L_309 A_309 mu_309 none) 5 g_309_s_0 := vOk_in fun ρ η h => by
  obtain ⟨f0, f1, f2, _⟩ := h
  exact q_309_0 (n0 := ρ 0) (n1 := ρ 5) (n2 := ρ 1) (H0 := η 0) (H1 := η 1) f2 f1 f0
theorem q_309_1 {n0 n1 n2 n3 n4 n5 : Int} {H0 H1 : gH} (f0 : n0 = 285) (f1 : hWt T0 H0 ∧ True) (f2 : (hLe T0 H0 H1 ∧ hFr s_308.2.2.2.2 H0 H1 ∧ ((0 : Int) = 0 → H1.length = H0.length) ∧ hWt T0 H1) ∧ postb_308 n5 n0 n1 H0 H1) (f3 : n5 ≠ 0) : n1 ≤ 19 := by
  unfold postb_308 at f2
  have e0 : hV H1 285 64 = hV H0 285 64 := f2.1.2.1.1 285 64 (by decide +kernel)
  have e1 : hV H1 285 64 = hV H0 285 64 := e0
  have e2 : (0 : Int) ≤ hV H1 285 64 ∧ hV H1 285 64 ≤ 20 := f2.1.2.2.2 285 64 _ _ (by decide +kernel)
  have e3 : (0 : Int) ≤ hV H0 285 64 ∧ hV H0 285 64 ≤ 20 := f1.1 285 64 _ _ (by decide +kernel)
  try simp only [e1] at e2
  try simp only [e1]
  have r0_0 := f2.2
  try simp only [e1] at r0_0
  clear e0 e1
  clear f1 f2
  omega
def g_309_s_1 : vG := ([(31, [5], [], 0), (1308, [5, 0, 1], [0, 1], 0), (6000, [0, 1, 2, 3, 4], [0], 0), (0, [0], [], 285)], (91, [1], [], 19))
theorem c_309_s_1 : vOkm T0 (eP e_309 L_309 A_309 mu_309 none) 5 g_309_s_1 := vOk_in fun ρ η h => by
  obtain ⟨f0, f1, f2, f3, _⟩ := h
  exact q_309_1 (n0 := ρ 0) (n1 := ρ 1) (n2 := ρ 2) (n3 := ρ 3) (n4 := ρ 4) (n5 := ρ 5) (H0 := η 0) (H1 := η 1) f3 f2 f1 f0
theorem q_309_2 {n0 n1 n2 : Int} {H0 H1 H2 : gH} (f0 : n0 = 285) (f1 : (hLe T0 H1 H2 ∧ hFr s_308.2.2.2.2 H1 H2 ∧ ((0 : Int) = 0 → H2.length = H1.length) ∧ hWt T0 H2) ∧ postb_308 n1 n0 n2 H1 H2) (f2 : n1 ≠ 0) : 0 ≤ n2 := by
  unfold postb_308 at f1
  have e0 : hV H2 285 64 = hV H1 285 64 := f1.1.2.1.1 285 64 (by decide +kernel)
  have e1 : hV H2 285 64 = hV H1 285 64 := e0
  have e2 : (0 : Int) ≤ hV H2 285 64 ∧ hV H2 285 64 ≤ 20 := f1.1.2.2.2 285 64 _ _ (by decide +kernel)
  try simp only [e1] at e2
  try simp only [e1]
  have r0_0 := f1.2
  try simp only [e1] at r0_0
  clear e0 e1
  clear f1
  omega
def g_309_s_2 : vG := ([(31, [6], [], 0), (1308, [6, 0, 2], [1, 2], 0), (0, [0], [], 285)], (90, [2], [], 0))
theorem c_309_s_2 : vOkm T0 (eP e_309 L_309 A_309 mu_309 none) 5 g_309_s_2 := vOk_in fun ρ η h => by
  obtain ⟨f0, f1, f2, _⟩ := h
  exact q_309_2 (n0 := ρ 0) (n1 := ρ 6) (n2 := ρ 2) (H0 := η 0) (H1 := η 1) (H2 := η 2) f2 f1 f0
theorem q_309_3 {n0 n1 n2 n3 n4 n5 : Int} {H0 H1 H2 : gH} (f0 : n0 = 285) (f1 : hWt T0 H0 ∧ True) (f2 : (hLe T0 H1 H2 ∧ hFr s_308.2.2.2.2 H1 H2 ∧ ((0 : Int) = 0 → H2.length = H1.length) ∧ hWt T0 H2) ∧ postb_308 n5 n0 n2 H1 H2) (f3 : n5 ≠ 0) : n2 ≤ 19 := by
  unfold postb_308 at f2
  have e0 : hV H2 285 64 = hV H1 285 64 := f2.1.2.1.1 285 64 (by decide +kernel)
  have e1 : hV H2 285 64 = hV H1 285 64 := e0
  have e2 : (0 : Int) ≤ hV H2 285 64 ∧ hV H2 285 64 ≤ 20 := f2.1.2.2.2 285 64 _ _ (by decide +kernel)
  try simp only [e1] at e2
  try simp only [e1]
  have r0_0 := f2.2
  try simp only [e1] at r0_0
  clear e0 e1
  clear f1 f2
  omega
def g_309_s_3 : vG := ([(31, [6], [], 0), (1308, [6, 0, 2], [1, 2], 0), (6000, [0, 1, 2, 3, 4], [0], 0), (0, [0], [], 285)], (91, [2], [], 19))
theorem c_309_s_3 : vOkm T0 (eP e_309 L_309 A_309 mu_309 none) 5 g_309_s_3 := vOk_in fun ρ η h => by
  obtain ⟨f0, f1, f2, f3, _⟩ := h
  exact q_309_3 (n0 := ρ 0) (n1 := ρ 1) (n2 := ρ 2) (n3 := ρ 3) (n4 := ρ 4) (n5 := ρ 6) (H0 := η 0) (H1 := η 1) (H2 := η 2) f3 f2 f1 f0
def p_309_s : List vG := [g_309_s_0,
  g_309_s_1,
  g_309_s_2,
  g_309_s_3]
theorem r_309_s : vCovO true (eR0 e_309 L_309 cs_309 2000) p_309_s = true := by decide +kernel
theorem m_309 (d : Nat) : eC e_309 (d + 3) := eC_ok (e := e_309) (L := L_309) (cs := cs_309) (n := 2000) (d := d + 2) (A := A_309) (μ := mu_309) (tp := true) (p0 := p_309_s) rfl ⟨m_251 (d + 1), ⟨m_307 d, ⟨m_308 d, trivial⟩⟩⟩ rfl (.inr pre0_ok) (by decide +kernel) (fun _ => post0_ok) r_309_s (allC c_309_s_0 (allC c_309_s_1 (allC c_309_s_2 (allC c_309_s_3 allN)))) allN
/- MixStageModel.soundsIn (III)I -/
noncomputable def s_310 : vM := ([(3, 12, 285, 0), (0, 0, 7, 0), (0, -2147483648, 2147483647, 0), (0, 0, 5, 0)], (0, -2147483648, 2147483647, 0), 1, 0, [(12, 82), (12, 88), (12, 103), (572, 0), (580, 0), (588, 0), (596, 0), (604, 0), (612, 0), (679, 0)])
def preb_310 (a0 a1 a2 a3 : Int) (h : gH) : Prop := a1 < hV h 285 18 ∧ PG h ∧ SO h
def pre_310 : List Int → gH → Prop := fun xs h => match xs with
  | [a0, a1, a2, a3] => preb_310 a0 a1 a2 a3 h
  | _ => False
noncomputable def e_310 : vE := (310, s_310, pre_310, post0)
noncomputable def L_310 : List vE := [e_248, e_250, e_264, e_266, e_270, e_273]
def cs_310 : List vC := [(13, [(0, (3, 12, 285, 0)), (1, (0, 0, 7, 0)), (2, (0, -2147483648, 2147483647, 0)), (3, (0, 0, 5, 0)), (4, (0, 0, 60, 0))]), (37, [(0, (3, 12, 285, 0)), (1, (0, 0, 7, 0)), (2, (0, -2147483648, 2147483647, 0)), (3, (0, 0, 5, 0)), (4, (0, 0, 40, 0))]), (110, [(0, (3, 12, 285, 0)), (1, (0, 0, 7, 0)), (2, (0, -2147483648, 2147483647, 0)), (3, (0, 0, 5, 0)), (4, (0, 0, 39, 0)), (5, (0, 0, 1007, 0)), (6, (0, 0, 240, 0))]), (201, [(0, (3, 12, 285, 0)), (1, (0, 0, 7, 0)), (2, (0, -2147483648, 2147483647, 0)), (3, (0, 0, 5, 0)), (4, (0, -2147483648, 2147483647, 0)), (5, (0, 0, 60, 0))])]
def Ab_310_13 (a0 a1 a2 a3 x0 x1 x2 x3 x4 : Int) (h0 h : gH) : Prop := x1 = a1 ∧ x2 = a2 ∧ x3 = a3 ∧ XQ h ∧ hV h 285 103 = 0
def mub_310_13 (a0 a1 a2 a3 x0 x1 x2 x3 x4 : Int) (h0 h : gH) : Nat := (25769803776 + (2147483648 - x4).toNat) * 1099511627776 + 1099511627775
def Ab_310_37 (a0 a1 a2 a3 x0 x1 x2 x3 x4 : Int) (h0 h : gH) : Prop := x1 = a1 ∧ x2 = a2 ∧ x3 = a3 ∧ hV h 285 103 ≤ x4 ∧ XQ h
def mub_310_37 (a0 a1 a2 a3 x0 x1 x2 x3 x4 : Int) (h0 h : gH) : Nat := (17179869184 + (2147483648 - x4).toNat) * 1099511627776 + 1099511627775
def Ab_310_110 (a0 a1 a2 a3 x0 x1 x2 x3 x4 x5 x6 : Int) (h0 h : gH) : Prop := x1 = a1 ∧ x2 = a2 ∧ x3 = a3 ∧ x5 = hV h 344 ((x4).toNat) ∧ hV h 298 ((x5).toNat) = 0 ∧ 0 ≤ hV h 300 ((x5).toNat) ∧ hV h 300 ((x5).toNat) < hV h 285 64 ∧ x4 < hV h 285 82 ∧ hV h 285 103 ≤ x4 + 1 ∧ XQ h
def mub_310_110 (a0 a1 a2 a3 x0 x1 x2 x3 x4 x5 x6 : Int) (h0 h : gH) : Nat := (17179869184 + (2147483648 - x4).toNat) * 1099511627776 + (8589934592 + (2147483648 - x6).toNat) * 1
def Ab_310_201 (a0 a1 a2 a3 x0 x1 x2 x3 x4 x5 : Int) (h0 h : gH) : Prop := x1 = a1 ∧ x2 = a2 ∧ x3 = a3 ∧ True
def mub_310_201 (a0 a1 a2 a3 x0 x1 x2 x3 x4 x5 : Int) (h0 h : gH) : Nat := (8589934592 + (2147483648 - x5).toNat) * 1099511627776 + 1099511627775
def A_310 : Int → List Int → gH → gH → Prop := fun c xs h0 h => match c.toNat with
  | 13 => (match xs with
    | [a0, a1, a2, a3, x0, x1, x2, x3, x4] => Ab_310_13 a0 a1 a2 a3 x0 x1 x2 x3 x4 h0 h
    | _ => False)
  | 37 => (match xs with
    | [a0, a1, a2, a3, x0, x1, x2, x3, x4] => Ab_310_37 a0 a1 a2 a3 x0 x1 x2 x3 x4 h0 h
    | _ => False)
  | 110 => (match xs with
    | [a0, a1, a2, a3, x0, x1, x2, x3, x4, x5, x6] => Ab_310_110 a0 a1 a2 a3 x0 x1 x2 x3 x4 x5 x6 h0 h
    | _ => False)
  | 201 => (match xs with
    | [a0, a1, a2, a3, x0, x1, x2, x3, x4, x5] => Ab_310_201 a0 a1 a2 a3 x0 x1 x2 x3 x4 x5 h0 h
    | _ => False)
  | _ => True
def mu_310 : Int → List Int → gH → gH → Nat := fun c xs h0 h => match c.toNat with
  | 13 => (match xs with
    | [a0, a1, a2, a3, x0, x1, x2, x3, x4] => mub_310_13 a0 a1 a2 a3 x0 x1 x2 x3 x4 h0 h
    | _ => 0)
  | 37 => (match xs with
    | [a0, a1, a2, a3, x0, x1, x2, x3, x4] => mub_310_37 a0 a1 a2 a3 x0 x1 x2 x3 x4 h0 h
    | _ => 0)
  | 110 => (match xs with
    | [a0, a1, a2, a3, x0, x1, x2, x3, x4, x5, x6] => mub_310_110 a0 a1 a2 a3 x0 x1 x2 x3 x4 x5 x6 h0 h
    | _ => 0)
  | 201 => (match xs with
    | [a0, a1, a2, a3, x0, x1, x2, x3, x4, x5] => mub_310_201 a0 a1 a2 a3 x0 x1 x2 x3 x4 x5 h0 h
    | _ => 0)
  | _ => 0
theorem q_310_0 {n0 n1 n2 n3 : Int} {H0 : gH} (f0 : n0 ≤ 5) (f1 : 0 ≤ n0) (f2 : n1 ≤ 2147483647) (f3 : (-2147483648) ≤ n1) (f4 : n2 ≤ 7) (f5 : 0 ≤ n2) (f6 : n3 = 285) (f7 : hWt T0 H0 ∧ preb_310 n3 n2 n1 n0 H0) : preb_270 n3 n2 H0 := by
  unfold preb_310 at f7
  unfold preb_270
  have e0 : (0 : Int) ≤ hV H0 285 18 ∧ hV H0 285 18 ≤ 8 := f7.1 285 18 _ _ (by decide +kernel)
  have p0 := f7.2.1
  have p1 := f7.2.2.1
  have p2 := f7.2.2.2
  clear f7
  refine ⟨?_, ?_⟩ <;> first | assumption | omega | trivial
def g_310_s_0 : vG := ([(6000, [0, 1, 2, 3], [0], 0), (0, [0], [], 285), (90, [1], [], 0), (91, [1], [], 7), (90, [2], [], -2147483648), (91, [2], [], 2147483647), (90, [3], [], 0), (91, [3], [], 5)], (2270, [0, 1], [0], 0))
theorem c_310_s_0 : vOkm T0 (eP e_310 L_310 A_310 mu_310 none) 4 g_310_s_0 := vOk_in fun ρ η h => by
  obtain ⟨f0, f1, f2, f3, f4, f5, f6, f7, _⟩ := h
  exact q_310_0 (n0 := ρ 3) (n1 := ρ 2) (n2 := ρ 1) (n3 := ρ 0) (H0 := η 0) f7 f6 f5 f4 f3 f2 f1 f0
theorem q_310_1 {n0 n1 n2 n3 n4 n5 n6 : Int} {H0 H1 H2 : gH} (f0 : n0 ≤ 5) (f1 : 0 ≤ n0) (f2 : n1 ≤ 2147483647) (f3 : (-2147483648) ≤ n1) (f4 : n2 ≤ 7) (f5 : 0 ≤ n2) (f6 : n3 = 285) (f7 : hWt T0 H0 ∧ preb_310 n3 n2 n1 n0 H0) (f8 : (hLe T0 H0 H1 ∧ hFr s_270.2.2.2.2 H0 H1 ∧ ((0 : Int) = 0 → H1.length = H0.length) ∧ hWt T0 H1) ∧ postb_270 n3 n2 H0 H1) (f9 : n4 = 0) (f10 : n5 = 103) (f11 : hUpd H2 H1 n3 n5 n4) (f12 : n6 = 0) : Ab_310_13 n3 n2 n1 n0 n3 n2 n1 n0 n6 H0 H2 ∧ ∀ q, none = some q → mub_310_13 n3 n2 n1 n0 n3 n2 n1 n0 n6 H0 H2 < q := by
  unfold preb_310 at f7
  unfold postb_270 at f8
  unfold Ab_310_13
  have e0 : hV H1 296 = hV H0 296 := fRow f8.1.2.1 296 (by decide +kernel)
  have e1 : hV H1 298 = hV H0 298 := fRow f8.1.2.1 298 (by decide +kernel)
  have e2 : hV H1 300 = hV H0 300 := fRow f8.1.2.1 300 (by decide +kernel)
  have e3 : hV H2 285 103 = n4 := uSame f11 _ _ f6.symm f10.symm
  have e4 : hV H2 285 103 = n4 := e3
  have e5 : XQ H2 = XQ H1 := XQ_upF f11 f6 (show n5 = ((103 : Nat) : Int) from f10) (by decide)
  have e6 : (0 : Int) ≤ hV H0 285 18 ∧ hV H0 285 18 ≤ 8 := f7.1 285 18 _ _ (by decide +kernel)
  have e7 : (0 : Int) ≤ hV H1 285 82 ∧ hV H1 285 82 ≤ 40 := f8.1.2.2.2 285 82 _ _ (by decide +kernel)
  try simp only [e0, e1, e2, e4, e5]
  have p0 := f7.2.1
  have p1 := f7.2.2.1
  have p2 := f7.2.2.2
  have r0_0 := f8.2.1
  have r0_1 := f8.2.2
  try simp only [e0, e1, e2] at r0_0
  try simp only [e0, e1, e2] at r0_1
  clear e0 e1 e2 e5
  clear f7 f8
  refine ⟨?_, fun q hq => ?_⟩
  · refine ⟨?_, ?_, ?_, ?_, ?_⟩ <;> first | assumption | omega | trivial
  · exact nomatch hq
def g_310_s_1 : vG := ([(0, [6], [], 0), (80, [0, 5, 4], [2, 1], 0), (0, [5], [], 103), (0, [4], [], 0), (1270, [0, 1], [0, 1], 0), (6000, [0, 1, 2, 3], [0], 0), (0, [0], [], 285), (90, [1], [], 0), (91, [1], [], 7), (90, [2], [], -2147483648), (91, [2], [], 2147483647), (90, [3], [], 0), (91, [3], [], 5)], (4000, [0, 1, 2, 3, 6], [2], 13))
theorem c_310_s_1 : vOkm T0 (eP e_310 L_310 A_310 mu_310 none) 4 g_310_s_1 := vOk_in fun ρ η h => by
  obtain ⟨f0, f1, f2, f3, f4, f5, f6, f7, f8, f9, f10, f11, f12, _⟩ := h
  exact q_310_1 (n0 := ρ 3) (n1 := ρ 2) (n2 := ρ 1) (n3 := ρ 0) (n4 := ρ 4) (n5 := ρ 5) (n6 := ρ 6) (H0 := η 0) (H1 := η 1) (H2 := η 2) f12 f11 f10 f9 f8 f7 f6 f5 f4 f3 f2 f1 f0
def p_310_s : List vG := [g_310_s_0,
  g_310_s_1]
theorem r_310_s : vCovO true (eR0 e_310 L_310 cs_310 2000) p_310_s = true := by decide +kernel
theorem q_310_2 {q0 : Nat} {n0 n1 n2 n3 n4 n5 n6 n7 n8 n9 n10 : Int} {H0 H1 : gH} (f0 : n0 ≤ 60) (f1 : 0 ≤ n0) (f2 : n1 ≤ 5) (f3 : 0 ≤ n1) (f4 : n2 ≤ 2147483647) (f5 : (-2147483648) ≤ n2) (f6 : n3 ≤ 7) (f7 : 0 ≤ n3) (f8 : n4 = 285) (f9 : n5 ≤ 5) (f10 : 0 ≤ n5) (f11 : n6 ≤ 2147483647) (f12 : (-2147483648) ≤ n6) (f13 : n7 ≤ 7) (f14 : 0 ≤ n7) (f15 : n8 = 285) (f16 : (hLe T0 H0 H1 ∧ hFr s_310.2.2.2.2 H0 H1 ∧ hWt T0 H1) ∧ (Ab_310_13 n8 n7 n6 n5 n4 n3 n2 n1 n0 H0 H1 ∧ preb_310 n8 n7 n6 n5 H0) ∧ some q0 = some (mub_310_13 n8 n7 n6 n5 n4 n3 n2 n1 n0 H0 H1)) (f17 : n9 = 60) (f18 : n9 ≤ n0) (f19 : n10 = 0) : Ab_310_37 n8 n7 n6 n5 n4 n3 n2 n1 n10 H0 H1 ∧ ∀ q, some q0 = some q → mub_310_37 n8 n7 n6 n5 n4 n3 n2 n1 n10 H0 H1 < q := by
  have g4 := f16.2.1.1
  unfold Ab_310_13 at g4
  have g3 := f16.2.1.2
  unfold preb_310 at g3
  have g5 := Option.some.inj f16.2.2
  unfold mub_310_13 at g5
  unfold Ab_310_37
  unfold mub_310_37
  have e0 : hV H1 285 18 = hV H0 285 18 := f16.1.2.1.1 285 18 (by decide +kernel)
  have e1 : hV H1 285 18 = hV H0 285 18 := e0
  have e2 : (0 : Int) ≤ hV H1 285 103 ∧ hV H1 285 103 ≤ 40 := f16.1.2.2 285 103 _ _ (by decide +kernel)
  have e3 : (0 : Int) ≤ hV H1 285 18 ∧ hV H1 285 18 ≤ 8 := f16.1.2.2 285 18 _ _ (by decide +kernel)
  try simp only [e1] at e3
  try simp only [e1] at g5
  try simp only [e1]
  have k0 := g4.1
  have k1 := g4.2.1
  have k2 := g4.2.2.1
  have y0 := g4.2.2.2.1
  have y1 := g4.2.2.2.2
  have p0 := g3.1
  have p1 := g3.2.1
  have p2 := g3.2.2
  try simp only [e1] at y0
  try simp only [e1] at y1
  try simp only [e1] at p0
  try simp only [e1] at p1
  try simp only [e1] at p2
  clear g3
  clear g4
  clear e0 e1
  clear f16
  try subst k2
  try subst k1
  try subst k0
  refine ⟨?_, fun q hq => ?_⟩
  · refine ⟨?_, ?_, ?_, ?_, ?_⟩ <;> first | assumption | omega | trivial
  · have g6 := Option.some.inj hq
    subst g6
    omega
def g_310_13_0 : vG := ([(0, [10], [], 0), (43, [8, 9], [], 0), (0, [9], [], 60), (5000, [0, 1, 2, 3, 4, 5, 6, 7, 8], [0, 1], 13), (0, [0], [], 285), (90, [1], [], 0), (91, [1], [], 7), (90, [2], [], -2147483648), (91, [2], [], 2147483647), (90, [3], [], 0), (91, [3], [], 5), (0, [4], [], 285), (90, [5], [], 0), (91, [5], [], 7), (90, [6], [], -2147483648), (91, [6], [], 2147483647), (90, [7], [], 0), (91, [7], [], 5), (90, [8], [], 0), (91, [8], [], 60)], (4000, [4, 5, 6, 7, 10], [1], 37))
theorem c_310_13_0 {q0 : Nat} : vOkm T0 (eP e_310 L_310 A_310 mu_310 (some q0)) 4 g_310_13_0 := vOk_in fun ρ η h => by
  obtain ⟨f0, f1, f2, f3, f4, f5, f6, f7, f8, f9, f10, f11, f12, f13, f14, f15, f16, f17, f18, f19, _⟩ := h
  exact q_310_2 (q0 := q0) (n0 := ρ 8) (n1 := ρ 7) (n2 := ρ 6) (n3 := ρ 5) (n4 := ρ 4) (n5 := ρ 3) (n6 := ρ 2) (n7 := ρ 1) (n8 := ρ 0) (n9 := ρ 9) (n10 := ρ 10) (H0 := η 0) (H1 := η 1) f19 f18 f17 f16 f15 f14 f13 f12 f11 f10 f9 f8 f7 f6 f5 f4 f3 f2 f1 f0
theorem q_310_3 {q0 : Nat} {n0 n1 : Int} {H0 : gH} (f0 : 0 ≤ n0) (f1 : n1 = 60) (f2 : n0 < n1) : 0 ≤ n0 ∧ n0 < 60 := by
  omega
def g_310_13_1 : vG := ([(42, [8, 9], [], 0), (0, [9], [], 60), (90, [8], [], 0)], (70, [8], [], 60))
theorem c_310_13_1 {q0 : Nat} : vOkm T0 (eP e_310 L_310 A_310 mu_310 (some q0)) 4 g_310_13_1 := vOk_in fun ρ η h => by
  obtain ⟨f0, f1, f2, _⟩ := h
  exact q_310_3 (q0 := q0) (n0 := ρ 8) (n1 := ρ 9) (H0 := η 0) f2 f1 f0
theorem q_310_4 {q0 : Nat} {n0 n1 n2 : Int} {H0 : gH} (f0 : 0 ≤ n0) (f1 : n1 = 60) (f2 : n0 < n1) (f3 : n2 = w32 (n0 + 1)) : 0 ≤ n2 := by
  unfold w32 at *
  try (have ix0 : n2 = n0 + 1 := (by omega); subst ix0)
  omega
def g_310_13_2 : vG := ([(10, [13, 8], [], 1), (42, [8, 9], [], 0), (0, [9], [], 60), (90, [8], [], 0)], (90, [13], [], 0))
theorem c_310_13_2 {q0 : Nat} : vOkm T0 (eP e_310 L_310 A_310 mu_310 (some q0)) 4 g_310_13_2 := vOk_in fun ρ η h => by
  obtain ⟨f0, f1, f2, f3, _⟩ := h
  exact q_310_4 (q0 := q0) (n0 := ρ 8) (n1 := ρ 9) (n2 := ρ 13) (H0 := η 0) f3 f2 f1 f0
theorem q_310_5 {q0 : Nat} {n0 n1 n2 : Int} {H0 : gH} (f0 : 0 ≤ n0) (f1 : n1 = 60) (f2 : n0 < n1) (f3 : n2 = w32 (n0 + 1)) : n2 ≤ 60 := by
  unfold w32 at *
  try (have ix0 : n2 = n0 + 1 := (by omega); subst ix0)
  omega
def g_310_13_3 : vG := ([(10, [13, 8], [], 1), (42, [8, 9], [], 0), (0, [9], [], 60), (90, [8], [], 0)], (91, [13], [], 60))
theorem c_310_13_3 {q0 : Nat} : vOkm T0 (eP e_310 L_310 A_310 mu_310 (some q0)) 4 g_310_13_3 := vOk_in fun ρ η h => by
  obtain ⟨f0, f1, f2, f3, _⟩ := h
  exact q_310_5 (q0 := q0) (n0 := ρ 8) (n1 := ρ 9) (n2 := ρ 13) (H0 := η 0) f3 f2 f1 f0
theorem q_310_6 {q0 : Nat} {n0 n1 n2 n3 n4 n5 n6 n7 n8 n9 n10 n11 n12 n13 : Int} {H0 H1 H2 : gH} (f0 : n0 ≤ 60) (f1 : 0 ≤ n0) (f2 : n1 ≤ 5) (f3 : 0 ≤ n1) (f4 : n2 ≤ 2147483647) (f5 : (-2147483648) ≤ n2) (f6 : n3 ≤ 7) (f7 : 0 ≤ n3) (f8 : n4 = 285) (f9 : n5 ≤ 5) (f10 : 0 ≤ n5) (f11 : n6 ≤ 2147483647) (f12 : (-2147483648) ≤ n6) (f13 : n7 ≤ 7) (f14 : 0 ≤ n7) (f15 : n8 = 285) (f16 : (hLe T0 H0 H1 ∧ hFr s_310.2.2.2.2 H0 H1 ∧ hWt T0 H1) ∧ (Ab_310_13 n8 n7 n6 n5 n4 n3 n2 n1 n0 H0 H1 ∧ preb_310 n8 n7 n6 n5 H0) ∧ some q0 = some (mub_310_13 n8 n7 n6 n5 n4 n3 n2 n1 n0 H0 H1)) (f17 : n9 = 60) (f18 : n0 < n9) (f19 : n10 = 356) (f20 : n10 = hV H1 (n4).toNat 98) (f21 : n11 = 0) (f22 : n12 = o32 (fun x _ => x &&& 1) n11 0) (f23 : hUpd H2 H1 n10 n0 n12) (f24 : n13 = w32 (n0 + 1)) : Ab_310_13 n8 n7 n6 n5 n4 n3 n2 n1 n13 H0 H2 ∧ ∀ q, some q0 = some q → mub_310_13 n8 n7 n6 n5 n4 n3 n2 n1 n13 H0 H2 < q := by
  have g4 := f16.2.1.1
  unfold Ab_310_13 at g4
  have g3 := f16.2.1.2
  unfold preb_310 at g3
  have g5 := Option.some.inj f16.2.2
  unfold mub_310_13 at g5
  unfold Ab_310_13
  unfold mub_310_13
  have e0 : hV H1 285 18 = hV H0 285 18 := f16.1.2.1.1 285 18 (by decide +kernel)
  have e1 : hV H1 285 18 = hV H0 285 18 := e0
  have e2 : hV H2 285 103 = hV H1 285 103 := uPlace f23 _ _ (iS (show n10 = ((356 : Nat) : Int) from f19) rfl)
  have e3 : hV H2 285 103 = hV H1 285 103 := e2
  have e4 : XQ H2 = XQ H1 := XQ_upR f23 (show n10 = ((356 : Nat) : Int) from f19) (by decide)
  have e5 : (0 : Int) ≤ hV H1 285 103 ∧ hV H1 285 103 ≤ 40 := f16.1.2.2 285 103 _ _ (by decide +kernel)
  have e6 : (0 : Int) ≤ hV H1 285 18 ∧ hV H1 285 18 ≤ 8 := f16.1.2.2 285 18 _ _ (by decide +kernel)
  try simp only [e1] at e6
  try simp only [e1, e3, e4] at g5
  try simp only [e1, e3, e4]
  have k0 := g4.1
  have k1 := g4.2.1
  have k2 := g4.2.2.1
  have y0 := g4.2.2.2.1
  have y1 := g4.2.2.2.2
  have p0 := g3.1
  have p1 := g3.2.1
  have p2 := g3.2.2
  try simp only [e1] at y0
  try simp only [e1] at y1
  try simp only [e1] at p0
  try simp only [e1] at p1
  try simp only [e1] at p2
  clear g3
  clear g4
  clear f20 e0 e1 e2 e3 e4
  clear f16
  unfold w32 at *
  try (have ix0 : n13 = n0 + 1 := (by omega); subst ix0)
  try subst k2
  try subst k1
  try subst k0
  refine ⟨?_, fun q hq => ?_⟩
  · refine ⟨?_, ?_, ?_, ?_, ?_⟩ <;> first | assumption | omega | trivial
  · have g6 := Option.some.inj hq
    subst g6
    omega
def g_310_13_4 : vG := ([(10, [13, 8], [], 1), (80, [10, 8, 12], [2, 1], 0), (16, [12, 11], [], 0), (0, [11], [], 0), (20, [10, 4], [1], 98), (0, [10], [], 356), (42, [8, 9], [], 0), (0, [9], [], 60), (5000, [0, 1, 2, 3, 4, 5, 6, 7, 8], [0, 1], 13), (0, [0], [], 285), (90, [1], [], 0), (91, [1], [], 7), (90, [2], [], -2147483648), (91, [2], [], 2147483647), (90, [3], [], 0), (91, [3], [], 5), (0, [4], [], 285), (90, [5], [], 0), (91, [5], [], 7), (90, [6], [], -2147483648), (91, [6], [], 2147483647), (90, [7], [], 0), (91, [7], [], 5), (90, [8], [], 0), (91, [8], [], 60)], (4000, [4, 5, 6, 7, 13], [2], 13))
theorem c_310_13_4 {q0 : Nat} : vOkm T0 (eP e_310 L_310 A_310 mu_310 (some q0)) 4 g_310_13_4 := vOk_in fun ρ η h => by
  obtain ⟨f0, f1, f2, f3, f4, f5, f6, f7, f8, f9, f10, f11, f12, f13, f14, f15, f16, f17, f18, f19, f20, f21, f22, f23, f24, _⟩ := h
  exact q_310_6 (q0 := q0) (n0 := ρ 8) (n1 := ρ 7) (n2 := ρ 6) (n3 := ρ 5) (n4 := ρ 4) (n5 := ρ 3) (n6 := ρ 2) (n7 := ρ 1) (n8 := ρ 0) (n9 := ρ 9) (n10 := ρ 10) (n11 := ρ 11) (n12 := ρ 12) (n13 := ρ 13) (H0 := η 0) (H1 := η 1) (H2 := η 2) f24 f23 f22 f21 f20 f19 f18 f17 f16 f15 f14 f13 f12 f11 f10 f9 f8 f7 f6 f5 f4 f3 f2 f1 f0
def p_310_13 : List vG := [g_310_13_0,
  g_310_13_1,
  g_310_13_2,
  g_310_13_3,
  g_310_13_4]
theorem r_310_13 : vCovO true (eRc e_310 L_310 cs_310 2000 (13, [(0, (3, 12, 285, 0)), (1, (0, 0, 7, 0)), (2, (0, -2147483648, 2147483647, 0)), (3, (0, 0, 5, 0)), (4, (0, 0, 60, 0))])) p_310_13 = true := by decide +kernel
theorem q_310_7 {q0 : Nat} {n0 n1 n2 n3 n4 n5 n6 n7 n8 n9 n10 n11 : Int} {H0 H1 : gH} (f0 : n0 ≤ 40) (f1 : 0 ≤ n0) (f2 : n1 ≤ 5) (f3 : 0 ≤ n1) (f4 : n2 ≤ 2147483647) (f5 : (-2147483648) ≤ n2) (f6 : n3 ≤ 7) (f7 : 0 ≤ n3) (f8 : n4 = 285) (f9 : n5 ≤ 5) (f10 : 0 ≤ n5) (f11 : n6 ≤ 2147483647) (f12 : (-2147483648) ≤ n6) (f13 : n7 ≤ 7) (f14 : 0 ≤ n7) (f15 : n8 = 285) (f16 : (hLe T0 H0 H1 ∧ hFr s_310.2.2.2.2 H0 H1 ∧ hWt T0 H1) ∧ (Ab_310_37 n8 n7 n6 n5 n4 n3 n2 n1 n0 H0 H1 ∧ preb_310 n8 n7 n6 n5 H0) ∧ some q0 = some (mub_310_37 n8 n7 n6 n5 n4 n3 n2 n1 n0 H0 H1)) (f17 : n9 ≤ 40) (f18 : 0 ≤ n9) (f19 : n9 = hV H1 (n4).toNat 82) (f20 : n9 ≤ n0) (f21 : n10 = 0) (f22 : n11 = 0) : Ab_310_201 n8 n7 n6 n5 n4 n3 n2 n1 n10 n11 H0 H1 ∧ ∀ q, some q0 = some q → mub_310_201 n8 n7 n6 n5 n4 n3 n2 n1 n10 n11 H0 H1 < q := by
  have g4 := f16.2.1.1
  unfold Ab_310_37 at g4
  have g3 := f16.2.1.2
  unfold preb_310 at g3
  have g5 := Option.some.inj f16.2.2
  unfold mub_310_37 at g5
  unfold Ab_310_201
  unfold mub_310_201
  have e0 : n9 = hV H1 285 82 := (by rw [f8] at f19; exact f19 : n9 = hV H1 285 82)
  have e1 : hV H1 285 18 = hV H0 285 18 := f16.1.2.1.1 285 18 (by decide +kernel)
  have e2 : hV H1 285 18 = hV H0 285 18 := e1
  have e3 : (0 : Int) ≤ hV H1 285 103 ∧ hV H1 285 103 ≤ 40 := f16.1.2.2 285 103 _ _ (by decide +kernel)
  have e4 : (0 : Int) ≤ hV H1 285 18 ∧ hV H1 285 18 ≤ 8 := f16.1.2.2 285 18 _ _ (by decide +kernel)
  try simp only [e2] at e4
  try simp only [e2] at g5
  try simp only [e2]
  have k0 := g4.1
  have k1 := g4.2.1
  have k2 := g4.2.2.1
  have y0 := g4.2.2.2.1
  have y1 := g4.2.2.2.2
  have p0 := g3.1
  have p1 := g3.2.1
  have p2 := g3.2.2
  try simp only [e2] at y0
  try simp only [e2] at y1
  try simp only [e2] at p0
  try simp only [e2] at p1
  try simp only [e2] at p2
  clear g3
  clear g4
  clear f19 e1 e2
  clear f16
  subst e0
  try subst k2
  try subst k1
  try subst k0
  refine ⟨?_, fun q hq => ?_⟩
  · refine ⟨?_, ?_, ?_, ?_⟩ <;> first | assumption | omega | trivial
  · have g6 := Option.some.inj hq
    subst g6
    omega
def g_310_37_0 : vG := ([(0, [11], [], 0), (0, [10], [], 0), (43, [8, 9], [], 0), (20, [9, 4], [1], 82), (90, [9], [], 0), (91, [9], [], 40), (5000, [0, 1, 2, 3, 4, 5, 6, 7, 8], [0, 1], 37), (0, [0], [], 285), (90, [1], [], 0), (91, [1], [], 7), (90, [2], [], -2147483648), (91, [2], [], 2147483647), (90, [3], [], 0), (91, [3], [], 5), (0, [4], [], 285), (90, [5], [], 0), (91, [5], [], 7), (90, [6], [], -2147483648), (91, [6], [], 2147483647), (90, [7], [], 0), (91, [7], [], 5), (90, [8], [], 0), (91, [8], [], 40)], (4000, [4, 5, 6, 7, 10, 11], [1], 201))
theorem c_310_37_0 {q0 : Nat} : vOkm T0 (eP e_310 L_310 A_310 mu_310 (some q0)) 4 g_310_37_0 := vOk_in fun ρ η h => by
  obtain ⟨f0, f1, f2, f3, f4, f5, f6, f7, f8, f9, f10, f11, f12, f13, f14, f15, f16, f17, f18, f19, f20, f21, f22, _⟩ := h
  exact q_310_7 (q0 := q0) (n0 := ρ 8) (n1 := ρ 7) (n2 := ρ 6) (n3 := ρ 5) (n4 := ρ 4) (n5 := ρ 3) (n6 := ρ 2) (n7 := ρ 1) (n8 := ρ 0) (n9 := ρ 9) (n10 := ρ 10) (n11 := ρ 11) (H0 := η 0) (H1 := η 1) f22 f21 f20 f19 f18 f17 f16 f15 f14 f13 f12 f11 f10 f9 f8 f7 f6 f5 f4 f3 f2 f1 f0
theorem q_310_8 {q0 : Nat} {n0 n1 : Int} {H0 : gH} (f0 : 0 ≤ n0) (f1 : n1 ≤ 40) (f2 : n0 < n1) : 0 ≤ n0 ∧ n0 < 40 := by
  omega
def g_310_37_1 : vG := ([(42, [8, 9], [], 0), (91, [9], [], 40), (90, [8], [], 0)], (70, [8], [], 40))
theorem c_310_37_1 {q0 : Nat} : vOkm T0 (eP e_310 L_310 A_310 mu_310 (some q0)) 4 g_310_37_1 := vOk_in fun ρ η h => by
  obtain ⟨f0, f1, f2, _⟩ := h
  exact q_310_8 (q0 := q0) (n0 := ρ 8) (n1 := ρ 9) (H0 := η 0) f2 f1 f0
theorem q_310_9 {q0 : Nat} {n0 n1 n2 : Int} {H0 : gH} (f0 : 0 ≤ n0) (f1 : n1 ≤ 40) (f2 : n0 < n1) (f3 : n2 = w32 (n0 + 1)) : 0 ≤ n2 := by
  unfold w32 at *
  try (have ix0 : n2 = n0 + 1 := (by omega); subst ix0)
  omega
def g_310_37_2 : vG := ([(10, [14, 8], [], 1), (42, [8, 9], [], 0), (91, [9], [], 40), (90, [8], [], 0)], (90, [14], [], 0))
theorem c_310_37_2 {q0 : Nat} : vOkm T0 (eP e_310 L_310 A_310 mu_310 (some q0)) 4 g_310_37_2 := vOk_in fun ρ η h => by
  obtain ⟨f0, f1, f2, f3, _⟩ := h
  exact q_310_9 (q0 := q0) (n0 := ρ 8) (n1 := ρ 9) (n2 := ρ 14) (H0 := η 0) f3 f2 f1 f0
theorem q_310_10 {q0 : Nat} {n0 n1 n2 : Int} {H0 : gH} (f0 : 0 ≤ n0) (f1 : n1 ≤ 40) (f2 : n0 < n1) (f3 : n2 = w32 (n0 + 1)) : n2 ≤ 40 := by
  unfold w32 at *
  try (have ix0 : n2 = n0 + 1 := (by omega); subst ix0)
  omega
def g_310_37_3 : vG := ([(10, [14, 8], [], 1), (42, [8, 9], [], 0), (91, [9], [], 40), (90, [8], [], 0)], (91, [14], [], 40))
theorem c_310_37_3 {q0 : Nat} : vOkm T0 (eP e_310 L_310 A_310 mu_310 (some q0)) 4 g_310_37_3 := vOk_in fun ρ η h => by
  obtain ⟨f0, f1, f2, f3, _⟩ := h
  exact q_310_10 (q0 := q0) (n0 := ρ 8) (n1 := ρ 9) (n2 := ρ 14) (H0 := η 0) f3 f2 f1 f0
theorem q_310_11 {q0 : Nat} {n0 n1 n2 n3 n4 n5 n6 n7 n8 n9 n10 n11 n12 n13 n14 : Int} {H0 H1 : gH} (f0 : n0 ≤ 40) (f1 : 0 ≤ n0) (f2 : n1 ≤ 5) (f3 : 0 ≤ n1) (f4 : n2 ≤ 2147483647) (f5 : (-2147483648) ≤ n2) (f6 : n3 ≤ 7) (f7 : 0 ≤ n3) (f8 : n4 = 285) (f9 : n5 ≤ 5) (f10 : 0 ≤ n5) (f11 : n6 ≤ 2147483647) (f12 : (-2147483648) ≤ n6) (f13 : n7 ≤ 7) (f14 : 0 ≤ n7) (f15 : n8 = 285) (f16 : (hLe T0 H0 H1 ∧ hFr s_310.2.2.2.2 H0 H1 ∧ hWt T0 H1) ∧ (Ab_310_37 n8 n7 n6 n5 n4 n3 n2 n1 n0 H0 H1 ∧ preb_310 n8 n7 n6 n5 H0) ∧ some q0 = some (mub_310_37 n8 n7 n6 n5 n4 n3 n2 n1 n0 H0 H1)) (f17 : n9 ≤ 40) (f18 : 0 ≤ n9) (f19 : n9 = hV H1 (n4).toNat 82) (f20 : n0 < n9) (f21 : n10 = 344) (f22 : n10 = hV H1 (n4).toNat 83) (f23 : n11 ≤ 1007) (f24 : 0 ≤ n11) (f25 : n11 = hV H1 (n10).toNat (n0).toNat) (f26 : n12 = 298) (f27 : n12 = hV H1 (n4).toNat 24) (f28 : n13 ≤ 5) (f29 : 0 ≤ n13) (f30 : n13 = hV H1 (n12).toNat (n11).toNat) (f31 : n13 ≠ 0) (f32 : n14 = w32 (n0 + 1)) : Ab_310_37 n8 n7 n6 n5 n4 n3 n2 n1 n14 H0 H1 ∧ ∀ q, some q0 = some q → mub_310_37 n8 n7 n6 n5 n4 n3 n2 n1 n14 H0 H1 < q := by
  have g4 := f16.2.1.1
  unfold Ab_310_37 at g4
  have g3 := f16.2.1.2
  unfold preb_310 at g3
  have g5 := Option.some.inj f16.2.2
  unfold mub_310_37 at g5
  unfold Ab_310_37
  unfold mub_310_37
  have e0 : n9 = hV H1 285 82 := (by rw [f8] at f19; exact f19 : n9 = hV H1 285 82)
  have e1 : n11 = hV H1 344 (n0).toNat := (by rw [f21] at f25; exact f25 : n11 = hV H1 344 (n0).toNat)
  have e2 : hV H1 298 = hV H0 298 := fRow f16.1.2.1 298 (by decide +kernel)
  have e3 : n13 = hV H0 298 (n11).toNat := (by rw [f26] at f30; exact f30 : n13 = hV H1 298 (n11).toNat).trans ((congrFun e2 _))
  have e4 : hV H1 285 18 = hV H0 285 18 := f16.1.2.1.1 285 18 (by decide +kernel)
  have e5 : hV H1 285 18 = hV H0 285 18 := e4
  have e6 : (0 : Int) ≤ hV H1 285 103 ∧ hV H1 285 103 ≤ 40 := f16.1.2.2 285 103 _ _ (by decide +kernel)
  have e7 : (0 : Int) ≤ hV H1 285 18 ∧ hV H1 285 18 ≤ 8 := f16.1.2.2 285 18 _ _ (by decide +kernel)
  try simp only [e5] at e7
  try simp only [e5] at g5
  try simp only [e5]
  have k0 := g4.1
  have k1 := g4.2.1
  have k2 := g4.2.2.1
  have y0 := g4.2.2.2.1
  have y1 := g4.2.2.2.2
  have p0 := g3.1
  have p1 := g3.2.1
  have p2 := g3.2.2
  try simp only [e5] at y0
  try simp only [e5] at y1
  try simp only [e5] at p0
  try simp only [e5] at p1
  try simp only [e5] at p2
  clear g3
  clear g4
  clear f19 f22 f25 f27 f30 e2 e4 e5
  clear f16
  subst e0
  subst e1
  subst e3
  unfold w32 at *
  try (have ix0 : n14 = n0 + 1 := (by omega); subst ix0)
  try subst k2
  try subst k1
  try subst k0
  refine ⟨?_, fun q hq => ?_⟩
  · refine ⟨?_, ?_, ?_, ?_, ?_⟩ <;> first | assumption | omega | trivial
  · have g6 := Option.some.inj hq
    subst g6
    omega
def g_310_37_4 : vG := ([(10, [14, 8], [], 1), (31, [13], [], 0), (22, [13, 12, 11], [1], 0), (90, [13], [], 0), (91, [13], [], 5), (20, [12, 4], [1], 24), (0, [12], [], 298), (22, [11, 10, 8], [1], 0), (90, [11], [], 0), (91, [11], [], 1007), (20, [10, 4], [1], 83), (0, [10], [], 344), (42, [8, 9], [], 0), (20, [9, 4], [1], 82), (90, [9], [], 0), (91, [9], [], 40), (5000, [0, 1, 2, 3, 4, 5, 6, 7, 8], [0, 1], 37), (0, [0], [], 285), (90, [1], [], 0), (91, [1], [], 7), (90, [2], [], -2147483648), (91, [2], [], 2147483647), (90, [3], [], 0), (91, [3], [], 5), (0, [4], [], 285), (90, [5], [], 0), (91, [5], [], 7), (90, [6], [], -2147483648), (91, [6], [], 2147483647), (90, [7], [], 0), (91, [7], [], 5), (90, [8], [], 0), (91, [8], [], 40)], (4000, [4, 5, 6, 7, 14], [1], 37))
theorem c_310_37_4 {q0 : Nat} : vOkm T0 (eP e_310 L_310 A_310 mu_310 (some q0)) 4 g_310_37_4 := vOk_in fun ρ η h => by
  obtain ⟨f0, f1, f2, f3, f4, f5, f6, f7, f8, f9, f10, f11, f12, f13, f14, f15, f16, f17, f18, f19, f20, f21, f22, f23, f24, f25, f26, f27, f28, f29, f30, f31, f32, _⟩ := h
  exact q_310_11 (q0 := q0) (n0 := ρ 8) (n1 := ρ 7) (n2 := ρ 6) (n3 := ρ 5) (n4 := ρ 4) (n5 := ρ 3) (n6 := ρ 2) (n7 := ρ 1) (n8 := ρ 0) (n9 := ρ 9) (n10 := ρ 10) (n11 := ρ 11) (n12 := ρ 12) (n13 := ρ 13) (n14 := ρ 14) (H0 := η 0) (H1 := η 1) f32 f31 f30 f29 f28 f27 f26 f25 f24 f23 f22 f21 f20 f19 f18 f17 f16 f15 f14 f13 f12 f11 f10 f9 f8 f7 f6 f5 f4 f3 f2 f1 f0
def g_310_37_5 : vG := ([(10, [17, 8], [], 1), (42, [8, 9], [], 0), (91, [9], [], 40), (90, [8], [], 0)], (90, [17], [], 0))
theorem c_310_37_5 {q0 : Nat} : vOkm T0 (eP e_310 L_310 A_310 mu_310 (some q0)) 4 g_310_37_5 := vOk_in fun ρ η h => by
  obtain ⟨f0, f1, f2, f3, _⟩ := h
  exact q_310_9 (q0 := q0) (n0 := ρ 8) (n1 := ρ 9) (n2 := ρ 17) (H0 := η 0) f3 f2 f1 f0
def g_310_37_6 : vG := ([(10, [17, 8], [], 1), (42, [8, 9], [], 0), (91, [9], [], 40), (90, [8], [], 0)], (91, [17], [], 40))
theorem c_310_37_6 {q0 : Nat} : vOkm T0 (eP e_310 L_310 A_310 mu_310 (some q0)) 4 g_310_37_6 := vOk_in fun ρ η h => by
  obtain ⟨f0, f1, f2, f3, _⟩ := h
  exact q_310_10 (q0 := q0) (n0 := ρ 8) (n1 := ρ 9) (n2 := ρ 17) (H0 := η 0) f3 f2 f1 f0
theorem q_310_12 {q0 : Nat} {n0 n1 n2 n3 n4 n5 n6 n7 n8 n9 n10 n11 n12 n13 n14 n15 n16 n17 : Int} {H0 H1 H2 : gH} (f0 : n0 ≤ 40) (f1 : 0 ≤ n0) (f2 : n1 ≤ 5) (f3 : 0 ≤ n1) (f4 : n2 ≤ 2147483647) (f5 : (-2147483648) ≤ n2) (f6 : n3 ≤ 7) (f7 : 0 ≤ n3) (f8 : n4 = 285) (f9 : n5 ≤ 5) (f10 : 0 ≤ n5) (f11 : n6 ≤ 2147483647) (f12 : (-2147483648) ≤ n6) (f13 : n7 ≤ 7) (f14 : 0 ≤ n7) (f15 : n8 = 285) (f16 : (hLe T0 H0 H1 ∧ hFr s_310.2.2.2.2 H0 H1 ∧ hWt T0 H1) ∧ (Ab_310_37 n8 n7 n6 n5 n4 n3 n2 n1 n0 H0 H1 ∧ preb_310 n8 n7 n6 n5 H0) ∧ some q0 = some (mub_310_37 n8 n7 n6 n5 n4 n3 n2 n1 n0 H0 H1)) (f17 : n9 ≤ 40) (f18 : 0 ≤ n9) (f19 : n9 = hV H1 (n4).toNat 82) (f20 : n0 < n9) (f21 : n10 = 344) (f22 : n10 = hV H1 (n4).toNat 83) (f23 : n11 ≤ 1007) (f24 : 0 ≤ n11) (f25 : n11 = hV H1 (n10).toNat (n0).toNat) (f26 : n12 = 298) (f27 : n12 = hV H1 (n4).toNat 24) (f28 : n13 ≤ 5) (f29 : 0 ≤ n13) (f30 : n13 = hV H1 (n12).toNat (n11).toNat) (f31 : n13 = 0) (f32 : n14 = 300) (f33 : n14 = hV H1 (n4).toNat 26) (f34 : n15 ≤ 9999) (f35 : (-1) ≤ n15) (f36 : n15 = hV H1 (n14).toNat (n11).toNat) (f37 : n16 ≤ 1) (f38 : 0 ≤ n16) (f39 : (hLe T0 H1 H2 ∧ hFr s_250.2.2.2.2 H1 H2 ∧ ((0 : Int) = 0 → H2.length = H1.length) ∧ hWt T0 H2) ∧ postb_250 n16 n4 n15 H1 H2) (f40 : n16 = 0) (f41 : n17 = w32 (n0 + 1)) : Ab_310_37 n8 n7 n6 n5 n4 n3 n2 n1 n17 H0 H2 ∧ ∀ q, some q0 = some q → mub_310_37 n8 n7 n6 n5 n4 n3 n2 n1 n17 H0 H2 < q := by
  have g4 := f16.2.1.1
  unfold Ab_310_37 at g4
  have g3 := f16.2.1.2
  unfold preb_310 at g3
  have g5 := Option.some.inj f16.2.2
  unfold mub_310_37 at g5
  unfold postb_250 at f39
  unfold Ab_310_37
  unfold mub_310_37
  have e0 : n9 = hV H1 285 82 := (by rw [f8] at f19; exact f19 : n9 = hV H1 285 82)
  have e1 : n11 = hV H1 344 (n0).toNat := (by rw [f21] at f25; exact f25 : n11 = hV H1 344 (n0).toNat)
  have e2 : hV H1 298 = hV H0 298 := fRow f16.1.2.1 298 (by decide +kernel)
  have e3 : n13 = hV H0 298 (n11).toNat := (by rw [f26] at f30; exact f30 : n13 = hV H1 298 (n11).toNat).trans ((congrFun e2 _))
  have e4 : hV H1 300 = hV H0 300 := fRow f16.1.2.1 300 (by decide +kernel)
  have e5 : n15 = hV H0 300 (n11).toNat := (by rw [f32] at f36; exact f36 : n15 = hV H1 300 (n11).toNat).trans ((congrFun e4 _))
  have e6 : hV H1 285 18 = hV H0 285 18 := f16.1.2.1.1 285 18 (by decide +kernel)
  have e7 : hV H1 285 18 = hV H0 285 18 := e6
  have e8 : hV H1 285 64 = hV H0 285 64 := f16.1.2.1.1 285 64 (by decide +kernel)
  have e9 : hV H1 285 64 = hV H0 285 64 := e8
  have e10 : hV H2 285 103 = hV H1 285 103 := f39.1.2.1.1 285 103 (by decide +kernel)
  have e11 : hV H2 285 103 = hV H1 285 103 := e10
  have e12 : hV H2 285 64 = hV H1 285 64 := f39.1.2.1.1 285 64 (by decide +kernel)
  have e13 : hV H2 285 64 = hV H0 285 64 := (e12).trans e8
  have e14 : XQ H2 = XQ H1 := XQ_fr f39.1.2.1 (by decide +kernel)
  have e15 : (0 : Int) ≤ hV H1 285 103 ∧ hV H1 285 103 ≤ 40 := f16.1.2.2 285 103 _ _ (by decide +kernel)
  have e16 : (0 : Int) ≤ hV H1 285 18 ∧ hV H1 285 18 ≤ 8 := f16.1.2.2 285 18 _ _ (by decide +kernel)
  have e17 : (0 : Int) ≤ hV H1 285 64 ∧ hV H1 285 64 ≤ 20 := f16.1.2.2 285 64 _ _ (by decide +kernel)
  have e18 : (0 : Int) ≤ hV H2 285 103 ∧ hV H2 285 103 ≤ 40 := f39.1.2.2.2 285 103 _ _ (by decide +kernel)
  have e19 : (0 : Int) ≤ hV H2 285 64 ∧ hV H2 285 64 ≤ 20 := f39.1.2.2.2 285 64 _ _ (by decide +kernel)
  try simp only [e7] at e16
  try simp only [e9] at e17
  try simp only [e11] at e18
  try simp only [e13] at e19
  try simp only [e7, e9, e11, e13, e14] at g5
  try simp only [e7, e9, e11, e13, e14]
  have k0 := g4.1
  have k1 := g4.2.1
  have k2 := g4.2.2.1
  have y0 := g4.2.2.2.1
  have y1 := g4.2.2.2.2
  have p0 := g3.1
  have p1 := g3.2.1
  have p2 := g3.2.2
  have r0_0 := f39.2
  try simp only [e7, e9] at y0
  try simp only [e7, e9] at y1
  try simp only [e7, e9] at p0
  try simp only [e7, e9] at p1
  try simp only [e7, e9] at p2
  try simp only [e7, e9, e11, e13, e14] at r0_0
  clear g3
  clear g4
  clear f19 f22 f25 f27 f30 f33 f36 e2 e4 e6 e7 e8 e9 e10 e11 e12 e13 e14
  clear f16 f39
  subst e0
  subst e1
  subst e3
  subst e5
  unfold w32 at *
  try (have ix0 : n17 = n0 + 1 := (by omega); subst ix0)
  try subst k2
  try subst k1
  try subst k0
  refine ⟨?_, fun q hq => ?_⟩
  · refine ⟨?_, ?_, ?_, ?_, ?_⟩ <;> first | assumption | omega | trivial
  · have g6 := Option.some.inj hq
    subst g6
    omega
def g_310_37_7 : vG := ([(10, [17, 8], [], 1), (30, [16], [], 0), (1250, [16, 4, 15], [1, 2], 0), (90, [16], [], 0), (91, [16], [], 1), (22, [15, 14, 11], [1], 0), (90, [15], [], -1), (91, [15], [], 9999), (20, [14, 4], [1], 26), (0, [14], [], 300), (30, [13], [], 0), (22, [13, 12, 11], [1], 0), (90, [13], [], 0), (91, [13], [], 5), (20, [12, 4], [1], 24), (0, [12], [], 298), (22, [11, 10, 8], [1], 0), (90, [11], [], 0), (91, [11], [], 1007), (20, [10, 4], [1], 83), (0, [10], [], 344), (42, [8, 9], [], 0), (20, [9, 4], [1], 82), (90, [9], [], 0), (91, [9], [], 40), (5000, [0, 1, 2, 3, 4, 5, 6, 7, 8], [0, 1], 37), (0, [0], [], 285), (90, [1], [], 0), (91, [1], [], 7), (90, [2], [], -2147483648), (91, [2], [], 2147483647), (90, [3], [], 0), (91, [3], [], 5), (0, [4], [], 285), (90, [5], [], 0), (91, [5], [], 7), (90, [6], [], -2147483648), (91, [6], [], 2147483647), (90, [7], [], 0), (91, [7], [], 5), (90, [8], [], 0), (91, [8], [], 40)], (4000, [4, 5, 6, 7, 17], [2], 37))
theorem c_310_37_7 {q0 : Nat} : vOkm T0 (eP e_310 L_310 A_310 mu_310 (some q0)) 4 g_310_37_7 := vOk_in fun ρ η h => by
  obtain ⟨f0, f1, f2, f3, f4, f5, f6, f7, f8, f9, f10, f11, f12, f13, f14, f15, f16, f17, f18, f19, f20, f21, f22, f23, f24, f25, f26, f27, f28, f29, f30, f31, f32, f33, f34, f35, f36, f37, f38, f39, f40, f41, _⟩ := h
  exact q_310_12 (q0 := q0) (n0 := ρ 8) (n1 := ρ 7) (n2 := ρ 6) (n3 := ρ 5) (n4 := ρ 4) (n5 := ρ 3) (n6 := ρ 2) (n7 := ρ 1) (n8 := ρ 0) (n9 := ρ 9) (n10 := ρ 10) (n11 := ρ 11) (n12 := ρ 12) (n13 := ρ 13) (n14 := ρ 14) (n15 := ρ 15) (n16 := ρ 16) (n17 := ρ 17) (H0 := η 0) (H1 := η 1) (H2 := η 2) f41 f40 f39 f38 f37 f36 f35 f34 f33 f32 f31 f30 f29 f28 f27 f26 f25 f24 f23 f22 f21 f20 f19 f18 f17 f16 f15 f14 f13 f12 f11 f10 f9 f8 f7 f6 f5 f4 f3 f2 f1 f0
theorem q_310_13 {q0 : Nat} {n0 n1 n2 n3 n4 n5 n6 n7 n8 n9 n10 n11 n12 n13 n14 n15 n16 n17 n18 : Int} {H0 H1 H2 : gH} (f0 : n0 ≤ 40) (f1 : 0 ≤ n0) (f2 : n1 ≤ 5) (f3 : 0 ≤ n1) (f4 : n2 ≤ 2147483647) (f5 : (-2147483648) ≤ n2) (f6 : n3 ≤ 7) (f7 : 0 ≤ n3) (f8 : n4 = 285) (f9 : n5 ≤ 5) (f10 : 0 ≤ n5) (f11 : n6 ≤ 2147483647) (f12 : (-2147483648) ≤ n6) (f13 : n7 ≤ 7) (f14 : 0 ≤ n7) (f15 : n8 = 285) (f16 : (hLe T0 H0 H1 ∧ hFr s_310.2.2.2.2 H0 H1 ∧ hWt T0 H1) ∧ (Ab_310_37 n8 n7 n6 n5 n4 n3 n2 n1 n0 H0 H1 ∧ preb_310 n8 n7 n6 n5 H0) ∧ some q0 = some (mub_310_37 n8 n7 n6 n5 n4 n3 n2 n1 n0 H0 H1)) (f17 : n9 ≤ 40) (f18 : 0 ≤ n9) (f19 : n9 = hV H1 (n4).toNat 82) (f20 : n0 < n9) (f21 : n10 = 344) (f22 : n10 = hV H1 (n4).toNat 83) (f23 : n11 ≤ 1007) (f24 : 0 ≤ n11) (f25 : n11 = hV H1 (n10).toNat (n0).toNat) (f26 : n12 = 298) (f27 : n12 = hV H1 (n4).toNat 24) (f28 : n13 ≤ 5) (f29 : 0 ≤ n13) (f30 : n13 = hV H1 (n12).toNat (n11).toNat) (f31 : n13 = 0) (f32 : n14 = 300) (f33 : n14 = hV H1 (n4).toNat 26) (f34 : n15 ≤ 9999) (f35 : (-1) ≤ n15) (f36 : n15 = hV H1 (n14).toNat (n11).toNat) (f37 : n16 ≤ 1) (f38 : 0 ≤ n16) (f39 : (hLe T0 H1 H2 ∧ hFr s_250.2.2.2.2 H1 H2 ∧ ((0 : Int) = 0 → H2.length = H1.length) ∧ hWt T0 H2) ∧ postb_250 n16 n4 n15 H1 H2) (f40 : n16 ≠ 0) (f41 : n17 = 300) (f42 : n17 = hV H2 (n4).toNat 26) (f43 : n18 ≤ 9999) (f44 : (-1) ≤ n18) (f45 : n18 = hV H2 (n17).toNat (n11).toNat) : preb_264 n4 n18 H2 := by
  have g4 := f16.2.1.1
  unfold Ab_310_37 at g4
  have g3 := f16.2.1.2
  unfold preb_310 at g3
  unfold postb_250 at f39
  unfold preb_264
  have e0 : n9 = hV H1 285 82 := (by rw [f8] at f19; exact f19 : n9 = hV H1 285 82)
  have e1 : n11 = hV H1 344 (n0).toNat := (by rw [f21] at f25; exact f25 : n11 = hV H1 344 (n0).toNat)
  have e2 : hV H1 298 = hV H0 298 := fRow f16.1.2.1 298 (by decide +kernel)
  have e3 : n13 = hV H0 298 (n11).toNat := (by rw [f26] at f30; exact f30 : n13 = hV H1 298 (n11).toNat).trans ((congrFun e2 _))
  have e4 : hV H1 300 = hV H0 300 := fRow f16.1.2.1 300 (by decide +kernel)
  have e5 : n15 = hV H0 300 (n11).toNat := (by rw [f32] at f36; exact f36 : n15 = hV H1 300 (n11).toNat).trans ((congrFun e4 _))
  have e6 : hV H2 300 = hV H1 300 := fRow f39.1.2.1 300 (by decide +kernel)
  have e7 : n18 = hV H0 300 (n11).toNat := (by rw [f41] at f45; exact f45 : n18 = hV H2 300 (n11).toNat).trans (((congrFun e6 _)).trans ((congrFun e4 _)))
  have e8 : hV H1 285 18 = hV H0 285 18 := f16.1.2.1.1 285 18 (by decide +kernel)
  have e9 : hV H1 285 18 = hV H0 285 18 := e8
  have e10 : hV H1 285 64 = hV H0 285 64 := f16.1.2.1.1 285 64 (by decide +kernel)
  have e11 : hV H1 285 64 = hV H0 285 64 := e10
  have e12 : hV H2 285 64 = hV H1 285 64 := f39.1.2.1.1 285 64 (by decide +kernel)
  have e13 : hV H2 285 64 = hV H0 285 64 := (e12).trans e10
  have e14 : SO H1 = SO H0 := SO_fr f16.1.2.1 (by decide +kernel)
  have e15 : SO H2 = SO H1 := SO_fr f39.1.2.1 (by decide +kernel)
  have e16 : SO H2 = SO H0 := e15.trans e14
  have e17 : (0 : Int) ≤ hV H1 285 103 ∧ hV H1 285 103 ≤ 40 := f16.1.2.2 285 103 _ _ (by decide +kernel)
  have e18 : (0 : Int) ≤ hV H1 285 18 ∧ hV H1 285 18 ≤ 8 := f16.1.2.2 285 18 _ _ (by decide +kernel)
  have e19 : (0 : Int) ≤ hV H1 285 64 ∧ hV H1 285 64 ≤ 20 := f16.1.2.2 285 64 _ _ (by decide +kernel)
  have e20 : (0 : Int) ≤ hV H2 285 64 ∧ hV H2 285 64 ≤ 20 := f39.1.2.2.2 285 64 _ _ (by decide +kernel)
  try simp only [e9] at e18
  try simp only [e11] at e19
  try simp only [e13] at e20
  try simp only [e9, e11, e13, e16]
  have k0 := g4.1
  have k1 := g4.2.1
  have k2 := g4.2.2.1
  have y0 := g4.2.2.2.1
  have y1 := g4.2.2.2.2
  have p0 := g3.1
  have p1 := g3.2.1
  have p2 := g3.2.2
  have r0_0 := f39.2
  try simp only [e9, e11] at y0
  try simp only [e9, e11] at y1
  try simp only [e9, e11] at p0
  try simp only [e9, e11] at p1
  try simp only [e9, e11] at p2
  try simp only [e9, e11, e13, e16] at r0_0
  clear g3
  clear g4
  clear f19 f22 f25 f27 f30 f33 f36 f42 f45 e2 e4 e6 e8 e9 e10 e11 e12 e13 e14 e15 e16
  clear f16 f39
  subst e0
  subst e1
  subst e3
  subst e5
  subst e7
  try subst k2
  try subst k1
  try subst k0
  refine ⟨?_, ?_, ?_⟩ <;> first | assumption | omega | trivial
def g_310_37_8 : vG := ([(22, [18, 17, 11], [2], 0), (90, [18], [], -1), (91, [18], [], 9999), (20, [17, 4], [2], 26), (0, [17], [], 300), (31, [16], [], 0), (1250, [16, 4, 15], [1, 2], 0), (90, [16], [], 0), (91, [16], [], 1), (22, [15, 14, 11], [1], 0), (90, [15], [], -1), (91, [15], [], 9999), (20, [14, 4], [1], 26), (0, [14], [], 300), (30, [13], [], 0), (22, [13, 12, 11], [1], 0), (90, [13], [], 0), (91, [13], [], 5), (20, [12, 4], [1], 24), (0, [12], [], 298), (22, [11, 10, 8], [1], 0), (90, [11], [], 0), (91, [11], [], 1007), (20, [10, 4], [1], 83), (0, [10], [], 344), (42, [8, 9], [], 0), (20, [9, 4], [1], 82), (90, [9], [], 0), (91, [9], [], 40), (5000, [0, 1, 2, 3, 4, 5, 6, 7, 8], [0, 1], 37), (0, [0], [], 285), (90, [1], [], 0), (91, [1], [], 7), (90, [2], [], -2147483648), (91, [2], [], 2147483647), (90, [3], [], 0), (91, [3], [], 5), (0, [4], [], 285), (90, [5], [], 0), (91, [5], [], 7), (90, [6], [], -2147483648), (91, [6], [], 2147483647), (90, [7], [], 0), (91, [7], [], 5), (90, [8], [], 0), (91, [8], [], 40)], (2264, [4, 18], [2], 0))
theorem c_310_37_8 {q0 : Nat} : vOkm T0 (eP e_310 L_310 A_310 mu_310 (some q0)) 4 g_310_37_8 := vOk_in fun ρ η h => by
  obtain ⟨f0, f1, f2, f3, f4, f5, f6, f7, f8, f9, f10, f11, f12, f13, f14, f15, f16, f17, f18, f19, f20, f21, f22, f23, f24, f25, f26, f27, f28, f29, f30, f31, f32, f33, f34, f35, f36, f37, f38, f39, f40, f41, f42, f43, f44, f45, _⟩ := h
  exact q_310_13 (q0 := q0) (n0 := ρ 8) (n1 := ρ 7) (n2 := ρ 6) (n3 := ρ 5) (n4 := ρ 4) (n5 := ρ 3) (n6 := ρ 2) (n7 := ρ 1) (n8 := ρ 0) (n9 := ρ 9) (n10 := ρ 10) (n11 := ρ 11) (n12 := ρ 12) (n13 := ρ 13) (n14 := ρ 14) (n15 := ρ 15) (n16 := ρ 16) (n17 := ρ 17) (n18 := ρ 18) (H0 := η 0) (H1 := η 1) (H2 := η 2) f45 f44 f43 f42 f41 f40 f39 f38 f37 f36 f35 f34 f33 f32 f31 f30 f29 f28 f27 f26 f25 f24 f23 f22 f21 f20 f19 f18 f17 f16 f15 f14 f13 f12 f11 f10 f9 f8 f7 f6 f5 f4 f3 f2 f1 f0
theorem q_310_14 {q0 : Nat} {n0 n1 n2 : Int} {H0 : gH} (f0 : n0 ≤ 40) (f1 : 0 ≤ n0) (f2 : n1 = 1) (f3 : n2 = w32 (n0 + n1)) : 0 ≤ n2 := by
  unfold w32 at *
  try (have ix0 : n2 = n0 + 1 := (by omega); subst ix0)
  omega
def g_310_37_9 : vG := ([(1, [22, 20, 21], [], 0), (0, [21], [], 1), (90, [20], [], 0), (91, [20], [], 40)], (90, [22], [], 0))
theorem c_310_37_9 {q0 : Nat} : vOkm T0 (eP e_310 L_310 A_310 mu_310 (some q0)) 4 g_310_37_9 := vOk_in fun ρ η h => by
  obtain ⟨f0, f1, f2, f3, _⟩ := h
  exact q_310_14 (q0 := q0) (n0 := ρ 20) (n1 := ρ 21) (n2 := ρ 22) (H0 := η 0) f3 f2 f1 f0
theorem q_310_15 {q0 : Nat} {n0 n1 n2 n3 n4 n5 n6 n7 n8 n9 n10 n11 n12 n13 n14 n15 n16 : Int} {H0 H1 H2 H3 : gH} (f0 : n0 = 285) (f1 : n1 = 285) (f2 : (hLe T0 H0 H1 ∧ hFr s_310.2.2.2.2 H0 H1 ∧ hWt T0 H1) ∧ (Ab_310_37 n1 n2 n3 n4 n0 n5 n6 n7 n8 H0 H1 ∧ preb_310 n1 n2 n3 n4 H0) ∧ some q0 = some (mub_310_37 n1 n2 n3 n4 n0 n5 n6 n7 n8 H0 H1)) (f3 : n9 ≤ 40) (f4 : n8 < n9) (f5 : (hLe T0 H1 H2 ∧ hFr s_250.2.2.2.2 H1 H2 ∧ ((0 : Int) = 0 → H2.length = H1.length) ∧ hWt T0 H2) ∧ postb_250 n10 n0 n11 H1 H2) (f6 : (hLe T0 H2 H3 ∧ hFr s_264.2.2.2.2 H2 H3 ∧ ((0 : Int) = 0 → H3.length = H2.length) ∧ hWt T0 H3) ∧ postb_264 n12 n0 n13 H2 H3) (f7 : n14 = hV H3 (n0).toNat 103) (f8 : n15 = 1) (f9 : n16 = w32 (n14 + n15)) : n16 ≤ 40 := by
  have g4 := f2.2.1.1
  unfold Ab_310_37 at g4
  have g3 := f2.2.1.2
  unfold preb_310 at g3
  unfold postb_250 at f5
  unfold postb_264 at f6
  have e0 : hV H3 285 103 = hV H2 285 103 := f6.1.2.1.1 285 103 (by decide +kernel)
  have e1 : hV H2 285 103 = hV H1 285 103 := f5.1.2.1.1 285 103 (by decide +kernel)
  have e2 : n14 = hV H1 285 103 := (by rw [f0] at f7; exact f7 : n14 = hV H3 285 103).trans ((e0).trans e1)
  have e3 : hV H1 285 18 = hV H0 285 18 := f2.1.2.1.1 285 18 (by decide +kernel)
  have e4 : hV H1 285 18 = hV H0 285 18 := e3
  have e5 : hV H1 285 64 = hV H0 285 64 := f2.1.2.1.1 285 64 (by decide +kernel)
  have e6 : hV H1 285 64 = hV H0 285 64 := e5
  have e7 : hV H2 285 64 = hV H1 285 64 := f5.1.2.1.1 285 64 (by decide +kernel)
  have e8 : hV H2 285 64 = hV H0 285 64 := (e7).trans e5
  have e9 : hV H3 285 64 = hV H2 285 64 := f6.1.2.1.1 285 64 (by decide +kernel)
  have e10 : hV H3 285 64 = hV H0 285 64 := (e9).trans ((e7).trans e5)
  have e11 : (0 : Int) ≤ hV H1 285 103 ∧ hV H1 285 103 ≤ 40 := f2.1.2.2 285 103 _ _ (by decide +kernel)
  have e12 : (0 : Int) ≤ hV H1 285 18 ∧ hV H1 285 18 ≤ 8 := f2.1.2.2 285 18 _ _ (by decide +kernel)
  have e13 : (0 : Int) ≤ hV H1 285 64 ∧ hV H1 285 64 ≤ 20 := f2.1.2.2 285 64 _ _ (by decide +kernel)
  have e14 : (0 : Int) ≤ hV H2 285 64 ∧ hV H2 285 64 ≤ 20 := f5.1.2.2.2 285 64 _ _ (by decide +kernel)
  have e15 : (0 : Int) ≤ hV H3 285 64 ∧ hV H3 285 64 ≤ 20 := f6.1.2.2.2 285 64 _ _ (by decide +kernel)
  try simp only [e4] at e12
  try simp only [e6] at e13
  try simp only [e8] at e14
  try simp only [e10] at e15
  try simp only [e4, e6, e8, e10]
  have k0 := g4.1
  have k1 := g4.2.1
  have k2 := g4.2.2.1
  have y0 := g4.2.2.2.1
  have y1 := g4.2.2.2.2
  have p0 := g3.1
  have p1 := g3.2.1
  have p2 := g3.2.2
  have r0_0 := f5.2
  have r1_0 := f6.2.1
  have r1_1 := f6.2.2
  try simp only [e4, e6] at y0
  try simp only [e4, e6] at y1
  try simp only [e4, e6] at p0
  try simp only [e4, e6] at p1
  try simp only [e4, e6] at p2
  try simp only [e4, e6, e8] at r0_0
  try simp only [e8, e10] at r1_1
  clear g3
  clear g4
  clear f7 e0 e1 e3 e4 e5 e6 e7 e8 e9 e10
  clear f2 f5 f6
  subst e2
  unfold w32 at *
  try (have ix0 : n16 = hV H1 285 103 + 1 := (by omega); subst ix0)
  try subst k2
  try subst k1
  try subst k0
  omega
def g_310_37_10 : vG := ([(1, [22, 20, 21], [], 0), (0, [21], [], 1), (20, [20, 4], [3], 103), (1264, [19, 4, 18], [2, 3], 0), (1250, [16, 4, 15], [1, 2], 0), (42, [8, 9], [], 0), (91, [9], [], 40), (5000, [0, 1, 2, 3, 4, 5, 6, 7, 8], [0, 1], 37), (0, [0], [], 285), (0, [4], [], 285)], (91, [22], [], 40))
theorem c_310_37_10 {q0 : Nat} : vOkm T0 (eP e_310 L_310 A_310 mu_310 (some q0)) 4 g_310_37_10 := vOk_in fun ρ η h => by
  obtain ⟨f0, f1, f2, f3, f4, f5, f6, f7, f8, f9, _⟩ := h
  exact q_310_15 (q0 := q0) (n0 := ρ 4) (n1 := ρ 0) (n2 := ρ 1) (n3 := ρ 2) (n4 := ρ 3) (n5 := ρ 5) (n6 := ρ 6) (n7 := ρ 7) (n8 := ρ 8) (n9 := ρ 9) (n10 := ρ 16) (n11 := ρ 15) (n12 := ρ 19) (n13 := ρ 18) (n14 := ρ 20) (n15 := ρ 21) (n16 := ρ 22) (H0 := η 0) (H1 := η 1) (H2 := η 2) (H3 := η 3) f9 f8 f7 f6 f5 f4 f3 f2 f1 f0
theorem q_310_16 {q0 : Nat} {n0 n1 : Int} {H0 : gH} (f0 : n0 ≤ 40) (f1 : n1 < n0) : n1 ≤ 39 := by
  omega
def g_310_37_11 : vG := ([(42, [8, 9], [], 0), (91, [9], [], 40)], (91, [8], [], 39))
theorem c_310_37_11 {q0 : Nat} : vOkm T0 (eP e_310 L_310 A_310 mu_310 (some q0)) 4 g_310_37_11 := vOk_in fun ρ η h => by
  obtain ⟨f0, f1, _⟩ := h
  exact q_310_16 (q0 := q0) (n0 := ρ 9) (n1 := ρ 8) (H0 := η 0) f1 f0
theorem q_310_17 {q0 : Nat} {n0 n1 n2 n3 n4 n5 n6 n7 n8 n9 n10 n11 n12 n13 n14 n15 n16 n17 n18 n19 n20 n21 n22 n23 n24 : Int} {H0 H1 H2 H3 H4 : gH} (f0 : n0 ≤ 40) (f1 : 0 ≤ n0) (f2 : n1 ≤ 5) (f3 : 0 ≤ n1) (f4 : n2 ≤ 2147483647) (f5 : (-2147483648) ≤ n2) (f6 : n3 ≤ 7) (f7 : 0 ≤ n3) (f8 : n4 = 285) (f9 : n5 ≤ 5) (f10 : 0 ≤ n5) (f11 : n6 ≤ 2147483647) (f12 : (-2147483648) ≤ n6) (f13 : n7 ≤ 7) (f14 : 0 ≤ n7) (f15 : n8 = 285) (f16 : (hLe T0 H0 H1 ∧ hFr s_310.2.2.2.2 H0 H1 ∧ hWt T0 H1) ∧ (Ab_310_37 n8 n7 n6 n5 n4 n3 n2 n1 n0 H0 H1 ∧ preb_310 n8 n7 n6 n5 H0) ∧ some q0 = some (mub_310_37 n8 n7 n6 n5 n4 n3 n2 n1 n0 H0 H1)) (f17 : n9 ≤ 40) (f18 : 0 ≤ n9) (f19 : n9 = hV H1 (n4).toNat 82) (f20 : n0 < n9) (f21 : n10 = 344) (f22 : n10 = hV H1 (n4).toNat 83) (f23 : n11 ≤ 1007) (f24 : 0 ≤ n11) (f25 : n11 = hV H1 (n10).toNat (n0).toNat) (f26 : n12 = 298) (f27 : n12 = hV H1 (n4).toNat 24) (f28 : n13 ≤ 5) (f29 : 0 ≤ n13) (f30 : n13 = hV H1 (n12).toNat (n11).toNat) (f31 : n13 = 0) (f32 : n14 = 300) (f33 : n14 = hV H1 (n4).toNat 26) (f34 : n15 ≤ 9999) (f35 : (-1) ≤ n15) (f36 : n15 = hV H1 (n14).toNat (n11).toNat) (f37 : n16 ≤ 1) (f38 : 0 ≤ n16) (f39 : (hLe T0 H1 H2 ∧ hFr s_250.2.2.2.2 H1 H2 ∧ ((0 : Int) = 0 → H2.length = H1.length) ∧ hWt T0 H2) ∧ postb_250 n16 n4 n15 H1 H2) (f40 : n16 ≠ 0) (f41 : n17 = 300) (f42 : n17 = hV H2 (n4).toNat 26) (f43 : n18 ≤ 9999) (f44 : (-1) ≤ n18) (f45 : n18 = hV H2 (n17).toNat (n11).toNat) (f46 : n19 ≤ 19) (f47 : 0 ≤ n19) (f48 : (hLe T0 H2 H3 ∧ hFr s_264.2.2.2.2 H2 H3 ∧ ((0 : Int) = 0 → H3.length = H2.length) ∧ hWt T0 H3) ∧ postb_264 n19 n4 n18 H2 H3) (f49 : n19 = n2) (f50 : n20 ≤ 40) (f51 : 0 ≤ n20) (f52 : n20 = hV H3 (n4).toNat 103) (f53 : n21 = 1) (f54 : n22 = w32 (n20 + n21)) (f55 : n23 = 103) (f56 : hUpd H4 H3 n4 n23 n22) (f57 : n24 = 0) : Ab_310_110 n8 n7 n6 n5 n4 n3 n2 n1 n0 n11 n24 H0 H4 ∧ ∀ q, some q0 = some q → mub_310_110 n8 n7 n6 n5 n4 n3 n2 n1 n0 n11 n24 H0 H4 < q := by
  have g4 := f16.2.1.1
  unfold Ab_310_37 at g4
  have g3 := f16.2.1.2
  unfold preb_310 at g3
  have g5 := Option.some.inj f16.2.2
  unfold mub_310_37 at g5
  unfold postb_250 at f39
  unfold postb_264 at f48
  unfold Ab_310_110
  unfold mub_310_110
  have e0 : n9 = hV H1 285 82 := (by rw [f8] at f19; exact f19 : n9 = hV H1 285 82)
  have e1 : n11 = hV H1 344 (n0).toNat := (by rw [f21] at f25; exact f25 : n11 = hV H1 344 (n0).toNat)
  have e2 : hV H1 298 = hV H0 298 := fRow f16.1.2.1 298 (by decide +kernel)
  have e3 : n13 = hV H0 298 (n11).toNat := (by rw [f26] at f30; exact f30 : n13 = hV H1 298 (n11).toNat).trans ((congrFun e2 _))
  have e4 : hV H1 300 = hV H0 300 := fRow f16.1.2.1 300 (by decide +kernel)
  have e5 : n15 = hV H0 300 (n11).toNat := (by rw [f32] at f36; exact f36 : n15 = hV H1 300 (n11).toNat).trans ((congrFun e4 _))
  have e6 : hV H2 300 = hV H1 300 := fRow f39.1.2.1 300 (by decide +kernel)
  have e7 : n18 = hV H0 300 (n11).toNat := (by rw [f41] at f45; exact f45 : n18 = hV H2 300 (n11).toNat).trans (((congrFun e6 _)).trans ((congrFun e4 _)))
  have e8 : hV H3 285 103 = hV H2 285 103 := f48.1.2.1.1 285 103 (by decide +kernel)
  have e9 : hV H2 285 103 = hV H1 285 103 := f39.1.2.1.1 285 103 (by decide +kernel)
  have e10 : n20 = hV H1 285 103 := (by rw [f8] at f52; exact f52 : n20 = hV H3 285 103).trans ((e8).trans e9)
  have e11 : hV H1 285 18 = hV H0 285 18 := f16.1.2.1.1 285 18 (by decide +kernel)
  have e12 : hV H1 285 18 = hV H0 285 18 := e11
  have e13 : hV H1 285 64 = hV H0 285 64 := f16.1.2.1.1 285 64 (by decide +kernel)
  have e14 : hV H1 285 64 = hV H0 285 64 := e13
  have e15 : hV H2 285 64 = hV H1 285 64 := f39.1.2.1.1 285 64 (by decide +kernel)
  have e16 : hV H2 285 64 = hV H0 285 64 := (e15).trans e13
  have e17 : hV H3 285 64 = hV H2 285 64 := f48.1.2.1.1 285 64 (by decide +kernel)
  have e18 : hV H3 285 64 = hV H0 285 64 := (e17).trans ((e15).trans e13)
  have e19 : hV H4 285 103 = n22 := uSame f56 _ _ f8.symm f55.symm
  have e20 : hV H4 285 103 = n22 := e19
  have e21 : hV H4 285 64 = hV H3 285 64 := uSlot f56 _ _ (iS (show n23 = ((103 : Nat) : Int) from f55) rfl)
  have e22 : hV H4 285 64 = hV H0 285 64 := (e21).trans ((e17).trans ((e15).trans e13))
  have e23 : hV H4 285 82 = hV H3 285 82 := uSlot f56 _ _ (iS (show n23 = ((103 : Nat) : Int) from f55) rfl)
  have e24 : hV H3 285 82 = hV H2 285 82 := f48.1.2.1.1 285 82 (by decide +kernel)
  have e25 : hV H2 285 82 = hV H1 285 82 := f39.1.2.1.1 285 82 (by decide +kernel)
  have e26 : hV H4 285 82 = hV H1 285 82 := (e23).trans ((e24).trans e25)
  have e27 : hV H4 298 = hV H3 298 := uRowNe f56 _ (iS (show n4 = ((285 : Nat) : Int) from f8) rfl)
  have e28 : hV H3 298 = hV H2 298 := fRow f48.1.2.1 298 (by decide +kernel)
  have e29 : hV H2 298 = hV H1 298 := fRow f39.1.2.1 298 (by decide +kernel)
  have e30 : hV H2 298 = hV H0 298 := e29.trans e2
  have e31 : hV H3 298 = hV H0 298 := e28.trans e30
  have e32 : hV H4 298 = hV H0 298 := e27.trans e31
  have e33 : hV H4 300 = hV H3 300 := uRowNe f56 _ (iS (show n4 = ((285 : Nat) : Int) from f8) rfl)
  have e34 : hV H3 300 = hV H2 300 := fRow f48.1.2.1 300 (by decide +kernel)
  have e35 : hV H2 300 = hV H0 300 := e6.trans e4
  have e36 : hV H3 300 = hV H0 300 := e34.trans e35
  have e37 : hV H4 300 = hV H0 300 := e33.trans e36
  have e38 : hV H4 344 = hV H3 344 := uRowNe f56 _ (iS (show n4 = ((285 : Nat) : Int) from f8) rfl)
  have e39 : hV H3 344 = hV H2 344 := fRow f48.1.2.1 344 (by decide +kernel)
  have e40 : hV H2 344 = hV H1 344 := fRow f39.1.2.1 344 (by decide +kernel)
  have e41 : hV H3 344 = hV H1 344 := e39.trans e40
  have e42 : hV H4 344 = hV H1 344 := e38.trans e41
  have e43 : XQ H2 = XQ H1 := XQ_fr f39.1.2.1 (by decide +kernel)
  have e44 : XQ H3 = XQ H2 := XQ_fr f48.1.2.1 (by decide +kernel)
  have e45 : XQ H3 = XQ H1 := e44.trans e43
  have e46 : XQ H4 = XQ H3 := XQ_upF f56 f8 (show n23 = ((103 : Nat) : Int) from f55) (by decide)
  have e47 : XQ H4 = XQ H1 := e46.trans e45
  have e48 : (0 : Int) ≤ hV H1 285 103 ∧ hV H1 285 103 ≤ 40 := f16.1.2.2 285 103 _ _ (by decide +kernel)
  have e49 : (0 : Int) ≤ hV H1 285 18 ∧ hV H1 285 18 ≤ 8 := f16.1.2.2 285 18 _ _ (by decide +kernel)
  have e50 : (0 : Int) ≤ hV H1 285 64 ∧ hV H1 285 64 ≤ 20 := f16.1.2.2 285 64 _ _ (by decide +kernel)
  have e51 : (0 : Int) ≤ hV H1 285 82 ∧ hV H1 285 82 ≤ 40 := f16.1.2.2 285 82 _ _ (by decide +kernel)
  have e52 : (0 : Int) ≤ hV H2 285 64 ∧ hV H2 285 64 ≤ 20 := f39.1.2.2.2 285 64 _ _ (by decide +kernel)
  have e53 : (0 : Int) ≤ hV H3 285 64 ∧ hV H3 285 64 ≤ 20 := f48.1.2.2.2 285 64 _ _ (by decide +kernel)
  try simp only [e12] at e49
  try simp only [e14] at e50
  try simp only [e16] at e52
  try simp only [e18] at e53
  try simp only [e12, e14, e16, e18, e20, e22, e26, e32, e37, e42, e47] at g5
  try simp only [e12, e14, e16, e18, e20, e22, e26, e32, e37, e42, e47]
  have k0 := g4.1
  have k1 := g4.2.1
  have k2 := g4.2.2.1
  have y0 := g4.2.2.2.1
  have y1 := g4.2.2.2.2
  have p0 := g3.1
  have p1 := g3.2.1
  have p2 := g3.2.2
  have r0_0 := f39.2
  have r1_0 := f48.2.1
  have r1_1 := f48.2.2
  try simp only [e12, e14] at y0
  try simp only [e12, e14] at y1
  try simp only [e12, e14] at p0
  try simp only [e12, e14] at p1
  try simp only [e12, e14] at p2
  try simp only [e12, e14, e16] at r0_0
  try simp only [e16, e18] at r1_1
  clear g3
  clear g4
  clear f19 f22 f25 f27 f30 f33 f36 f42 f45 f52 e2 e4 e6 e8 e9 e11 e12 e13 e14 e15 e16 e17 e18 e21 e22 e23 e24 e25 e26 e27 e28 e29 e30 e31 e32 e33 e34 e35 e36 e37 e38 e39 e40 e41 e42 e43 e44 e45 e46 e47
  clear f16 f39 f48
  subst e0
  subst e1
  subst e3
  subst e5
  subst e7
  subst e10
  unfold w32 at *
  try (have ix0 : n22 = hV H1 285 103 + 1 := (by omega); subst ix0)
  try subst k2
  try subst k1
  try subst k0
  refine ⟨?_, fun q hq => ?_⟩
  · refine ⟨?_, ?_, ?_, ?_, ?_, ?_, ?_, ?_, ?_, ?_⟩ <;> first | assumption | omega | trivial
  · have g6 := Option.some.inj hq
    subst g6
    omega
def g_310_37_12 : vG := ([(0, [24], [], 0), (80, [4, 23, 22], [4, 3], 0), (0, [23], [], 103), (1, [22, 20, 21], [], 0), (0, [21], [], 1), (20, [20, 4], [3], 103), (90, [20], [], 0), (91, [20], [], 40), (40, [19, 6], [], 0), (1264, [19, 4, 18], [2, 3], 0), (90, [19], [], 0), (91, [19], [], 19), (22, [18, 17, 11], [2], 0), (90, [18], [], -1), (91, [18], [], 9999), (20, [17, 4], [2], 26), (0, [17], [], 300), (31, [16], [], 0), (1250, [16, 4, 15], [1, 2], 0), (90, [16], [], 0), (91, [16], [], 1), (22, [15, 14, 11], [1], 0), (90, [15], [], -1), (91, [15], [], 9999), (20, [14, 4], [1], 26), (0, [14], [], 300), (30, [13], [], 0), (22, [13, 12, 11], [1], 0), (90, [13], [], 0), (91, [13], [], 5), (20, [12, 4], [1], 24), (0, [12], [], 298), (22, [11, 10, 8], [1], 0), (90, [11], [], 0), (91, [11], [], 1007), (20, [10, 4], [1], 83), (0, [10], [], 344), (42, [8, 9], [], 0), (20, [9, 4], [1], 82), (90, [9], [], 0), (91, [9], [], 40), (5000, [0, 1, 2, 3, 4, 5, 6, 7, 8], [0, 1], 37), (0, [0], [], 285), (90, [1], [], 0), (91, [1], [], 7), (90, [2], [], -2147483648), (91, [2], [], 2147483647), (90, [3], [], 0), (91, [3], [], 5), (0, [4], [], 285), (90, [5], [], 0), (91, [5], [], 7), (90, [6], [], -2147483648), (91, [6], [], 2147483647), (90, [7], [], 0), (91, [7], [], 5), (90, [8], [], 0), (91, [8], [], 40)], (4000, [4, 5, 6, 7, 8, 11, 24], [4], 110))
theorem c_310_37_12 {q0 : Nat} : vOkm T0 (eP e_310 L_310 A_310 mu_310 (some q0)) 4 g_310_37_12 := vOk_in fun ρ η h => by
  obtain ⟨f0, f1, f2, f3, f4, f5, f6, f7, f8, f9, f10, f11, f12, f13, f14, f15, f16, f17, f18, f19, f20, f21, f22, f23, f24, f25, f26, f27, f28, f29, f30, f31, f32, f33, f34, f35, f36, f37, f38, f39, f40, f41, f42, f43, f44, f45, f46, f47, f48, f49, f50, f51, f52, f53, f54, f55, f56, f57, _⟩ := h
  exact q_310_17 (q0 := q0) (n0 := ρ 8) (n1 := ρ 7) (n2 := ρ 6) (n3 := ρ 5) (n4 := ρ 4) (n5 := ρ 3) (n6 := ρ 2) (n7 := ρ 1) (n8 := ρ 0) (n9 := ρ 9) (n10 := ρ 10) (n11 := ρ 11) (n12 := ρ 12) (n13 := ρ 13) (n14 := ρ 14) (n15 := ρ 15) (n16 := ρ 16) (n17 := ρ 17) (n18 := ρ 18) (n19 := ρ 19) (n20 := ρ 20) (n21 := ρ 21) (n22 := ρ 22) (n23 := ρ 23) (n24 := ρ 24) (H0 := η 0) (H1 := η 1) (H2 := η 2) (H3 := η 3) (H4 := η 4) f57 f56 f55 f54 f53 f52 f51 f50 f49 f48 f47 f46 f45 f44 f43 f42 f41 f40 f39 f38 f37 f36 f35 f34 f33 f32 f31 f30 f29 f28 f27 f26 f25 f24 f23 f22 f21 f20 f19 f18 f17 f16 f15 f14 f13 f12 f11 f10 f9 f8 f7 f6 f5 f4 f3 f2 f1 f0
def g_310_37_13 : vG := ([(10, [20, 8], [], 1), (42, [8, 9], [], 0), (91, [9], [], 40), (90, [8], [], 0)], (90, [20], [], 0))
theorem c_310_37_13 {q0 : Nat} : vOkm T0 (eP e_310 L_310 A_310 mu_310 (some q0)) 4 g_310_37_13 := vOk_in fun ρ η h => by
  obtain ⟨f0, f1, f2, f3, _⟩ := h
  exact q_310_9 (q0 := q0) (n0 := ρ 8) (n1 := ρ 9) (n2 := ρ 20) (H0 := η 0) f3 f2 f1 f0
def g_310_37_14 : vG := ([(10, [20, 8], [], 1), (42, [8, 9], [], 0), (91, [9], [], 40), (90, [8], [], 0)], (91, [20], [], 40))
theorem c_310_37_14 {q0 : Nat} : vOkm T0 (eP e_310 L_310 A_310 mu_310 (some q0)) 4 g_310_37_14 := vOk_in fun ρ η h => by
  obtain ⟨f0, f1, f2, f3, _⟩ := h
  exact q_310_10 (q0 := q0) (n0 := ρ 8) (n1 := ρ 9) (n2 := ρ 20) (H0 := η 0) f3 f2 f1 f0
theorem q_310_18 {q0 : Nat} {n0 n1 n2 n3 n4 n5 n6 n7 n8 n9 n10 n11 n12 n13 n14 n15 n16 n17 n18 n19 n20 : Int} {H0 H1 H2 H3 : gH} (f0 : n0 ≤ 40) (f1 : 0 ≤ n0) (f2 : n1 ≤ 5) (f3 : 0 ≤ n1) (f4 : n2 ≤ 2147483647) (f5 : (-2147483648) ≤ n2) (f6 : n3 ≤ 7) (f7 : 0 ≤ n3) (f8 : n4 = 285) (f9 : n5 ≤ 5) (f10 : 0 ≤ n5) (f11 : n6 ≤ 2147483647) (f12 : (-2147483648) ≤ n6) (f13 : n7 ≤ 7) (f14 : 0 ≤ n7) (f15 : n8 = 285) (f16 : (hLe T0 H0 H1 ∧ hFr s_310.2.2.2.2 H0 H1 ∧ hWt T0 H1) ∧ (Ab_310_37 n8 n7 n6 n5 n4 n3 n2 n1 n0 H0 H1 ∧ preb_310 n8 n7 n6 n5 H0) ∧ some q0 = some (mub_310_37 n8 n7 n6 n5 n4 n3 n2 n1 n0 H0 H1)) (f17 : n9 ≤ 40) (f18 : 0 ≤ n9) (f19 : n9 = hV H1 (n4).toNat 82) (f20 : n0 < n9) (f21 : n10 = 344) (f22 : n10 = hV H1 (n4).toNat 83) (f23 : n11 ≤ 1007) (f24 : 0 ≤ n11) (f25 : n11 = hV H1 (n10).toNat (n0).toNat) (f26 : n12 = 298) (f27 : n12 = hV H1 (n4).toNat 24) (f28 : n13 ≤ 5) (f29 : 0 ≤ n13) (f30 : n13 = hV H1 (n12).toNat (n11).toNat) (f31 : n13 = 0) (f32 : n14 = 300) (f33 : n14 = hV H1 (n4).toNat 26) (f34 : n15 ≤ 9999) (f35 : (-1) ≤ n15) (f36 : n15 = hV H1 (n14).toNat (n11).toNat) (f37 : n16 ≤ 1) (f38 : 0 ≤ n16) (f39 : (hLe T0 H1 H2 ∧ hFr s_250.2.2.2.2 H1 H2 ∧ ((0 : Int) = 0 → H2.length = H1.length) ∧ hWt T0 H2) ∧ postb_250 n16 n4 n15 H1 H2) (f40 : n16 ≠ 0) (f41 : n17 = 300) (f42 : n17 = hV H2 (n4).toNat 26) (f43 : n18 ≤ 9999) (f44 : (-1) ≤ n18) (f45 : n18 = hV H2 (n17).toNat (n11).toNat) (f46 : n19 ≤ 19) (f47 : 0 ≤ n19) (f48 : (hLe T0 H2 H3 ∧ hFr s_264.2.2.2.2 H2 H3 ∧ ((0 : Int) = 0 → H3.length = H2.length) ∧ hWt T0 H3) ∧ postb_264 n19 n4 n18 H2 H3) (f49 : n19 ≠ n2) (f50 : n20 = w32 (n0 + 1)) : Ab_310_37 n8 n7 n6 n5 n4 n3 n2 n1 n20 H0 H3 ∧ ∀ q, some q0 = some q → mub_310_37 n8 n7 n6 n5 n4 n3 n2 n1 n20 H0 H3 < q := by
  have g4 := f16.2.1.1
  unfold Ab_310_37 at g4
  have g3 := f16.2.1.2
  unfold preb_310 at g3
  have g5 := Option.some.inj f16.2.2
  unfold mub_310_37 at g5
  unfold postb_250 at f39
  unfold postb_264 at f48
  unfold Ab_310_37
  unfold mub_310_37
  have e0 : n9 = hV H1 285 82 := (by rw [f8] at f19; exact f19 : n9 = hV H1 285 82)
  have e1 : n11 = hV H1 344 (n0).toNat := (by rw [f21] at f25; exact f25 : n11 = hV H1 344 (n0).toNat)
  have e2 : hV H1 298 = hV H0 298 := fRow f16.1.2.1 298 (by decide +kernel)
  have e3 : n13 = hV H0 298 (n11).toNat := (by rw [f26] at f30; exact f30 : n13 = hV H1 298 (n11).toNat).trans ((congrFun e2 _))
  have e4 : hV H1 300 = hV H0 300 := fRow f16.1.2.1 300 (by decide +kernel)
  have e5 : n15 = hV H0 300 (n11).toNat := (by rw [f32] at f36; exact f36 : n15 = hV H1 300 (n11).toNat).trans ((congrFun e4 _))
  have e6 : hV H2 300 = hV H1 300 := fRow f39.1.2.1 300 (by decide +kernel)
  have e7 : n18 = hV H0 300 (n11).toNat := (by rw [f41] at f45; exact f45 : n18 = hV H2 300 (n11).toNat).trans (((congrFun e6 _)).trans ((congrFun e4 _)))
  have e8 : hV H1 285 18 = hV H0 285 18 := f16.1.2.1.1 285 18 (by decide +kernel)
  have e9 : hV H1 285 18 = hV H0 285 18 := e8
  have e10 : hV H1 285 64 = hV H0 285 64 := f16.1.2.1.1 285 64 (by decide +kernel)
  have e11 : hV H1 285 64 = hV H0 285 64 := e10
  have e12 : hV H2 285 64 = hV H1 285 64 := f39.1.2.1.1 285 64 (by decide +kernel)
  have e13 : hV H2 285 64 = hV H0 285 64 := (e12).trans e10
  have e14 : hV H3 285 103 = hV H2 285 103 := f48.1.2.1.1 285 103 (by decide +kernel)
  have e15 : hV H2 285 103 = hV H1 285 103 := f39.1.2.1.1 285 103 (by decide +kernel)
  have e16 : hV H3 285 103 = hV H1 285 103 := (e14).trans e15
  have e17 : hV H3 285 64 = hV H2 285 64 := f48.1.2.1.1 285 64 (by decide +kernel)
  have e18 : hV H3 285 64 = hV H0 285 64 := (e17).trans ((e12).trans e10)
  have e19 : XQ H2 = XQ H1 := XQ_fr f39.1.2.1 (by decide +kernel)
  have e20 : XQ H3 = XQ H2 := XQ_fr f48.1.2.1 (by decide +kernel)
  have e21 : XQ H3 = XQ H1 := e20.trans e19
  have e22 : (0 : Int) ≤ hV H1 285 103 ∧ hV H1 285 103 ≤ 40 := f16.1.2.2 285 103 _ _ (by decide +kernel)
  have e23 : (0 : Int) ≤ hV H1 285 18 ∧ hV H1 285 18 ≤ 8 := f16.1.2.2 285 18 _ _ (by decide +kernel)
  have e24 : (0 : Int) ≤ hV H1 285 64 ∧ hV H1 285 64 ≤ 20 := f16.1.2.2 285 64 _ _ (by decide +kernel)
  have e25 : (0 : Int) ≤ hV H2 285 64 ∧ hV H2 285 64 ≤ 20 := f39.1.2.2.2 285 64 _ _ (by decide +kernel)
  have e26 : (0 : Int) ≤ hV H3 285 103 ∧ hV H3 285 103 ≤ 40 := f48.1.2.2.2 285 103 _ _ (by decide +kernel)
  have e27 : (0 : Int) ≤ hV H3 285 64 ∧ hV H3 285 64 ≤ 20 := f48.1.2.2.2 285 64 _ _ (by decide +kernel)
  try simp only [e9] at e23
  try simp only [e11] at e24
  try simp only [e13] at e25
  try simp only [e16] at e26
  try simp only [e18] at e27
  try simp only [e9, e11, e13, e16, e18, e21] at g5
  try simp only [e9, e11, e13, e16, e18, e21]
  have k0 := g4.1
  have k1 := g4.2.1
  have k2 := g4.2.2.1
  have y0 := g4.2.2.2.1
  have y1 := g4.2.2.2.2
  have p0 := g3.1
  have p1 := g3.2.1
  have p2 := g3.2.2
  have r0_0 := f39.2
  have r1_0 := f48.2.1
  have r1_1 := f48.2.2
  try simp only [e9, e11] at y0
  try simp only [e9, e11] at y1
  try simp only [e9, e11] at p0
  try simp only [e9, e11] at p1
  try simp only [e9, e11] at p2
  try simp only [e9, e11, e13] at r0_0
  try simp only [e13, e16, e18, e21] at r1_1
  clear g3
  clear g4
  clear f19 f22 f25 f27 f30 f33 f36 f42 f45 e2 e4 e6 e8 e9 e10 e11 e12 e13 e14 e15 e16 e17 e18 e19 e20 e21
  clear f16 f39 f48
  subst e0
  subst e1
  subst e3
  subst e5
  subst e7
  unfold w32 at *
  try (have ix0 : n20 = n0 + 1 := (by omega); subst ix0)
  try subst k2
  try subst k1
  try subst k0
  refine ⟨?_, fun q hq => ?_⟩
  · refine ⟨?_, ?_, ?_, ?_, ?_⟩ <;> first | assumption | omega | trivial
  · have g6 := Option.some.inj hq
    subst g6
    omega
def g_310_37_15 : vG := ([(10, [20, 8], [], 1), (41, [19, 6], [], 0), (1264, [19, 4, 18], [2, 3], 0), (90, [19], [], 0), (91, [19], [], 19), (22, [18, 17, 11], [2], 0), (90, [18], [], -1), (91, [18], [], 9999), (20, [17, 4], [2], 26), (0, [17], [], 300), (31, [16], [], 0), (1250, [16, 4, 15], [1, 2], 0), (90, [16], [], 0), (91, [16], [], 1), (22, [15, 14, 11], [1], 0), (90, [15], [], -1), (91, [15], [], 9999), (20, [14, 4], [1], 26), (0, [14], [], 300), (30, [13], [], 0), (22, [13, 12, 11], [1], 0), (90, [13], [], 0), (91, [13], [], 5), (20, [12, 4], [1], 24), (0, [12], [], 298), (22, [11, 10, 8], [1], 0), (90, [11], [], 0), (91, [11], [], 1007), (20, [10, 4], [1], 83), (0, [10], [], 344), (42, [8, 9], [], 0), (20, [9, 4], [1], 82), (90, [9], [], 0), (91, [9], [], 40), (5000, [0, 1, 2, 3, 4, 5, 6, 7, 8], [0, 1], 37), (0, [0], [], 285), (90, [1], [], 0), (91, [1], [], 7), (90, [2], [], -2147483648), (91, [2], [], 2147483647), (90, [3], [], 0), (91, [3], [], 5), (0, [4], [], 285), (90, [5], [], 0), (91, [5], [], 7), (90, [6], [], -2147483648), (91, [6], [], 2147483647), (90, [7], [], 0), (91, [7], [], 5), (90, [8], [], 0), (91, [8], [], 40)], (4000, [4, 5, 6, 7, 20], [3], 37))
theorem c_310_37_15 {q0 : Nat} : vOkm T0 (eP e_310 L_310 A_310 mu_310 (some q0)) 4 g_310_37_15 := vOk_in fun ρ η h => by
  obtain ⟨f0, f1, f2, f3, f4, f5, f6, f7, f8, f9, f10, f11, f12, f13, f14, f15, f16, f17, f18, f19, f20, f21, f22, f23, f24, f25, f26, f27, f28, f29, f30, f31, f32, f33, f34, f35, f36, f37, f38, f39, f40, f41, f42, f43, f44, f45, f46, f47, f48, f49, f50, _⟩ := h
  exact q_310_18 (q0 := q0) (n0 := ρ 8) (n1 := ρ 7) (n2 := ρ 6) (n3 := ρ 5) (n4 := ρ 4) (n5 := ρ 3) (n6 := ρ 2) (n7 := ρ 1) (n8 := ρ 0) (n9 := ρ 9) (n10 := ρ 10) (n11 := ρ 11) (n12 := ρ 12) (n13 := ρ 13) (n14 := ρ 14) (n15 := ρ 15) (n16 := ρ 16) (n17 := ρ 17) (n18 := ρ 18) (n19 := ρ 19) (n20 := ρ 20) (H0 := η 0) (H1 := η 1) (H2 := η 2) (H3 := η 3) f50 f49 f48 f47 f46 f45 f44 f43 f42 f41 f40 f39 f38 f37 f36 f35 f34 f33 f32 f31 f30 f29 f28 f27 f26 f25 f24 f23 f22 f21 f20 f19 f18 f17 f16 f15 f14 f13 f12 f11 f10 f9 f8 f7 f6 f5 f4 f3 f2 f1 f0
def p_310_37 : List vG := [g_310_37_0,
  g_310_37_1,
  g_310_37_2,
  g_310_37_3,
  g_310_37_4,
  g_310_37_5,
  g_310_37_6,
  g_310_37_7,
  g_310_37_8,
  g_310_37_9,
  g_310_37_10,
  g_310_37_11,
  g_310_37_12,
  g_310_37_13,
  g_310_37_14,
  g_310_37_15]
theorem r_310_37 : vCovO true (eRc e_310 L_310 cs_310 2000 (37, [(0, (3, 12, 285, 0)), (1, (0, 0, 7, 0)), (2, (0, -2147483648, 2147483647, 0)), (3, (0, 0, 5, 0)), (4, (0, 0, 40, 0))])) p_310_37 = true := by decide +kernel
theorem q_310_19 {q0 : Nat} {n0 n1 : Int} {H0 : gH} (f0 : n0 ≤ 39) (f1 : 0 ≤ n0) (f2 : n1 = w32 (n0 + 1)) : 0 ≤ n1 := by
  unfold w32 at *
  try (have ix0 : n1 = n0 + 1 := (by omega); subst ix0)
  omega
def g_310_110_0 : vG := ([(10, [17, 8], [], 1), (90, [8], [], 0), (91, [8], [], 39)], (90, [17], [], 0))
theorem c_310_110_0 {q0 : Nat} : vOkm T0 (eP e_310 L_310 A_310 mu_310 (some q0)) 4 g_310_110_0 := vOk_in fun ρ η h => by
  obtain ⟨f0, f1, f2, _⟩ := h
  exact q_310_19 (q0 := q0) (n0 := ρ 8) (n1 := ρ 17) (H0 := η 0) f2 f1 f0
theorem q_310_20 {q0 : Nat} {n0 n1 : Int} {H0 : gH} (f0 : n0 ≤ 39) (f1 : 0 ≤ n0) (f2 : n1 = w32 (n0 + 1)) : n1 ≤ 40 := by
  unfold w32 at *
  try (have ix0 : n1 = n0 + 1 := (by omega); subst ix0)
  omega
def g_310_110_1 : vG := ([(10, [17, 8], [], 1), (90, [8], [], 0), (91, [8], [], 39)], (91, [17], [], 40))
theorem c_310_110_1 {q0 : Nat} : vOkm T0 (eP e_310 L_310 A_310 mu_310 (some q0)) 4 g_310_110_1 := vOk_in fun ρ η h => by
  obtain ⟨f0, f1, f2, _⟩ := h
  exact q_310_20 (q0 := q0) (n0 := ρ 8) (n1 := ρ 17) (H0 := η 0) f2 f1 f0
theorem q_310_21 {q0 : Nat} {n0 n1 n2 n3 n4 n5 n6 n7 n8 n9 n10 n11 n12 n13 n14 n15 n16 n17 : Int} {H0 H1 : gH} (f0 : n0 ≤ 240) (f1 : 0 ≤ n0) (f2 : n1 ≤ 1007) (f3 : 0 ≤ n1) (f4 : n2 ≤ 39) (f5 : 0 ≤ n2) (f6 : n3 ≤ 5) (f7 : 0 ≤ n3) (f8 : n4 ≤ 2147483647) (f9 : (-2147483648) ≤ n4) (f10 : n5 ≤ 7) (f11 : 0 ≤ n5) (f12 : n6 = 285) (f13 : n7 ≤ 5) (f14 : 0 ≤ n7) (f15 : n8 ≤ 2147483647) (f16 : (-2147483648) ≤ n8) (f17 : n9 ≤ 7) (f18 : 0 ≤ n9) (f19 : n10 = 285) (f20 : (hLe T0 H0 H1 ∧ hFr s_310.2.2.2.2 H0 H1 ∧ hWt T0 H1) ∧ (Ab_310_110 n10 n9 n8 n7 n6 n5 n4 n3 n2 n1 n0 H0 H1 ∧ preb_310 n10 n9 n8 n7 H0) ∧ some q0 = some (mub_310_110 n10 n9 n8 n7 n6 n5 n4 n3 n2 n1 n0 H0 H1)) (f21 : n11 = 4) (f22 : n12 = 325) (f23 : n12 = hV H1 (n6).toNat 61) (f24 : n13 = 293) (f25 : n13 = hV H1 (n6).toNat 19) (f26 : n14 ≤ 5) (f27 : 0 ≤ n14) (f28 : n14 = hV H1 (n13).toNat (n5).toNat) (f29 : n15 ≤ 60) (f30 : 0 ≤ n15) (f31 : n15 = hV H1 (n12).toNat (n14).toNat) (f32 : n16 = w32 (n11 * n15)) (f33 : n16 ≤ n0) (f34 : n17 = w32 (n2 + 1)) : Ab_310_37 n10 n9 n8 n7 n6 n5 n4 n3 n17 H0 H1 ∧ ∀ q, some q0 = some q → mub_310_37 n10 n9 n8 n7 n6 n5 n4 n3 n17 H0 H1 < q := by
  have g4 := f20.2.1.1
  unfold Ab_310_110 at g4
  have g3 := f20.2.1.2
  unfold preb_310 at g3
  have g5 := Option.some.inj f20.2.2
  unfold mub_310_110 at g5
  unfold Ab_310_37
  unfold mub_310_37
  have e0 : hV H1 293 = hV H0 293 := fRow f20.1.2.1 293 (by decide +kernel)
  have e1 : n14 = hV H0 293 (n5).toNat := (by rw [f24] at f28; exact f28 : n14 = hV H1 293 (n5).toNat).trans ((congrFun e0 _))
  have e2 : hV H1 325 = hV H0 325 := fRow f20.1.2.1 325 (by decide +kernel)
  have e3 : n15 = hV H0 325 (n14).toNat := (by rw [f22] at f31; exact f31 : n15 = hV H1 325 (n14).toNat).trans ((congrFun e2 _))
  have e4 : hV H1 285 18 = hV H0 285 18 := f20.1.2.1.1 285 18 (by decide +kernel)
  have e5 : hV H1 285 18 = hV H0 285 18 := e4
  have e6 : hV H1 285 64 = hV H0 285 64 := f20.1.2.1.1 285 64 (by decide +kernel)
  have e7 : hV H1 285 64 = hV H0 285 64 := e6
  have e8 : hV H1 298 = hV H0 298 := fRow f20.1.2.1 298 (by decide +kernel)
  have e9 : hV H1 300 = hV H0 300 := fRow f20.1.2.1 300 (by decide +kernel)
  have e10 : (0 : Int) ≤ hV H1 285 103 ∧ hV H1 285 103 ≤ 40 := f20.1.2.2 285 103 _ _ (by decide +kernel)
  have e11 : (0 : Int) ≤ hV H1 285 18 ∧ hV H1 285 18 ≤ 8 := f20.1.2.2 285 18 _ _ (by decide +kernel)
  have e12 : (0 : Int) ≤ hV H1 285 64 ∧ hV H1 285 64 ≤ 20 := f20.1.2.2 285 64 _ _ (by decide +kernel)
  have e13 : (0 : Int) ≤ hV H1 285 82 ∧ hV H1 285 82 ≤ 40 := f20.1.2.2 285 82 _ _ (by decide +kernel)
  try simp only [e5] at e11
  try simp only [e7] at e12
  try simp only [e5, e7, e8, e9] at g5
  try simp only [e5, e7, e8, e9]
  have k0 := g4.1
  have k1 := g4.2.1
  have k2 := g4.2.2.1
  have y0 := g4.2.2.2.1
  have y1 := g4.2.2.2.2.1
  have y2 := g4.2.2.2.2.2.1
  have y3 := g4.2.2.2.2.2.2.1
  have y4 := g4.2.2.2.2.2.2.2.1
  have y5 := g4.2.2.2.2.2.2.2.2.1
  have y6 := g4.2.2.2.2.2.2.2.2.2
  have p0 := g3.1
  have p1 := g3.2.1
  have p2 := g3.2.2
  try simp only [e5, e7, e8, e9] at y0
  try simp only [e5, e7, e8, e9] at y1
  try simp only [e5, e7, e8, e9] at y2
  try simp only [e5, e7, e8, e9] at y3
  try simp only [e5, e7, e8, e9] at y4
  try simp only [e5, e7, e8, e9] at y5
  try simp only [e5, e7, e8, e9] at y6
  try simp only [e5, e7, e8, e9] at p0
  try simp only [e5, e7, e8, e9] at p1
  try simp only [e5, e7, e8, e9] at p2
  clear g3
  clear g4
  clear f23 f25 f28 f31 e0 e2 e4 e5 e6 e7 e8 e9
  clear f20
  subst e1
  subst e3
  rw [f21] at f32
  unfold w32 at *
  try (have ix0 : n17 = n2 + 1 := (by omega); subst ix0)
  try subst k2
  try subst k1
  try subst k0
  subst y0
  refine ⟨?_, fun q hq => ?_⟩
  · refine ⟨?_, ?_, ?_, ?_, ?_⟩ <;> first | assumption | omega | trivial
  · have g6 := Option.some.inj hq
    subst g6
    omega
def g_310_110_2 : vG := ([(10, [17, 8], [], 1), (43, [10, 16], [], 0), (3, [16, 11, 15], [], 0), (22, [15, 12, 14], [1], 0), (90, [15], [], 0), (91, [15], [], 60), (22, [14, 13, 5], [1], 0), (90, [14], [], 0), (91, [14], [], 5), (20, [13, 4], [1], 19), (0, [13], [], 293), (20, [12, 4], [1], 61), (0, [12], [], 325), (0, [11], [], 4), (5000, [0, 1, 2, 3, 4, 5, 6, 7, 8, 9, 10], [0, 1], 110), (0, [0], [], 285), (90, [1], [], 0), (91, [1], [], 7), (90, [2], [], -2147483648), (91, [2], [], 2147483647), (90, [3], [], 0), (91, [3], [], 5), (0, [4], [], 285), (90, [5], [], 0), (91, [5], [], 7), (90, [6], [], -2147483648), (91, [6], [], 2147483647), (90, [7], [], 0), (91, [7], [], 5), (90, [8], [], 0), (91, [8], [], 39), (90, [9], [], 0), (91, [9], [], 1007), (90, [10], [], 0), (91, [10], [], 240)], (4000, [4, 5, 6, 7, 17], [1], 37))
theorem c_310_110_2 {q0 : Nat} : vOkm T0 (eP e_310 L_310 A_310 mu_310 (some q0)) 4 g_310_110_2 := vOk_in fun ρ η h => by
  obtain ⟨f0, f1, f2, f3, f4, f5, f6, f7, f8, f9, f10, f11, f12, f13, f14, f15, f16, f17, f18, f19, f20, f21, f22, f23, f24, f25, f26, f27, f28, f29, f30, f31, f32, f33, f34, _⟩ := h
  exact q_310_21 (q0 := q0) (n0 := ρ 10) (n1 := ρ 9) (n2 := ρ 8) (n3 := ρ 7) (n4 := ρ 6) (n5 := ρ 5) (n6 := ρ 4) (n7 := ρ 3) (n8 := ρ 2) (n9 := ρ 1) (n10 := ρ 0) (n11 := ρ 11) (n12 := ρ 12) (n13 := ρ 13) (n14 := ρ 14) (n15 := ρ 15) (n16 := ρ 16) (n17 := ρ 17) (H0 := η 0) (H1 := η 1) f34 f33 f32 f31 f30 f29 f28 f27 f26 f25 f24 f23 f22 f21 f20 f19 f18 f17 f16 f15 f14 f13 f12 f11 f10 f9 f8 f7 f6 f5 f4 f3 f2 f1 f0
theorem q_310_22 {q0 : Nat} {n0 n1 n2 n3 n4 n5 n6 n7 n8 n9 n10 n11 n12 n13 n14 n15 n16 : Int} {H0 H1 : gH} (f0 : n0 ≤ 240) (f1 : 0 ≤ n0) (f2 : n1 ≤ 1007) (f3 : 0 ≤ n1) (f4 : n2 ≤ 39) (f5 : 0 ≤ n2) (f6 : n3 ≤ 5) (f7 : 0 ≤ n3) (f8 : n4 ≤ 2147483647) (f9 : (-2147483648) ≤ n4) (f10 : n5 ≤ 7) (f11 : 0 ≤ n5) (f12 : n6 = 285) (f13 : n7 ≤ 5) (f14 : 0 ≤ n7) (f15 : n8 ≤ 2147483647) (f16 : (-2147483648) ≤ n8) (f17 : n9 ≤ 7) (f18 : 0 ≤ n9) (f19 : n10 = 285) (f20 : (hLe T0 H0 H1 ∧ hFr s_310.2.2.2.2 H0 H1 ∧ hWt T0 H1) ∧ (Ab_310_110 n10 n9 n8 n7 n6 n5 n4 n3 n2 n1 n0 H0 H1 ∧ preb_310 n10 n9 n8 n7 H0) ∧ some q0 = some (mub_310_110 n10 n9 n8 n7 n6 n5 n4 n3 n2 n1 n0 H0 H1)) (f21 : n11 = 4) (f22 : n12 = 325) (f23 : n12 = hV H1 (n6).toNat 61) (f24 : n13 = 293) (f25 : n13 = hV H1 (n6).toNat 19) (f26 : n14 ≤ 5) (f27 : 0 ≤ n14) (f28 : n14 = hV H1 (n13).toNat (n5).toNat) (f29 : n15 ≤ 60) (f30 : 0 ≤ n15) (f31 : n15 = hV H1 (n12).toNat (n14).toNat) (f32 : n16 = w32 (n11 * n15)) (f33 : n0 < n16) : preb_273 n6 n2 n0 H1 := by
  have g4 := f20.2.1.1
  unfold Ab_310_110 at g4
  have g3 := f20.2.1.2
  unfold preb_310 at g3
  unfold preb_273
  have e0 : hV H1 293 = hV H0 293 := fRow f20.1.2.1 293 (by decide +kernel)
  have e1 : n14 = hV H0 293 (n5).toNat := (by rw [f24] at f28; exact f28 : n14 = hV H1 293 (n5).toNat).trans ((congrFun e0 _))
  have e2 : hV H1 325 = hV H0 325 := fRow f20.1.2.1 325 (by decide +kernel)
  have e3 : n15 = hV H0 325 (n14).toNat := (by rw [f22] at f31; exact f31 : n15 = hV H1 325 (n14).toNat).trans ((congrFun e2 _))
  have e4 : hV H1 285 18 = hV H0 285 18 := f20.1.2.1.1 285 18 (by decide +kernel)
  have e5 : hV H1 285 18 = hV H0 285 18 := e4
  have e6 : hV H1 285 64 = hV H0 285 64 := f20.1.2.1.1 285 64 (by decide +kernel)
  have e7 : hV H1 285 64 = hV H0 285 64 := e6
  have e8 : hV H1 298 = hV H0 298 := fRow f20.1.2.1 298 (by decide +kernel)
  have e9 : hV H1 300 = hV H0 300 := fRow f20.1.2.1 300 (by decide +kernel)
  have e10 : SO H1 = SO H0 := SO_fr f20.1.2.1 (by decide +kernel)
  have e11 : (0 : Int) ≤ hV H1 285 103 ∧ hV H1 285 103 ≤ 40 := f20.1.2.2 285 103 _ _ (by decide +kernel)
  have e12 : (0 : Int) ≤ hV H1 285 18 ∧ hV H1 285 18 ≤ 8 := f20.1.2.2 285 18 _ _ (by decide +kernel)
  have e13 : (0 : Int) ≤ hV H1 285 64 ∧ hV H1 285 64 ≤ 20 := f20.1.2.2 285 64 _ _ (by decide +kernel)
  have e14 : (0 : Int) ≤ hV H1 285 82 ∧ hV H1 285 82 ≤ 40 := f20.1.2.2 285 82 _ _ (by decide +kernel)
  try simp only [e5] at e12
  try simp only [e7] at e13
  try simp only [e5, e7, e8, e9, e10]
  have k0 := g4.1
  have k1 := g4.2.1
  have k2 := g4.2.2.1
  have y0 := g4.2.2.2.1
  have y1 := g4.2.2.2.2.1
  have y2 := g4.2.2.2.2.2.1
  have y3 := g4.2.2.2.2.2.2.1
  have y4 := g4.2.2.2.2.2.2.2.1
  have y5 := g4.2.2.2.2.2.2.2.2.1
  have y6 := g4.2.2.2.2.2.2.2.2.2
  have p0 := g3.1
  have p1 := g3.2.1
  have p2 := g3.2.2
  try simp only [e5, e7, e8, e9, e10] at y0
  try simp only [e5, e7, e8, e9, e10] at y1
  try simp only [e5, e7, e8, e9, e10] at y2
  try simp only [e5, e7, e8, e9, e10] at y3
  try simp only [e5, e7, e8, e9, e10] at y4
  try simp only [e5, e7, e8, e9, e10] at y5
  try simp only [e5, e7, e8, e9, e10] at y6
  try simp only [e5, e7, e8, e9, e10] at p0
  try simp only [e5, e7, e8, e9, e10] at p1
  try simp only [e5, e7, e8, e9, e10] at p2
  clear g3
  clear g4
  clear f23 f25 f28 f31 e0 e2 e4 e5 e6 e7 e8 e9 e10
  clear f20
  subst e1
  subst e3
  rw [f21] at f32
  unfold w32 at *
  try subst k2
  try subst k1
  try subst k0
  subst y0
  refine ⟨?_, ?_, ?_, ?_⟩ <;> first | assumption | omega | trivial
def g_310_110_3 : vG := ([(42, [10, 16], [], 0), (3, [16, 11, 15], [], 0), (22, [15, 12, 14], [1], 0), (90, [15], [], 0), (91, [15], [], 60), (22, [14, 13, 5], [1], 0), (90, [14], [], 0), (91, [14], [], 5), (20, [13, 4], [1], 19), (0, [13], [], 293), (20, [12, 4], [1], 61), (0, [12], [], 325), (0, [11], [], 4), (5000, [0, 1, 2, 3, 4, 5, 6, 7, 8, 9, 10], [0, 1], 110), (0, [0], [], 285), (90, [1], [], 0), (91, [1], [], 7), (90, [2], [], -2147483648), (91, [2], [], 2147483647), (90, [3], [], 0), (91, [3], [], 5), (0, [4], [], 285), (90, [5], [], 0), (91, [5], [], 7), (90, [6], [], -2147483648), (91, [6], [], 2147483647), (90, [7], [], 0), (91, [7], [], 5), (90, [8], [], 0), (91, [8], [], 39), (90, [9], [], 0), (91, [9], [], 1007), (90, [10], [], 0), (91, [10], [], 240)], (2273, [4, 8, 10], [1], 0))
theorem c_310_110_3 {q0 : Nat} : vOkm T0 (eP e_310 L_310 A_310 mu_310 (some q0)) 4 g_310_110_3 := vOk_in fun ρ η h => by
  obtain ⟨f0, f1, f2, f3, f4, f5, f6, f7, f8, f9, f10, f11, f12, f13, f14, f15, f16, f17, f18, f19, f20, f21, f22, f23, f24, f25, f26, f27, f28, f29, f30, f31, f32, f33, _⟩ := h
  exact q_310_22 (q0 := q0) (n0 := ρ 10) (n1 := ρ 9) (n2 := ρ 8) (n3 := ρ 7) (n4 := ρ 6) (n5 := ρ 5) (n6 := ρ 4) (n7 := ρ 3) (n8 := ρ 2) (n9 := ρ 1) (n10 := ρ 0) (n11 := ρ 11) (n12 := ρ 12) (n13 := ρ 13) (n14 := ρ 14) (n15 := ρ 15) (n16 := ρ 16) (H0 := η 0) (H1 := η 1) f33 f32 f31 f30 f29 f28 f27 f26 f25 f24 f23 f22 f21 f20 f19 f18 f17 f16 f15 f14 f13 f12 f11 f10 f9 f8 f7 f6 f5 f4 f3 f2 f1 f0
theorem q_310_23 {q0 : Nat} {n0 n1 n2 n3 n4 : Int} {H0 : gH} (f0 : 0 ≤ n0) (f1 : n1 = 4) (f2 : n2 ≤ 60) (f3 : n3 = w32 (n1 * n2)) (f4 : n0 < n3) (f5 : n4 = w32 (n0 + 1)) : 0 ≤ n4 := by
  rw [f1] at f3
  unfold w32 at *
  try (have ix0 : n4 = n0 + 1 := (by omega); subst ix0)
  omega
def g_310_110_4 : vG := ([(10, [18, 10], [], 1), (42, [10, 16], [], 0), (3, [16, 11, 15], [], 0), (91, [15], [], 60), (0, [11], [], 4), (90, [10], [], 0)], (90, [18], [], 0))
theorem c_310_110_4 {q0 : Nat} : vOkm T0 (eP e_310 L_310 A_310 mu_310 (some q0)) 4 g_310_110_4 := vOk_in fun ρ η h => by
  obtain ⟨f0, f1, f2, f3, f4, f5, _⟩ := h
  exact q_310_23 (q0 := q0) (n0 := ρ 10) (n1 := ρ 11) (n2 := ρ 15) (n3 := ρ 16) (n4 := ρ 18) (H0 := η 0) f5 f4 f3 f2 f1 f0
theorem q_310_24 {q0 : Nat} {n0 n1 n2 n3 n4 : Int} {H0 : gH} (f0 : 0 ≤ n0) (f1 : n1 = 4) (f2 : n2 ≤ 60) (f3 : n3 = w32 (n1 * n2)) (f4 : n0 < n3) (f5 : n4 = w32 (n0 + 1)) : n4 ≤ 240 := by
  rw [f1] at f3
  unfold w32 at *
  try (have ix0 : n4 = n0 + 1 := (by omega); subst ix0)
  omega
def g_310_110_5 : vG := ([(10, [18, 10], [], 1), (42, [10, 16], [], 0), (3, [16, 11, 15], [], 0), (91, [15], [], 60), (0, [11], [], 4), (90, [10], [], 0)], (91, [18], [], 240))
theorem c_310_110_5 {q0 : Nat} : vOkm T0 (eP e_310 L_310 A_310 mu_310 (some q0)) 4 g_310_110_5 := vOk_in fun ρ η h => by
  obtain ⟨f0, f1, f2, f3, f4, f5, _⟩ := h
  exact q_310_24 (q0 := q0) (n0 := ρ 10) (n1 := ρ 11) (n2 := ρ 15) (n3 := ρ 16) (n4 := ρ 18) (H0 := η 0) f5 f4 f3 f2 f1 f0
theorem q_310_25 {q0 : Nat} {n0 n1 n2 n3 n4 n5 n6 n7 n8 n9 n10 n11 n12 n13 n14 n15 n16 n17 n18 : Int} {H0 H1 H2 : gH} (f0 : n0 ≤ 240) (f1 : 0 ≤ n0) (f2 : n1 ≤ 1007) (f3 : 0 ≤ n1) (f4 : n2 ≤ 39) (f5 : 0 ≤ n2) (f6 : n3 ≤ 5) (f7 : 0 ≤ n3) (f8 : n4 ≤ 2147483647) (f9 : (-2147483648) ≤ n4) (f10 : n5 ≤ 7) (f11 : 0 ≤ n5) (f12 : n6 = 285) (f13 : n7 ≤ 5) (f14 : 0 ≤ n7) (f15 : n8 ≤ 2147483647) (f16 : (-2147483648) ≤ n8) (f17 : n9 ≤ 7) (f18 : 0 ≤ n9) (f19 : n10 = 285) (f20 : (hLe T0 H0 H1 ∧ hFr s_310.2.2.2.2 H0 H1 ∧ hWt T0 H1) ∧ (Ab_310_110 n10 n9 n8 n7 n6 n5 n4 n3 n2 n1 n0 H0 H1 ∧ preb_310 n10 n9 n8 n7 H0) ∧ some q0 = some (mub_310_110 n10 n9 n8 n7 n6 n5 n4 n3 n2 n1 n0 H0 H1)) (f21 : n11 = 4) (f22 : n12 = 325) (f23 : n12 = hV H1 (n6).toNat 61) (f24 : n13 = 293) (f25 : n13 = hV H1 (n6).toNat 19) (f26 : n14 ≤ 5) (f27 : 0 ≤ n14) (f28 : n14 = hV H1 (n13).toNat (n5).toNat) (f29 : n15 ≤ 60) (f30 : 0 ≤ n15) (f31 : n15 = hV H1 (n12).toNat (n14).toNat) (f32 : n16 = w32 (n11 * n15)) (f33 : n0 < n16) (f34 : n17 ≤ 1) (f35 : 0 ≤ n17) (f36 : (hLe T0 H1 H2 ∧ hFr s_273.2.2.2.2 H1 H2 ∧ ((0 : Int) = 0 → H2.length = H1.length) ∧ hWt T0 H2) ∧ postb_273 n17 n6 n2 n0 H1 H2) (f37 : n17 = 0) (f38 : n18 = w32 (n0 + 1)) : Ab_310_110 n10 n9 n8 n7 n6 n5 n4 n3 n2 n1 n18 H0 H2 ∧ ∀ q, some q0 = some q → mub_310_110 n10 n9 n8 n7 n6 n5 n4 n3 n2 n1 n18 H0 H2 < q := by
  have g4 := f20.2.1.1
  unfold Ab_310_110 at g4
  have g3 := f20.2.1.2
  unfold preb_310 at g3
  have g5 := Option.some.inj f20.2.2
  unfold mub_310_110 at g5
  unfold postb_273 at f36
  unfold Ab_310_110
  unfold mub_310_110
  have e0 : hV H1 293 = hV H0 293 := fRow f20.1.2.1 293 (by decide +kernel)
  have e1 : n14 = hV H0 293 (n5).toNat := (by rw [f24] at f28; exact f28 : n14 = hV H1 293 (n5).toNat).trans ((congrFun e0 _))
  have e2 : hV H1 325 = hV H0 325 := fRow f20.1.2.1 325 (by decide +kernel)
  have e3 : n15 = hV H0 325 (n14).toNat := (by rw [f22] at f31; exact f31 : n15 = hV H1 325 (n14).toNat).trans ((congrFun e2 _))
  have e4 : hV H1 285 18 = hV H0 285 18 := f20.1.2.1.1 285 18 (by decide +kernel)
  have e5 : hV H1 285 18 = hV H0 285 18 := e4
  have e6 : hV H1 285 64 = hV H0 285 64 := f20.1.2.1.1 285 64 (by decide +kernel)
  have e7 : hV H1 285 64 = hV H0 285 64 := e6
  have e8 : hV H1 298 = hV H0 298 := fRow f20.1.2.1 298 (by decide +kernel)
  have e9 : hV H1 300 = hV H0 300 := fRow f20.1.2.1 300 (by decide +kernel)
  have e10 : hV H2 285 103 = hV H1 285 103 := f36.1.2.1.1 285 103 (by decide +kernel)
  have e11 : hV H2 285 103 = hV H1 285 103 := e10
  have e12 : hV H2 285 64 = hV H1 285 64 := f36.1.2.1.1 285 64 (by decide +kernel)
  have e13 : hV H2 285 64 = hV H0 285 64 := (e12).trans e6
  have e14 : hV H2 285 82 = hV H1 285 82 := f36.1.2.1.1 285 82 (by decide +kernel)
  have e15 : hV H2 285 82 = hV H1 285 82 := e14
  have e16 : hV H2 298 = hV H1 298 := fRow f36.1.2.1 298 (by decide +kernel)
  have e17 : hV H2 298 = hV H0 298 := e16.trans e8
  have e18 : hV H2 300 = hV H1 300 := fRow f36.1.2.1 300 (by decide +kernel)
  have e19 : hV H2 300 = hV H0 300 := e18.trans e9
  have e20 : hV H2 344 = hV H1 344 := fRow f36.1.2.1 344 (by decide +kernel)
  have e21 : XQ H2 = XQ H1 := XQ_fr f36.1.2.1 (by decide +kernel)
  have e22 : (0 : Int) ≤ hV H1 285 103 ∧ hV H1 285 103 ≤ 40 := f20.1.2.2 285 103 _ _ (by decide +kernel)
  have e23 : (0 : Int) ≤ hV H1 285 18 ∧ hV H1 285 18 ≤ 8 := f20.1.2.2 285 18 _ _ (by decide +kernel)
  have e24 : (0 : Int) ≤ hV H1 285 64 ∧ hV H1 285 64 ≤ 20 := f20.1.2.2 285 64 _ _ (by decide +kernel)
  have e25 : (0 : Int) ≤ hV H1 285 82 ∧ hV H1 285 82 ≤ 40 := f20.1.2.2 285 82 _ _ (by decide +kernel)
  have e26 : (0 : Int) ≤ hV H2 285 103 ∧ hV H2 285 103 ≤ 40 := f36.1.2.2.2 285 103 _ _ (by decide +kernel)
  have e27 : (0 : Int) ≤ hV H2 285 64 ∧ hV H2 285 64 ≤ 20 := f36.1.2.2.2 285 64 _ _ (by decide +kernel)
  have e28 : (0 : Int) ≤ hV H2 285 82 ∧ hV H2 285 82 ≤ 40 := f36.1.2.2.2 285 82 _ _ (by decide +kernel)
  try simp only [e5] at e23
  try simp only [e7] at e24
  try simp only [e11] at e26
  try simp only [e13] at e27
  try simp only [e15] at e28
  try simp only [e5, e7, e8, e9, e11, e13, e15, e17, e19, e20, e21] at g5
  try simp only [e5, e7, e8, e9, e11, e13, e15, e17, e19, e20, e21]
  have k0 := g4.1
  have k1 := g4.2.1
  have k2 := g4.2.2.1
  have y0 := g4.2.2.2.1
  have y1 := g4.2.2.2.2.1
  have y2 := g4.2.2.2.2.2.1
  have y3 := g4.2.2.2.2.2.2.1
  have y4 := g4.2.2.2.2.2.2.2.1
  have y5 := g4.2.2.2.2.2.2.2.2.1
  have y6 := g4.2.2.2.2.2.2.2.2.2
  have p0 := g3.1
  have p1 := g3.2.1
  have p2 := g3.2.2
  have r0_0 := f36.2
  try simp only [e5, e7, e8, e9] at y0
  try simp only [e5, e7, e8, e9] at y1
  try simp only [e5, e7, e8, e9] at y2
  try simp only [e5, e7, e8, e9] at y3
  try simp only [e5, e7, e8, e9] at y4
  try simp only [e5, e7, e8, e9] at y5
  try simp only [e5, e7, e8, e9] at y6
  try simp only [e5, e7, e8, e9] at p0
  try simp only [e5, e7, e8, e9] at p1
  try simp only [e5, e7, e8, e9] at p2
  try simp only [e5, e7, e8, e9, e11, e13, e15, e17, e19, e20, e21] at r0_0
  clear g3
  clear g4
  clear f23 f25 f28 f31 e0 e2 e4 e5 e6 e7 e8 e9 e10 e11 e12 e13 e14 e15 e16 e17 e18 e19 e20 e21
  clear f20 f36
  subst e1
  subst e3
  rw [f21] at f32
  unfold w32 at *
  try (have ix0 : n18 = n0 + 1 := (by omega); subst ix0)
  try subst k2
  try subst k1
  try subst k0
  subst y0
  refine ⟨?_, fun q hq => ?_⟩
  · refine ⟨?_, ?_, ?_, ?_, ?_, ?_, ?_, ?_, ?_, ?_⟩ <;> first | assumption | omega | trivial
  · have g6 := Option.some.inj hq
    subst g6
    omega
def g_310_110_6 : vG := ([(10, [18, 10], [], 1), (30, [17], [], 0), (1273, [17, 4, 8, 10], [1, 2], 0), (90, [17], [], 0), (91, [17], [], 1), (42, [10, 16], [], 0), (3, [16, 11, 15], [], 0), (22, [15, 12, 14], [1], 0), (90, [15], [], 0), (91, [15], [], 60), (22, [14, 13, 5], [1], 0), (90, [14], [], 0), (91, [14], [], 5), (20, [13, 4], [1], 19), (0, [13], [], 293), (20, [12, 4], [1], 61), (0, [12], [], 325), (0, [11], [], 4), (5000, [0, 1, 2, 3, 4, 5, 6, 7, 8, 9, 10], [0, 1], 110), (0, [0], [], 285), (90, [1], [], 0), (91, [1], [], 7), (90, [2], [], -2147483648), (91, [2], [], 2147483647), (90, [3], [], 0), (91, [3], [], 5), (0, [4], [], 285), (90, [5], [], 0), (91, [5], [], 7), (90, [6], [], -2147483648), (91, [6], [], 2147483647), (90, [7], [], 0), (91, [7], [], 5), (90, [8], [], 0), (91, [8], [], 39), (90, [9], [], 0), (91, [9], [], 1007), (90, [10], [], 0), (91, [10], [], 240)], (4000, [4, 5, 6, 7, 8, 9, 18], [2], 110))
theorem c_310_110_6 {q0 : Nat} : vOkm T0 (eP e_310 L_310 A_310 mu_310 (some q0)) 4 g_310_110_6 := vOk_in fun ρ η h => by
  obtain ⟨f0, f1, f2, f3, f4, f5, f6, f7, f8, f9, f10, f11, f12, f13, f14, f15, f16, f17, f18, f19, f20, f21, f22, f23, f24, f25, f26, f27, f28, f29, f30, f31, f32, f33, f34, f35, f36, f37, f38, _⟩ := h
  exact q_310_25 (q0 := q0) (n0 := ρ 10) (n1 := ρ 9) (n2 := ρ 8) (n3 := ρ 7) (n4 := ρ 6) (n5 := ρ 5) (n6 := ρ 4) (n7 := ρ 3) (n8 := ρ 2) (n9 := ρ 1) (n10 := ρ 0) (n11 := ρ 11) (n12 := ρ 12) (n13 := ρ 13) (n14 := ρ 14) (n15 := ρ 15) (n16 := ρ 16) (n17 := ρ 17) (n18 := ρ 18) (H0 := η 0) (H1 := η 1) (H2 := η 2) f38 f37 f36 f35 f34 f33 f32 f31 f30 f29 f28 f27 f26 f25 f24 f23 f22 f21 f20 f19 f18 f17 f16 f15 f14 f13 f12 f11 f10 f9 f8 f7 f6 f5 f4 f3 f2 f1 f0
theorem q_310_26 {q0 : Nat} {n0 n1 n2 n3 n4 n5 n6 n7 n8 n9 n10 n11 n12 n13 : Int} {H0 H1 H2 : gH} (f0 : n0 = 285) (f1 : n1 = 285) (f2 : (hLe T0 H0 H1 ∧ hFr s_310.2.2.2.2 H0 H1 ∧ hWt T0 H1) ∧ (Ab_310_110 n1 n2 n3 n4 n0 n5 n6 n7 n8 n9 n10 H0 H1 ∧ preb_310 n1 n2 n3 n4 H0) ∧ some q0 = some (mub_310_110 n1 n2 n3 n4 n0 n5 n6 n7 n8 n9 n10 H0 H1)) (f3 : (hLe T0 H1 H2 ∧ hFr s_273.2.2.2.2 H1 H2 ∧ ((0 : Int) = 0 → H2.length = H1.length) ∧ hWt T0 H2) ∧ postb_273 n11 n0 n8 n10 H1 H2) (f4 : n12 = 300) (f5 : n13 = hV H2 (n12).toNat (n9).toNat) : 0 ≤ n13 := by
  have g4 := f2.2.1.1
  unfold Ab_310_110 at g4
  have g3 := f2.2.1.2
  unfold preb_310 at g3
  unfold postb_273 at f3
  have e0 : hV H2 300 = hV H1 300 := fRow f3.1.2.1 300 (by decide +kernel)
  have e1 : hV H1 300 = hV H0 300 := fRow f2.1.2.1 300 (by decide +kernel)
  have e2 : n13 = hV H0 300 (n9).toNat := (by rw [f4] at f5; exact f5 : n13 = hV H2 300 (n9).toNat).trans (((congrFun e0 _)).trans ((congrFun e1 _)))
  have e3 : hV H1 285 18 = hV H0 285 18 := f2.1.2.1.1 285 18 (by decide +kernel)
  have e4 : hV H1 285 18 = hV H0 285 18 := e3
  have e5 : hV H1 285 64 = hV H0 285 64 := f2.1.2.1.1 285 64 (by decide +kernel)
  have e6 : hV H1 285 64 = hV H0 285 64 := e5
  have e7 : hV H1 298 = hV H0 298 := fRow f2.1.2.1 298 (by decide +kernel)
  have e8 : hV H2 285 64 = hV H1 285 64 := f3.1.2.1.1 285 64 (by decide +kernel)
  have e9 : hV H2 285 64 = hV H0 285 64 := (e8).trans e5
  have e10 : hV H2 300 = hV H0 300 := e0.trans e1
  have e11 : hV H2 344 = hV H1 344 := fRow f3.1.2.1 344 (by decide +kernel)
  have e12 : (0 : Int) ≤ hV H1 285 103 ∧ hV H1 285 103 ≤ 40 := f2.1.2.2 285 103 _ _ (by decide +kernel)
  have e13 : (0 : Int) ≤ hV H1 285 18 ∧ hV H1 285 18 ≤ 8 := f2.1.2.2 285 18 _ _ (by decide +kernel)
  have e14 : (0 : Int) ≤ hV H1 285 64 ∧ hV H1 285 64 ≤ 20 := f2.1.2.2 285 64 _ _ (by decide +kernel)
  have e15 : (0 : Int) ≤ hV H1 285 82 ∧ hV H1 285 82 ≤ 40 := f2.1.2.2 285 82 _ _ (by decide +kernel)
  have e16 : (0 : Int) ≤ hV H2 285 64 ∧ hV H2 285 64 ≤ 20 := f3.1.2.2.2 285 64 _ _ (by decide +kernel)
  try simp only [e4] at e13
  try simp only [e6] at e14
  try simp only [e9] at e16
  try simp only [e4, e6, e7, e1, e9, e10, e11]
  have k0 := g4.1
  have k1 := g4.2.1
  have k2 := g4.2.2.1
  have y0 := g4.2.2.2.1
  have y1 := g4.2.2.2.2.1
  have y2 := g4.2.2.2.2.2.1
  have y3 := g4.2.2.2.2.2.2.1
  have y4 := g4.2.2.2.2.2.2.2.1
  have y5 := g4.2.2.2.2.2.2.2.2.1
  have y6 := g4.2.2.2.2.2.2.2.2.2
  have p0 := g3.1
  have p1 := g3.2.1
  have p2 := g3.2.2
  have r0_0 := f3.2
  try simp only [e4, e6, e7, e1] at y0
  try simp only [e4, e6, e7, e1] at y1
  try simp only [e4, e6, e7, e1] at y2
  try simp only [e4, e6, e7, e1] at y3
  try simp only [e4, e6, e7, e1] at y4
  try simp only [e4, e6, e7, e1] at y5
  try simp only [e4, e6, e7, e1] at y6
  try simp only [e4, e6, e7, e1] at p0
  try simp only [e4, e6, e7, e1] at p1
  try simp only [e4, e6, e7, e1] at p2
  try simp only [e4, e6, e7, e1, e9, e10, e11] at r0_0
  clear g3
  clear g4
  clear f5 e0 e1 e3 e4 e5 e6 e7 e8 e9 e10 e11
  clear f2 f3
  subst e2
  try subst k2
  try subst k1
  try subst k0
  subst y0
  omega
def g_310_110_7 : vG := ([(22, [19, 18, 9], [2], 0), (0, [18], [], 300), (1273, [17, 4, 8, 10], [1, 2], 0), (5000, [0, 1, 2, 3, 4, 5, 6, 7, 8, 9, 10], [0, 1], 110), (0, [0], [], 285), (0, [4], [], 285)], (90, [19], [], 0))
theorem c_310_110_7 {q0 : Nat} : vOkm T0 (eP e_310 L_310 A_310 mu_310 (some q0)) 4 g_310_110_7 := vOk_in fun ρ η h => by
  obtain ⟨f0, f1, f2, f3, f4, f5, _⟩ := h
  exact q_310_26 (q0 := q0) (n0 := ρ 4) (n1 := ρ 0) (n2 := ρ 1) (n3 := ρ 2) (n4 := ρ 3) (n5 := ρ 5) (n6 := ρ 6) (n7 := ρ 7) (n8 := ρ 8) (n9 := ρ 9) (n10 := ρ 10) (n11 := ρ 17) (n12 := ρ 18) (n13 := ρ 19) (H0 := η 0) (H1 := η 1) (H2 := η 2) f5 f4 f3 f2 f1 f0
theorem q_310_27 {q0 : Nat} {n0 n1 n2 n3 n4 n5 n6 n7 n8 n9 n10 n11 n12 n13 n14 n15 n16 n17 n18 n19 : Int} {H0 H1 H2 : gH} (f0 : n0 ≤ 240) (f1 : 0 ≤ n0) (f2 : n1 ≤ 1007) (f3 : 0 ≤ n1) (f4 : n2 ≤ 39) (f5 : 0 ≤ n2) (f6 : n3 ≤ 5) (f7 : 0 ≤ n3) (f8 : n4 ≤ 2147483647) (f9 : (-2147483648) ≤ n4) (f10 : n5 ≤ 7) (f11 : 0 ≤ n5) (f12 : n6 = 285) (f13 : n7 ≤ 5) (f14 : 0 ≤ n7) (f15 : n8 ≤ 2147483647) (f16 : (-2147483648) ≤ n8) (f17 : n9 ≤ 7) (f18 : 0 ≤ n9) (f19 : n10 = 285) (f20 : (hLe T0 H0 H1 ∧ hFr s_310.2.2.2.2 H0 H1 ∧ hWt T0 H1) ∧ (Ab_310_110 n10 n9 n8 n7 n6 n5 n4 n3 n2 n1 n0 H0 H1 ∧ preb_310 n10 n9 n8 n7 H0) ∧ some q0 = some (mub_310_110 n10 n9 n8 n7 n6 n5 n4 n3 n2 n1 n0 H0 H1)) (f21 : n11 = 4) (f22 : n12 = 325) (f23 : n12 = hV H1 (n6).toNat 61) (f24 : n13 = 293) (f25 : n13 = hV H1 (n6).toNat 19) (f26 : n14 ≤ 5) (f27 : 0 ≤ n14) (f28 : n14 = hV H1 (n13).toNat (n5).toNat) (f29 : n15 ≤ 60) (f30 : 0 ≤ n15) (f31 : n15 = hV H1 (n12).toNat (n14).toNat) (f32 : n16 = w32 (n11 * n15)) (f33 : n0 < n16) (f34 : n17 ≤ 1) (f35 : 0 ≤ n17) (f36 : (hLe T0 H1 H2 ∧ hFr s_273.2.2.2.2 H1 H2 ∧ ((0 : Int) = 0 → H2.length = H1.length) ∧ hWt T0 H2) ∧ postb_273 n17 n6 n2 n0 H1 H2) (f37 : n17 ≠ 0) (f38 : n18 = 300) (f39 : n18 = hV H2 (n6).toNat 26) (f40 : n19 ≤ 9999) (f41 : (-1) ≤ n19) (f42 : n19 = hV H2 (n18).toNat (n1).toNat) : n19 ≤ 19 := by
  have g4 := f20.2.1.1
  unfold Ab_310_110 at g4
  have g3 := f20.2.1.2
  unfold preb_310 at g3
  unfold postb_273 at f36
  have e0 : hV H1 293 = hV H0 293 := fRow f20.1.2.1 293 (by decide +kernel)
  have e1 : n14 = hV H0 293 (n5).toNat := (by rw [f24] at f28; exact f28 : n14 = hV H1 293 (n5).toNat).trans ((congrFun e0 _))
  have e2 : hV H1 325 = hV H0 325 := fRow f20.1.2.1 325 (by decide +kernel)
  have e3 : n15 = hV H0 325 (n14).toNat := (by rw [f22] at f31; exact f31 : n15 = hV H1 325 (n14).toNat).trans ((congrFun e2 _))
  have e4 : hV H2 300 = hV H1 300 := fRow f36.1.2.1 300 (by decide +kernel)
  have e5 : hV H1 300 = hV H0 300 := fRow f20.1.2.1 300 (by decide +kernel)
  have e6 : n19 = hV H0 300 (n1).toNat := (by rw [f38] at f42; exact f42 : n19 = hV H2 300 (n1).toNat).trans (((congrFun e4 _)).trans ((congrFun e5 _)))
  have e7 : hV H1 285 18 = hV H0 285 18 := f20.1.2.1.1 285 18 (by decide +kernel)
  have e8 : hV H1 285 18 = hV H0 285 18 := e7
  have e9 : hV H1 285 64 = hV H0 285 64 := f20.1.2.1.1 285 64 (by decide +kernel)
  have e10 : hV H1 285 64 = hV H0 285 64 := e9
  have e11 : hV H1 298 = hV H0 298 := fRow f20.1.2.1 298 (by decide +kernel)
  have e12 : hV H2 285 64 = hV H1 285 64 := f36.1.2.1.1 285 64 (by decide +kernel)
  have e13 : hV H2 285 64 = hV H0 285 64 := (e12).trans e9
  have e14 : hV H2 300 = hV H0 300 := e4.trans e5
  have e15 : hV H2 344 = hV H1 344 := fRow f36.1.2.1 344 (by decide +kernel)
  have e16 : (0 : Int) ≤ hV H1 285 103 ∧ hV H1 285 103 ≤ 40 := f20.1.2.2 285 103 _ _ (by decide +kernel)
  have e17 : (0 : Int) ≤ hV H1 285 18 ∧ hV H1 285 18 ≤ 8 := f20.1.2.2 285 18 _ _ (by decide +kernel)
  have e18 : (0 : Int) ≤ hV H1 285 64 ∧ hV H1 285 64 ≤ 20 := f20.1.2.2 285 64 _ _ (by decide +kernel)
  have e19 : (0 : Int) ≤ hV H1 285 82 ∧ hV H1 285 82 ≤ 40 := f20.1.2.2 285 82 _ _ (by decide +kernel)
  have e20 : (0 : Int) ≤ hV H2 285 64 ∧ hV H2 285 64 ≤ 20 := f36.1.2.2.2 285 64 _ _ (by decide +kernel)
  try simp only [e8] at e17
  try simp only [e10] at e18
  try simp only [e13] at e20
  try simp only [e8, e10, e11, e5, e13, e14, e15]
  have k0 := g4.1
  have k1 := g4.2.1
  have k2 := g4.2.2.1
  have y0 := g4.2.2.2.1
  have y1 := g4.2.2.2.2.1
  have y2 := g4.2.2.2.2.2.1
  have y3 := g4.2.2.2.2.2.2.1
  have y4 := g4.2.2.2.2.2.2.2.1
  have y5 := g4.2.2.2.2.2.2.2.2.1
  have y6 := g4.2.2.2.2.2.2.2.2.2
  have p0 := g3.1
  have p1 := g3.2.1
  have p2 := g3.2.2
  have r0_0 := f36.2
  try simp only [e8, e10, e11, e5] at y0
  try simp only [e8, e10, e11, e5] at y1
  try simp only [e8, e10, e11, e5] at y2
  try simp only [e8, e10, e11, e5] at y3
  try simp only [e8, e10, e11, e5] at y4
  try simp only [e8, e10, e11, e5] at y5
  try simp only [e8, e10, e11, e5] at y6
  try simp only [e8, e10, e11, e5] at p0
  try simp only [e8, e10, e11, e5] at p1
  try simp only [e8, e10, e11, e5] at p2
  try simp only [e8, e10, e11, e5, e13, e14, e15] at r0_0
  clear g3
  clear g4
  clear f23 f25 f28 f31 f39 f42 e0 e2 e4 e5 e7 e8 e9 e10 e11 e12 e13 e14 e15
  clear f20 f36
  subst e1
  subst e3
  subst e6
  rw [f21] at f32
  unfold w32 at *
  try subst k2
  try subst k1
  try subst k0
  subst y0
  omega
def g_310_110_8 : vG := ([(22, [19, 18, 9], [2], 0), (90, [19], [], -1), (91, [19], [], 9999), (20, [18, 4], [2], 26), (0, [18], [], 300), (31, [17], [], 0), (1273, [17, 4, 8, 10], [1, 2], 0), (90, [17], [], 0), (91, [17], [], 1), (42, [10, 16], [], 0), (3, [16, 11, 15], [], 0), (22, [15, 12, 14], [1], 0), (90, [15], [], 0), (91, [15], [], 60), (22, [14, 13, 5], [1], 0), (90, [14], [], 0), (91, [14], [], 5), (20, [13, 4], [1], 19), (0, [13], [], 293), (20, [12, 4], [1], 61), (0, [12], [], 325), (0, [11], [], 4), (5000, [0, 1, 2, 3, 4, 5, 6, 7, 8, 9, 10], [0, 1], 110), (0, [0], [], 285), (90, [1], [], 0), (91, [1], [], 7), (90, [2], [], -2147483648), (91, [2], [], 2147483647), (90, [3], [], 0), (91, [3], [], 5), (0, [4], [], 285), (90, [5], [], 0), (91, [5], [], 7), (90, [6], [], -2147483648), (91, [6], [], 2147483647), (90, [7], [], 0), (91, [7], [], 5), (90, [8], [], 0), (91, [8], [], 39), (90, [9], [], 0), (91, [9], [], 1007), (90, [10], [], 0), (91, [10], [], 240)], (91, [19], [], 19))
theorem c_310_110_8 {q0 : Nat} : vOkm T0 (eP e_310 L_310 A_310 mu_310 (some q0)) 4 g_310_110_8 := vOk_in fun ρ η h => by
  obtain ⟨f0, f1, f2, f3, f4, f5, f6, f7, f8, f9, f10, f11, f12, f13, f14, f15, f16, f17, f18, f19, f20, f21, f22, f23, f24, f25, f26, f27, f28, f29, f30, f31, f32, f33, f34, f35, f36, f37, f38, f39, f40, f41, f42, _⟩ := h
  exact q_310_27 (q0 := q0) (n0 := ρ 10) (n1 := ρ 9) (n2 := ρ 8) (n3 := ρ 7) (n4 := ρ 6) (n5 := ρ 5) (n6 := ρ 4) (n7 := ρ 3) (n8 := ρ 2) (n9 := ρ 1) (n10 := ρ 0) (n11 := ρ 11) (n12 := ρ 12) (n13 := ρ 13) (n14 := ρ 14) (n15 := ρ 15) (n16 := ρ 16) (n17 := ρ 17) (n18 := ρ 18) (n19 := ρ 19) (H0 := η 0) (H1 := η 1) (H2 := η 2) f42 f41 f40 f39 f38 f37 f36 f35 f34 f33 f32 f31 f30 f29 f28 f27 f26 f25 f24 f23 f22 f21 f20 f19 f18 f17 f16 f15 f14 f13 f12 f11 f10 f9 f8 f7 f6 f5 f4 f3 f2 f1 f0
theorem q_310_28 {q0 : Nat} {n0 n1 n2 n3 n4 n5 n6 n7 n8 n9 n10 n11 n12 n13 n14 n15 n16 n17 n18 n19 n20 : Int} {H0 H1 H2 : gH} (f0 : n0 ≤ 240) (f1 : 0 ≤ n0) (f2 : n1 ≤ 1007) (f3 : 0 ≤ n1) (f4 : n2 ≤ 39) (f5 : 0 ≤ n2) (f6 : n3 ≤ 5) (f7 : 0 ≤ n3) (f8 : n4 ≤ 2147483647) (f9 : (-2147483648) ≤ n4) (f10 : n5 ≤ 7) (f11 : 0 ≤ n5) (f12 : n6 = 285) (f13 : n7 ≤ 5) (f14 : 0 ≤ n7) (f15 : n8 ≤ 2147483647) (f16 : (-2147483648) ≤ n8) (f17 : n9 ≤ 7) (f18 : 0 ≤ n9) (f19 : n10 = 285) (f20 : (hLe T0 H0 H1 ∧ hFr s_310.2.2.2.2 H0 H1 ∧ hWt T0 H1) ∧ (Ab_310_110 n10 n9 n8 n7 n6 n5 n4 n3 n2 n1 n0 H0 H1 ∧ preb_310 n10 n9 n8 n7 H0) ∧ some q0 = some (mub_310_110 n10 n9 n8 n7 n6 n5 n4 n3 n2 n1 n0 H0 H1)) (f21 : n11 = 4) (f22 : n12 = 325) (f23 : n12 = hV H1 (n6).toNat 61) (f24 : n13 = 293) (f25 : n13 = hV H1 (n6).toNat 19) (f26 : n14 ≤ 5) (f27 : 0 ≤ n14) (f28 : n14 = hV H1 (n13).toNat (n5).toNat) (f29 : n15 ≤ 60) (f30 : 0 ≤ n15) (f31 : n15 = hV H1 (n12).toNat (n14).toNat) (f32 : n16 = w32 (n11 * n15)) (f33 : n0 < n16) (f34 : n17 ≤ 1) (f35 : 0 ≤ n17) (f36 : (hLe T0 H1 H2 ∧ hFr s_273.2.2.2.2 H1 H2 ∧ ((0 : Int) = 0 → H2.length = H1.length) ∧ hWt T0 H2) ∧ postb_273 n17 n6 n2 n0 H1 H2) (f37 : n17 ≠ 0) (f38 : n18 = 300) (f39 : n18 = hV H2 (n6).toNat 26) (f40 : n19 ≤ 9999) (f41 : (-1) ≤ n19) (f42 : n19 = hV H2 (n18).toNat (n1).toNat) (f43 : n20 ≤ 2147483647) (f44 : (-2147483648) ≤ n20) (f45 : n20 = hV H2 (n6).toNat 88) : preb_266 n6 n19 n20 H2 := by
  have g4 := f20.2.1.1
  unfold Ab_310_110 at g4
  have g3 := f20.2.1.2
  unfold preb_310 at g3
  unfold postb_273 at f36
  unfold preb_266
  have e0 : hV H1 293 = hV H0 293 := fRow f20.1.2.1 293 (by decide +kernel)
  have e1 : n14 = hV H0 293 (n5).toNat := (by rw [f24] at f28; exact f28 : n14 = hV H1 293 (n5).toNat).trans ((congrFun e0 _))
  have e2 : hV H1 325 = hV H0 325 := fRow f20.1.2.1 325 (by decide +kernel)
  have e3 : n15 = hV H0 325 (n14).toNat := (by rw [f22] at f31; exact f31 : n15 = hV H1 325 (n14).toNat).trans ((congrFun e2 _))
  have e4 : hV H2 300 = hV H1 300 := fRow f36.1.2.1 300 (by decide +kernel)
  have e5 : hV H1 300 = hV H0 300 := fRow f20.1.2.1 300 (by decide +kernel)
  have e6 : n19 = hV H0 300 (n1).toNat := (by rw [f38] at f42; exact f42 : n19 = hV H2 300 (n1).toNat).trans (((congrFun e4 _)).trans ((congrFun e5 _)))
  have e7 : n20 = hV H2 285 88 := (by rw [f12] at f45; exact f45 : n20 = hV H2 285 88)
  have e8 : hV H1 285 18 = hV H0 285 18 := f20.1.2.1.1 285 18 (by decide +kernel)
  have e9 : hV H1 285 18 = hV H0 285 18 := e8
  have e10 : hV H1 285 64 = hV H0 285 64 := f20.1.2.1.1 285 64 (by decide +kernel)
  have e11 : hV H1 285 64 = hV H0 285 64 := e10
  have e12 : hV H1 298 = hV H0 298 := fRow f20.1.2.1 298 (by decide +kernel)
  have e13 : hV H2 285 64 = hV H1 285 64 := f36.1.2.1.1 285 64 (by decide +kernel)
  have e14 : hV H2 285 64 = hV H0 285 64 := (e13).trans e10
  have e15 : hV H2 300 = hV H0 300 := e4.trans e5
  have e16 : hV H2 344 = hV H1 344 := fRow f36.1.2.1 344 (by decide +kernel)
  have e17 : SO H1 = SO H0 := SO_fr f20.1.2.1 (by decide +kernel)
  have e18 : SO H2 = SO H1 := SO_fr f36.1.2.1 (by decide +kernel)
  have e19 : SO H2 = SO H0 := e18.trans e17
  have e20 : (0 : Int) ≤ hV H1 285 103 ∧ hV H1 285 103 ≤ 40 := f20.1.2.2 285 103 _ _ (by decide +kernel)
  have e21 : (0 : Int) ≤ hV H1 285 18 ∧ hV H1 285 18 ≤ 8 := f20.1.2.2 285 18 _ _ (by decide +kernel)
  have e22 : (0 : Int) ≤ hV H1 285 64 ∧ hV H1 285 64 ≤ 20 := f20.1.2.2 285 64 _ _ (by decide +kernel)
  have e23 : (0 : Int) ≤ hV H1 285 82 ∧ hV H1 285 82 ≤ 40 := f20.1.2.2 285 82 _ _ (by decide +kernel)
  have e24 : (0 : Int) ≤ hV H2 285 64 ∧ hV H2 285 64 ≤ 20 := f36.1.2.2.2 285 64 _ _ (by decide +kernel)
  try simp only [e9] at e21
  try simp only [e11] at e22
  try simp only [e14] at e24
  try simp only [e9, e11, e12, e5, e14, e15, e16, e19]
  have k0 := g4.1
  have k1 := g4.2.1
  have k2 := g4.2.2.1
  have y0 := g4.2.2.2.1
  have y1 := g4.2.2.2.2.1
  have y2 := g4.2.2.2.2.2.1
  have y3 := g4.2.2.2.2.2.2.1
  have y4 := g4.2.2.2.2.2.2.2.1
  have y5 := g4.2.2.2.2.2.2.2.2.1
  have y6 := g4.2.2.2.2.2.2.2.2.2
  have p0 := g3.1
  have p1 := g3.2.1
  have p2 := g3.2.2
  have r0_0 := f36.2
  try simp only [e9, e11, e12, e5] at y0
  try simp only [e9, e11, e12, e5] at y1
  try simp only [e9, e11, e12, e5] at y2
  try simp only [e9, e11, e12, e5] at y3
  try simp only [e9, e11, e12, e5] at y4
  try simp only [e9, e11, e12, e5] at y5
  try simp only [e9, e11, e12, e5] at y6
  try simp only [e9, e11, e12, e5] at p0
  try simp only [e9, e11, e12, e5] at p1
  try simp only [e9, e11, e12, e5] at p2
  try simp only [e9, e11, e12, e5, e14, e15, e16, e19] at r0_0
  clear g3
  clear g4
  clear f23 f25 f28 f31 f39 f42 f45 e0 e2 e4 e5 e8 e9 e10 e11 e12 e13 e14 e15 e16 e17 e18 e19
  clear f20 f36
  subst e1
  subst e3
  subst e6
  subst e7
  rw [f21] at f32
  unfold w32 at *
  try subst k2
  try subst k1
  try subst k0
  subst y0
  refine ⟨?_, ?_⟩ <;> first | assumption | omega | trivial
def g_310_110_9 : vG := ([(20, [20, 4], [2], 88), (90, [20], [], -2147483648), (91, [20], [], 2147483647), (22, [19, 18, 9], [2], 0), (90, [19], [], -1), (91, [19], [], 9999), (20, [18, 4], [2], 26), (0, [18], [], 300), (31, [17], [], 0), (1273, [17, 4, 8, 10], [1, 2], 0), (90, [17], [], 0), (91, [17], [], 1), (42, [10, 16], [], 0), (3, [16, 11, 15], [], 0), (22, [15, 12, 14], [1], 0), (90, [15], [], 0), (91, [15], [], 60), (22, [14, 13, 5], [1], 0), (90, [14], [], 0), (91, [14], [], 5), (20, [13, 4], [1], 19), (0, [13], [], 293), (20, [12, 4], [1], 61), (0, [12], [], 325), (0, [11], [], 4), (5000, [0, 1, 2, 3, 4, 5, 6, 7, 8, 9, 10], [0, 1], 110), (0, [0], [], 285), (90, [1], [], 0), (91, [1], [], 7), (90, [2], [], -2147483648), (91, [2], [], 2147483647), (90, [3], [], 0), (91, [3], [], 5), (0, [4], [], 285), (90, [5], [], 0), (91, [5], [], 7), (90, [6], [], -2147483648), (91, [6], [], 2147483647), (90, [7], [], 0), (91, [7], [], 5), (90, [8], [], 0), (91, [8], [], 39), (90, [9], [], 0), (91, [9], [], 1007), (90, [10], [], 0), (91, [10], [], 240)], (2266, [4, 19, 20], [2], 0))
theorem c_310_110_9 {q0 : Nat} : vOkm T0 (eP e_310 L_310 A_310 mu_310 (some q0)) 4 g_310_110_9 := vOk_in fun ρ η h => by
  obtain ⟨f0, f1, f2, f3, f4, f5, f6, f7, f8, f9, f10, f11, f12, f13, f14, f15, f16, f17, f18, f19, f20, f21, f22, f23, f24, f25, f26, f27, f28, f29, f30, f31, f32, f33, f34, f35, f36, f37, f38, f39, f40, f41, f42, f43, f44, f45, _⟩ := h
  exact q_310_28 (q0 := q0) (n0 := ρ 10) (n1 := ρ 9) (n2 := ρ 8) (n3 := ρ 7) (n4 := ρ 6) (n5 := ρ 5) (n6 := ρ 4) (n7 := ρ 3) (n8 := ρ 2) (n9 := ρ 1) (n10 := ρ 0) (n11 := ρ 11) (n12 := ρ 12) (n13 := ρ 13) (n14 := ρ 14) (n15 := ρ 15) (n16 := ρ 16) (n17 := ρ 17) (n18 := ρ 18) (n19 := ρ 19) (n20 := ρ 20) (H0 := η 0) (H1 := η 1) (H2 := η 2) f45 f44 f43 f42 f41 f40 f39 f38 f37 f36 f35 f34 f33 f32 f31 f30 f29 f28 f27 f26 f25 f24 f23 f22 f21 f20 f19 f18 f17 f16 f15 f14 f13 f12 f11 f10 f9 f8 f7 f6 f5 f4 f3 f2 f1 f0
theorem q_310_29 {q0 : Nat} {n0 n1 n2 n3 n4 : Int} {H0 : gH} (f0 : n0 ≤ 1007) (f1 : 0 ≤ n0) (f2 : n1 = 6) (f3 : n2 = w32 (n1 * n0)) (f4 : n3 = 2) (f5 : n4 = w32 (n2 + n3)) : 0 ≤ n4 ∧ n4 < 6048 := by
  rw [f2] at f3
  unfold w32 at *
  try (have ix0 : n2 = 6 * n0 := (by omega); subst ix0)
  try (have ix1 : n4 = (6 * n0) + 2 := (by omega); subst ix1)
  omega
def g_310_110_10 : vG := ([(1, [26, 24, 25], [], 0), (0, [25], [], 2), (3, [24, 23, 9], [], 0), (0, [23], [], 6), (90, [9], [], 0), (91, [9], [], 1007)], (70, [26], [], 6048))
theorem c_310_110_10 {q0 : Nat} : vOkm T0 (eP e_310 L_310 A_310 mu_310 (some q0)) 4 g_310_110_10 := vOk_in fun ρ η h => by
  obtain ⟨f0, f1, f2, f3, f4, f5, _⟩ := h
  exact q_310_29 (q0 := q0) (n0 := ρ 9) (n1 := ρ 23) (n2 := ρ 24) (n3 := ρ 25) (n4 := ρ 26) (H0 := η 0) f5 f4 f3 f2 f1 f0
def g_310_110_11 : vG := ([(10, [31, 10], [], 1), (42, [10, 16], [], 0), (3, [16, 11, 15], [], 0), (91, [15], [], 60), (0, [11], [], 4), (90, [10], [], 0)], (90, [31], [], 0))
theorem c_310_110_11 {q0 : Nat} : vOkm T0 (eP e_310 L_310 A_310 mu_310 (some q0)) 4 g_310_110_11 := vOk_in fun ρ η h => by
  obtain ⟨f0, f1, f2, f3, f4, f5, _⟩ := h
  exact q_310_23 (q0 := q0) (n0 := ρ 10) (n1 := ρ 11) (n2 := ρ 15) (n3 := ρ 16) (n4 := ρ 31) (H0 := η 0) f5 f4 f3 f2 f1 f0
def g_310_110_12 : vG := ([(10, [31, 10], [], 1), (42, [10, 16], [], 0), (3, [16, 11, 15], [], 0), (91, [15], [], 60), (0, [11], [], 4), (90, [10], [], 0)], (91, [31], [], 240))
theorem c_310_110_12 {q0 : Nat} : vOkm T0 (eP e_310 L_310 A_310 mu_310 (some q0)) 4 g_310_110_12 := vOk_in fun ρ η h => by
  obtain ⟨f0, f1, f2, f3, f4, f5, _⟩ := h
  exact q_310_24 (q0 := q0) (n0 := ρ 10) (n1 := ρ 11) (n2 := ρ 15) (n3 := ρ 16) (n4 := ρ 31) (H0 := η 0) f5 f4 f3 f2 f1 f0
theorem q_310_30 {q0 : Nat} {n0 n1 n2 n3 n4 n5 n6 n7 n8 n9 n10 n11 n12 n13 n14 n15 n16 n17 n18 n19 n20 n21 n22 n23 n24 n25 n26 n27 n28 n29 n30 n31 : Int} {H0 H1 H2 H3 : gH} (f0 : n0 ≤ 240) (f1 : 0 ≤ n0) (f2 : n1 ≤ 1007) (f3 : 0 ≤ n1) (f4 : n2 ≤ 39) (f5 : 0 ≤ n2) (f6 : n3 ≤ 5) (f7 : 0 ≤ n3) (f8 : n4 ≤ 2147483647) (f9 : (-2147483648) ≤ n4) (f10 : n5 ≤ 7) (f11 : 0 ≤ n5) (f12 : n6 = 285) (f13 : n7 ≤ 5) (f14 : 0 ≤ n7) (f15 : n8 ≤ 2147483647) (f16 : (-2147483648) ≤ n8) (f17 : n9 ≤ 7) (f18 : 0 ≤ n9) (f19 : n10 = 285) (f20 : (hLe T0 H0 H1 ∧ hFr s_310.2.2.2.2 H0 H1 ∧ hWt T0 H1) ∧ (Ab_310_110 n10 n9 n8 n7 n6 n5 n4 n3 n2 n1 n0 H0 H1 ∧ preb_310 n10 n9 n8 n7 H0) ∧ some q0 = some (mub_310_110 n10 n9 n8 n7 n6 n5 n4 n3 n2 n1 n0 H0 H1)) (f21 : n11 = 4) (f22 : n12 = 325) (f23 : n12 = hV H1 (n6).toNat 61) (f24 : n13 = 293) (f25 : n13 = hV H1 (n6).toNat 19) (f26 : n14 ≤ 5) (f27 : 0 ≤ n14) (f28 : n14 = hV H1 (n13).toNat (n5).toNat) (f29 : n15 ≤ 60) (f30 : 0 ≤ n15) (f31 : n15 = hV H1 (n12).toNat (n14).toNat) (f32 : n16 = w32 (n11 * n15)) (f33 : n0 < n16) (f34 : n17 ≤ 1) (f35 : 0 ≤ n17) (f36 : (hLe T0 H1 H2 ∧ hFr s_273.2.2.2.2 H1 H2 ∧ ((0 : Int) = 0 → H2.length = H1.length) ∧ hWt T0 H2) ∧ postb_273 n17 n6 n2 n0 H1 H2) (f37 : n17 ≠ 0) (f38 : n18 = 300) (f39 : n18 = hV H2 (n6).toNat 26) (f40 : n19 ≤ 9999) (f41 : (-1) ≤ n19) (f42 : n19 = hV H2 (n18).toNat (n1).toNat) (f43 : n20 ≤ 2147483647) (f44 : (-2147483648) ≤ n20) (f45 : n20 = hV H2 (n6).toNat 88) (f46 : n21 ≤ 2147483647) (f47 : (-2147483648) ≤ n21) (f48 : (hLe T0 H2 H3 ∧ hFr s_266.2.2.2.2 H2 H3 ∧ ((0 : Int) = 0 → H3.length = H2.length) ∧ hWt T0 H3) ∧ True) (f49 : n22 = 305) (f50 : n22 = hV H3 (n6).toNat 31) (f51 : n23 = 6) (f52 : n24 = w32 (n23 * n1)) (f53 : n25 = 2) (f54 : n26 = w32 (n24 + n25)) (f55 : n27 ≤ 9999) (f56 : (-1) ≤ n27) (f57 : n27 = hV H3 (n22).toNat (n26).toNat) (f58 : n28 = w32 (n21 * n27)) (f59 : n29 = 100) (f60 : n30 = o32 (fun x y => x / y) n28 n29) (f61 : n30 = 0) (f62 : n31 = w32 (n0 + 1)) : Ab_310_110 n10 n9 n8 n7 n6 n5 n4 n3 n2 n1 n31 H0 H3 ∧ ∀ q, some q0 = some q → mub_310_110 n10 n9 n8 n7 n6 n5 n4 n3 n2 n1 n31 H0 H3 < q := by
  have g4 := f20.2.1.1
  unfold Ab_310_110 at g4
  have g3 := f20.2.1.2
  unfold preb_310 at g3
  have g5 := Option.some.inj f20.2.2
  unfold mub_310_110 at g5
  unfold postb_273 at f36
  unfold Ab_310_110
  unfold mub_310_110
  have e0 : hV H1 293 = hV H0 293 := fRow f20.1.2.1 293 (by decide +kernel)
  have e1 : n14 = hV H0 293 (n5).toNat := (by rw [f24] at f28; exact f28 : n14 = hV H1 293 (n5).toNat).trans ((congrFun e0 _))
  have e2 : hV H1 325 = hV H0 325 := fRow f20.1.2.1 325 (by decide +kernel)
  have e3 : n15 = hV H0 325 (n14).toNat := (by rw [f22] at f31; exact f31 : n15 = hV H1 325 (n14).toNat).trans ((congrFun e2 _))
  have e4 : hV H2 300 = hV H1 300 := fRow f36.1.2.1 300 (by decide +kernel)
  have e5 : hV H1 300 = hV H0 300 := fRow f20.1.2.1 300 (by decide +kernel)
  have e6 : n19 = hV H0 300 (n1).toNat := (by rw [f38] at f42; exact f42 : n19 = hV H2 300 (n1).toNat).trans (((congrFun e4 _)).trans ((congrFun e5 _)))
  have e7 : n20 = hV H2 285 88 := (by rw [f12] at f45; exact f45 : n20 = hV H2 285 88)
  have e8 : hV H3 305 = hV H2 305 := fRow f48.1.2.1 305 (by decide +kernel)
  have e9 : hV H2 305 = hV H1 305 := fRow f36.1.2.1 305 (by decide +kernel)
  have e10 : hV H1 305 = hV H0 305 := fRow f20.1.2.1 305 (by decide +kernel)
  have e11 : n27 = hV H0 305 (n26).toNat := (by rw [f49] at f57; exact f57 : n27 = hV H3 305 (n26).toNat).trans (((congrFun e8 _)).trans (((congrFun e9 _)).trans ((congrFun e10 _))))
  have e12 : hV H1 285 18 = hV H0 285 18 := f20.1.2.1.1 285 18 (by decide +kernel)
  have e13 : hV H1 285 18 = hV H0 285 18 := e12
  have e14 : hV H1 285 64 = hV H0 285 64 := f20.1.2.1.1 285 64 (by decide +kernel)
  have e15 : hV H1 285 64 = hV H0 285 64 := e14
  have e16 : hV H1 298 = hV H0 298 := fRow f20.1.2.1 298 (by decide +kernel)
  have e17 : hV H2 285 64 = hV H1 285 64 := f36.1.2.1.1 285 64 (by decide +kernel)
  have e18 : hV H2 285 64 = hV H0 285 64 := (e17).trans e14
  have e19 : hV H2 300 = hV H0 300 := e4.trans e5
  have e20 : hV H2 344 = hV H1 344 := fRow f36.1.2.1 344 (by decide +kernel)
  have e21 : hV H3 285 103 = hV H2 285 103 := f48.1.2.1.1 285 103 (by decide +kernel)
  have e22 : hV H2 285 103 = hV H1 285 103 := f36.1.2.1.1 285 103 (by decide +kernel)
  have e23 : hV H3 285 103 = hV H1 285 103 := (e21).trans e22
  have e24 : hV H3 285 64 = hV H2 285 64 := f48.1.2.1.1 285 64 (by decide +kernel)
  have e25 : hV H3 285 64 = hV H0 285 64 := (e24).trans ((e17).trans e14)
  have e26 : hV H3 285 82 = hV H2 285 82 := f48.1.2.1.1 285 82 (by decide +kernel)
  have e27 : hV H2 285 82 = hV H1 285 82 := f36.1.2.1.1 285 82 (by decide +kernel)
  have e28 : hV H3 285 82 = hV H1 285 82 := (e26).trans e27
  have e29 : hV H3 298 = hV H2 298 := fRow f48.1.2.1 298 (by decide +kernel)
  have e30 : hV H2 298 = hV H1 298 := fRow f36.1.2.1 298 (by decide +kernel)
  have e31 : hV H2 298 = hV H0 298 := e30.trans e16
  have e32 : hV H3 298 = hV H0 298 := e29.trans e31
  have e33 : hV H3 300 = hV H2 300 := fRow f48.1.2.1 300 (by decide +kernel)
  have e34 : hV H3 300 = hV H0 300 := e33.trans e19
  have e35 : hV H3 344 = hV H2 344 := fRow f48.1.2.1 344 (by decide +kernel)
  have e36 : hV H3 344 = hV H1 344 := e35.trans e20
  have e37 : XQ H2 = XQ H1 := XQ_fr f36.1.2.1 (by decide +kernel)
  have e38 : XQ H3 = XQ H2 := XQ_fr f48.1.2.1 (by decide +kernel)
  have e39 : XQ H3 = XQ H1 := e38.trans e37
  have e40 : (0 : Int) ≤ hV H1 285 103 ∧ hV H1 285 103 ≤ 40 := f20.1.2.2 285 103 _ _ (by decide +kernel)
  have e41 : (0 : Int) ≤ hV H1 285 18 ∧ hV H1 285 18 ≤ 8 := f20.1.2.2 285 18 _ _ (by decide +kernel)
  have e42 : (0 : Int) ≤ hV H1 285 64 ∧ hV H1 285 64 ≤ 20 := f20.1.2.2 285 64 _ _ (by decide +kernel)
  have e43 : (0 : Int) ≤ hV H1 285 82 ∧ hV H1 285 82 ≤ 40 := f20.1.2.2 285 82 _ _ (by decide +kernel)
  have e44 : (0 : Int) ≤ hV H2 285 64 ∧ hV H2 285 64 ≤ 20 := f36.1.2.2.2 285 64 _ _ (by decide +kernel)
  have e45 : (0 : Int) ≤ hV H3 285 103 ∧ hV H3 285 103 ≤ 40 := f48.1.2.2.2 285 103 _ _ (by decide +kernel)
  have e46 : (0 : Int) ≤ hV H3 285 64 ∧ hV H3 285 64 ≤ 20 := f48.1.2.2.2 285 64 _ _ (by decide +kernel)
  have e47 : (0 : Int) ≤ hV H3 285 82 ∧ hV H3 285 82 ≤ 40 := f48.1.2.2.2 285 82 _ _ (by decide +kernel)
  try simp only [e13] at e41
  try simp only [e15] at e42
  try simp only [e18] at e44
  try simp only [e23] at e45
  try simp only [e25] at e46
  try simp only [e28] at e47
  try simp only [e13, e15, e16, e5, e18, e19, e20, e23, e25, e28, e32, e34, e36, e39] at g5
  try simp only [e13, e15, e16, e5, e18, e19, e20, e23, e25, e28, e32, e34, e36, e39]
  have k0 := g4.1
  have k1 := g4.2.1
  have k2 := g4.2.2.1
  have y0 := g4.2.2.2.1
  have y1 := g4.2.2.2.2.1
  have y2 := g4.2.2.2.2.2.1
  have y3 := g4.2.2.2.2.2.2.1
  have y4 := g4.2.2.2.2.2.2.2.1
  have y5 := g4.2.2.2.2.2.2.2.2.1
  have y6 := g4.2.2.2.2.2.2.2.2.2
  have p0 := g3.1
  have p1 := g3.2.1
  have p2 := g3.2.2
  have r0_0 := f36.2
  try simp only [e13, e15, e16, e5] at y0
  try simp only [e13, e15, e16, e5] at y1
  try simp only [e13, e15, e16, e5] at y2
  try simp only [e13, e15, e16, e5] at y3
  try simp only [e13, e15, e16, e5] at y4
  try simp only [e13, e15, e16, e5] at y5
  try simp only [e13, e15, e16, e5] at y6
  try simp only [e13, e15, e16, e5] at p0
  try simp only [e13, e15, e16, e5] at p1
  try simp only [e13, e15, e16, e5] at p2
  try simp only [e13, e15, e16, e5, e18, e19, e20] at r0_0
  clear g3
  clear g4
  clear f23 f25 f28 f31 f39 f42 f45 f50 f57 e0 e2 e4 e5 e8 e9 e10 e12 e13 e14 e15 e16 e17 e18 e19 e20 e21 e22 e23 e24 e25 e26 e27 e28 e29 e30 e31 e32 e33 e34 e35 e36 e37 e38 e39
  clear f20 f36 f48
  subst e1
  subst e3
  subst e6
  subst e7
  subst e11
  first | have b60 := o32_div_pos f60 (by omega) (by omega) (by omega) (by omega) | skip
  try rw [f59] at b60
  rw [f21] at f32
  rw [f51] at f52
  unfold w32 at *
  try (have ix0 : n24 = 6 * n1 := (by omega); subst ix0)
  try (have ix1 : n26 = (6 * n1) + 2 := (by omega); subst ix1)
  try (have ix2 : n31 = n0 + 1 := (by omega); subst ix2)
  try subst k2
  try subst k1
  try subst k0
  subst y0
  refine ⟨?_, fun q hq => ?_⟩
  · refine ⟨?_, ?_, ?_, ?_, ?_, ?_, ?_, ?_, ?_, ?_⟩ <;> first | assumption | omega | trivial
  · have g6 := Option.some.inj hq
    subst g6
    omega
def g_310_110_13 : vG := ([(10, [31, 10], [], 1), (30, [30], [], 0), (11, [30, 28, 29], [], 0), (0, [29], [], 100), (3, [28, 21, 27], [], 0), (22, [27, 22, 26], [3], 0), (90, [27], [], -1), (91, [27], [], 9999), (1, [26, 24, 25], [], 0), (0, [25], [], 2), (3, [24, 23, 9], [], 0), (0, [23], [], 6), (20, [22, 4], [3], 31), (0, [22], [], 305), (1266, [21, 4, 19, 20], [2, 3], 0), (90, [21], [], -2147483648), (91, [21], [], 2147483647), (20, [20, 4], [2], 88), (90, [20], [], -2147483648), (91, [20], [], 2147483647), (22, [19, 18, 9], [2], 0), (90, [19], [], -1), (91, [19], [], 9999), (20, [18, 4], [2], 26), (0, [18], [], 300), (31, [17], [], 0), (1273, [17, 4, 8, 10], [1, 2], 0), (90, [17], [], 0), (91, [17], [], 1), (42, [10, 16], [], 0), (3, [16, 11, 15], [], 0), (22, [15, 12, 14], [1], 0), (90, [15], [], 0), (91, [15], [], 60), (22, [14, 13, 5], [1], 0), (90, [14], [], 0), (91, [14], [], 5), (20, [13, 4], [1], 19), (0, [13], [], 293), (20, [12, 4], [1], 61), (0, [12], [], 325), (0, [11], [], 4), (5000, [0, 1, 2, 3, 4, 5, 6, 7, 8, 9, 10], [0, 1], 110), (0, [0], [], 285), (90, [1], [], 0), (91, [1], [], 7), (90, [2], [], -2147483648), (91, [2], [], 2147483647), (90, [3], [], 0), (91, [3], [], 5), (0, [4], [], 285), (90, [5], [], 0), (91, [5], [], 7), (90, [6], [], -2147483648), (91, [6], [], 2147483647), (90, [7], [], 0), (91, [7], [], 5), (90, [8], [], 0), (91, [8], [], 39), (90, [9], [], 0), (91, [9], [], 1007), (90, [10], [], 0), (91, [10], [], 240)], (4000, [4, 5, 6, 7, 8, 9, 31], [3], 110))
theorem c_310_110_13 {q0 : Nat} : vOkm T0 (eP e_310 L_310 A_310 mu_310 (some q0)) 4 g_310_110_13 := vOk_in fun ρ η h => by
  obtain ⟨f0, f1, f2, f3, f4, f5, f6, f7, f8, f9, f10, f11, f12, f13, f14, f15, f16, f17, f18, f19, f20, f21, f22, f23, f24, f25, f26, f27, f28, f29, f30, f31, f32, f33, f34, f35, f36, f37, f38, f39, f40, f41, f42, f43, f44, f45, f46, f47, f48, f49, f50, f51, f52, f53, f54, f55, f56, f57, f58, f59, f60, f61, f62, _⟩ := h
  exact q_310_30 (q0 := q0) (n0 := ρ 10) (n1 := ρ 9) (n2 := ρ 8) (n3 := ρ 7) (n4 := ρ 6) (n5 := ρ 5) (n6 := ρ 4) (n7 := ρ 3) (n8 := ρ 2) (n9 := ρ 1) (n10 := ρ 0) (n11 := ρ 11) (n12 := ρ 12) (n13 := ρ 13) (n14 := ρ 14) (n15 := ρ 15) (n16 := ρ 16) (n17 := ρ 17) (n18 := ρ 18) (n19 := ρ 19) (n20 := ρ 20) (n21 := ρ 21) (n22 := ρ 22) (n23 := ρ 23) (n24 := ρ 24) (n25 := ρ 25) (n26 := ρ 26) (n27 := ρ 27) (n28 := ρ 28) (n29 := ρ 29) (n30 := ρ 30) (n31 := ρ 31) (H0 := η 0) (H1 := η 1) (H2 := η 2) (H3 := η 3) f62 f61 f60 f59 f58 f57 f56 f55 f54 f53 f52 f51 f50 f49 f48 f47 f46 f45 f44 f43 f42 f41 f40 f39 f38 f37 f36 f35 f34 f33 f32 f31 f30 f29 f28 f27 f26 f25 f24 f23 f22 f21 f20 f19 f18 f17 f16 f15 f14 f13 f12 f11 f10 f9 f8 f7 f6 f5 f4 f3 f2 f1 f0
theorem q_310_31 {q0 : Nat} {n0 n1 n2 n3 n4 n5 n6 n7 n8 n9 n10 n11 n12 n13 n14 n15 n16 n17 n18 n19 n20 n21 n22 n23 n24 n25 n26 n27 n28 n29 n30 n31 n32 : Int} {H0 H1 H2 H3 : gH} (f0 : n0 ≤ 240) (f1 : 0 ≤ n0) (f2 : n1 ≤ 1007) (f3 : 0 ≤ n1) (f4 : n2 ≤ 39) (f5 : 0 ≤ n2) (f6 : n3 ≤ 5) (f7 : 0 ≤ n3) (f8 : n4 ≤ 2147483647) (f9 : (-2147483648) ≤ n4) (f10 : n5 ≤ 7) (f11 : 0 ≤ n5) (f12 : n6 = 285) (f13 : n7 ≤ 5) (f14 : 0 ≤ n7) (f15 : n8 ≤ 2147483647) (f16 : (-2147483648) ≤ n8) (f17 : n9 ≤ 7) (f18 : 0 ≤ n9) (f19 : n10 = 285) (f20 : (hLe T0 H0 H1 ∧ hFr s_310.2.2.2.2 H0 H1 ∧ hWt T0 H1) ∧ (Ab_310_110 n10 n9 n8 n7 n6 n5 n4 n3 n2 n1 n0 H0 H1 ∧ preb_310 n10 n9 n8 n7 H0) ∧ some q0 = some (mub_310_110 n10 n9 n8 n7 n6 n5 n4 n3 n2 n1 n0 H0 H1)) (f21 : n11 = 4) (f22 : n12 = 325) (f23 : n12 = hV H1 (n6).toNat 61) (f24 : n13 = 293) (f25 : n13 = hV H1 (n6).toNat 19) (f26 : n14 ≤ 5) (f27 : 0 ≤ n14) (f28 : n14 = hV H1 (n13).toNat (n5).toNat) (f29 : n15 ≤ 60) (f30 : 0 ≤ n15) (f31 : n15 = hV H1 (n12).toNat (n14).toNat) (f32 : n16 = w32 (n11 * n15)) (f33 : n0 < n16) (f34 : n17 ≤ 1) (f35 : 0 ≤ n17) (f36 : (hLe T0 H1 H2 ∧ hFr s_273.2.2.2.2 H1 H2 ∧ ((0 : Int) = 0 → H2.length = H1.length) ∧ hWt T0 H2) ∧ postb_273 n17 n6 n2 n0 H1 H2) (f37 : n17 ≠ 0) (f38 : n18 = 300) (f39 : n18 = hV H2 (n6).toNat 26) (f40 : n19 ≤ 9999) (f41 : (-1) ≤ n19) (f42 : n19 = hV H2 (n18).toNat (n1).toNat) (f43 : n20 ≤ 2147483647) (f44 : (-2147483648) ≤ n20) (f45 : n20 = hV H2 (n6).toNat 88) (f46 : n21 ≤ 2147483647) (f47 : (-2147483648) ≤ n21) (f48 : (hLe T0 H2 H3 ∧ hFr s_266.2.2.2.2 H2 H3 ∧ ((0 : Int) = 0 → H3.length = H2.length) ∧ hWt T0 H3) ∧ True) (f49 : n22 = 305) (f50 : n22 = hV H3 (n6).toNat 31) (f51 : n23 = 6) (f52 : n24 = w32 (n23 * n1)) (f53 : n25 = 2) (f54 : n26 = w32 (n24 + n25)) (f55 : n27 ≤ 9999) (f56 : (-1) ≤ n27) (f57 : n27 = hV H3 (n22).toNat (n26).toNat) (f58 : n28 = w32 (n21 * n27)) (f59 : n29 = 100) (f60 : n30 = o32 (fun x y => x / y) n28 n29) (f61 : n30 ≠ 0) (f62 : n31 = 4) (f63 : n32 = o32 (fun x y => x / y) n0 n31) : 0 ≤ n32 ∧ n32 < 60 := by
  have g4 := f20.2.1.1
  unfold Ab_310_110 at g4
  have g3 := f20.2.1.2
  unfold preb_310 at g3
  unfold postb_273 at f36
  have e0 : hV H1 293 = hV H0 293 := fRow f20.1.2.1 293 (by decide +kernel)
  have e1 : n14 = hV H0 293 (n5).toNat := (by rw [f24] at f28; exact f28 : n14 = hV H1 293 (n5).toNat).trans ((congrFun e0 _))
  have e2 : hV H1 325 = hV H0 325 := fRow f20.1.2.1 325 (by decide +kernel)
  have e3 : n15 = hV H0 325 (n14).toNat := (by rw [f22] at f31; exact f31 : n15 = hV H1 325 (n14).toNat).trans ((congrFun e2 _))
  have e4 : hV H2 300 = hV H1 300 := fRow f36.1.2.1 300 (by decide +kernel)
  have e5 : hV H1 300 = hV H0 300 := fRow f20.1.2.1 300 (by decide +kernel)
  have e6 : n19 = hV H0 300 (n1).toNat := (by rw [f38] at f42; exact f42 : n19 = hV H2 300 (n1).toNat).trans (((congrFun e4 _)).trans ((congrFun e5 _)))
  have e7 : n20 = hV H2 285 88 := (by rw [f12] at f45; exact f45 : n20 = hV H2 285 88)
  have e8 : hV H3 305 = hV H2 305 := fRow f48.1.2.1 305 (by decide +kernel)
  have e9 : hV H2 305 = hV H1 305 := fRow f36.1.2.1 305 (by decide +kernel)
  have e10 : hV H1 305 = hV H0 305 := fRow f20.1.2.1 305 (by decide +kernel)
  have e11 : n27 = hV H0 305 (n26).toNat := (by rw [f49] at f57; exact f57 : n27 = hV H3 305 (n26).toNat).trans (((congrFun e8 _)).trans (((congrFun e9 _)).trans ((congrFun e10 _))))
  have e12 : hV H1 285 18 = hV H0 285 18 := f20.1.2.1.1 285 18 (by decide +kernel)
  have e13 : hV H1 285 18 = hV H0 285 18 := e12
  have e14 : hV H1 285 64 = hV H0 285 64 := f20.1.2.1.1 285 64 (by decide +kernel)
  have e15 : hV H1 285 64 = hV H0 285 64 := e14
  have e16 : hV H1 298 = hV H0 298 := fRow f20.1.2.1 298 (by decide +kernel)
  have e17 : hV H2 285 64 = hV H1 285 64 := f36.1.2.1.1 285 64 (by decide +kernel)
  have e18 : hV H2 285 64 = hV H0 285 64 := (e17).trans e14
  have e19 : hV H2 300 = hV H0 300 := e4.trans e5
  have e20 : hV H2 344 = hV H1 344 := fRow f36.1.2.1 344 (by decide +kernel)
  have e21 : (0 : Int) ≤ hV H1 285 103 ∧ hV H1 285 103 ≤ 40 := f20.1.2.2 285 103 _ _ (by decide +kernel)
  have e22 : (0 : Int) ≤ hV H1 285 18 ∧ hV H1 285 18 ≤ 8 := f20.1.2.2 285 18 _ _ (by decide +kernel)
  have e23 : (0 : Int) ≤ hV H1 285 64 ∧ hV H1 285 64 ≤ 20 := f20.1.2.2 285 64 _ _ (by decide +kernel)
  have e24 : (0 : Int) ≤ hV H1 285 82 ∧ hV H1 285 82 ≤ 40 := f20.1.2.2 285 82 _ _ (by decide +kernel)
  have e25 : (0 : Int) ≤ hV H2 285 64 ∧ hV H2 285 64 ≤ 20 := f36.1.2.2.2 285 64 _ _ (by decide +kernel)
  try simp only [e13] at e22
  try simp only [e15] at e23
  try simp only [e18] at e25
  try simp only [e13, e15, e16, e5, e18, e19, e20]
  have k0 := g4.1
  have k1 := g4.2.1
  have k2 := g4.2.2.1
  have y0 := g4.2.2.2.1
  have y1 := g4.2.2.2.2.1
  have y2 := g4.2.2.2.2.2.1
  have y3 := g4.2.2.2.2.2.2.1
  have y4 := g4.2.2.2.2.2.2.2.1
  have y5 := g4.2.2.2.2.2.2.2.2.1
  have y6 := g4.2.2.2.2.2.2.2.2.2
  have p0 := g3.1
  have p1 := g3.2.1
  have p2 := g3.2.2
  have r0_0 := f36.2
  try simp only [e13, e15, e16, e5] at y0
  try simp only [e13, e15, e16, e5] at y1
  try simp only [e13, e15, e16, e5] at y2
  try simp only [e13, e15, e16, e5] at y3
  try simp only [e13, e15, e16, e5] at y4
  try simp only [e13, e15, e16, e5] at y5
  try simp only [e13, e15, e16, e5] at y6
  try simp only [e13, e15, e16, e5] at p0
  try simp only [e13, e15, e16, e5] at p1
  try simp only [e13, e15, e16, e5] at p2
  try simp only [e13, e15, e16, e5, e18, e19, e20] at r0_0
  clear g3
  clear g4
  clear f23 f25 f28 f31 f39 f42 f45 f50 f57 e0 e2 e4 e5 e8 e9 e10 e12 e13 e14 e15 e16 e17 e18 e19 e20
  clear f20 f36 f48
  subst e1
  subst e3
  subst e6
  subst e7
  subst e11
  first | have b60 := o32_div_pos f60 (by omega) (by omega) (by omega) (by omega) | skip
  try rw [f59] at b60
  first | have b63 := o32_div_pos f63 (by omega) (by omega) (by omega) (by omega) | skip
  try rw [f62] at b63
  rw [f21] at f32
  rw [f51] at f52
  unfold w32 at *
  try (have ix0 : n24 = 6 * n1 := (by omega); subst ix0)
  try (have ix1 : n26 = (6 * n1) + 2 := (by omega); subst ix1)
  try subst k2
  try subst k1
  try subst k0
  subst y0
  omega
def g_310_110_14 : vG := ([(11, [33, 10, 32], [], 0), (0, [32], [], 4), (31, [30], [], 0), (11, [30, 28, 29], [], 0), (0, [29], [], 100), (3, [28, 21, 27], [], 0), (22, [27, 22, 26], [3], 0), (90, [27], [], -1), (91, [27], [], 9999), (1, [26, 24, 25], [], 0), (0, [25], [], 2), (3, [24, 23, 9], [], 0), (0, [23], [], 6), (20, [22, 4], [3], 31), (0, [22], [], 305), (1266, [21, 4, 19, 20], [2, 3], 0), (90, [21], [], -2147483648), (91, [21], [], 2147483647), (20, [20, 4], [2], 88), (90, [20], [], -2147483648), (91, [20], [], 2147483647), (22, [19, 18, 9], [2], 0), (90, [19], [], -1), (91, [19], [], 9999), (20, [18, 4], [2], 26), (0, [18], [], 300), (31, [17], [], 0), (1273, [17, 4, 8, 10], [1, 2], 0), (90, [17], [], 0), (91, [17], [], 1), (42, [10, 16], [], 0), (3, [16, 11, 15], [], 0), (22, [15, 12, 14], [1], 0), (90, [15], [], 0), (91, [15], [], 60), (22, [14, 13, 5], [1], 0), (90, [14], [], 0), (91, [14], [], 5), (20, [13, 4], [1], 19), (0, [13], [], 293), (20, [12, 4], [1], 61), (0, [12], [], 325), (0, [11], [], 4), (5000, [0, 1, 2, 3, 4, 5, 6, 7, 8, 9, 10], [0, 1], 110), (0, [0], [], 285), (90, [1], [], 0), (91, [1], [], 7), (90, [2], [], -2147483648), (91, [2], [], 2147483647), (90, [3], [], 0), (91, [3], [], 5), (0, [4], [], 285), (90, [5], [], 0), (91, [5], [], 7), (90, [6], [], -2147483648), (91, [6], [], 2147483647), (90, [7], [], 0), (91, [7], [], 5), (90, [8], [], 0), (91, [8], [], 39), (90, [9], [], 0), (91, [9], [], 1007), (90, [10], [], 0), (91, [10], [], 240)], (70, [33], [], 60))
theorem c_310_110_14 {q0 : Nat} : vOkm T0 (eP e_310 L_310 A_310 mu_310 (some q0)) 4 g_310_110_14 := vOk_in fun ρ η h => by
  obtain ⟨f0, f1, f2, f3, f4, f5, f6, f7, f8, f9, f10, f11, f12, f13, f14, f15, f16, f17, f18, f19, f20, f21, f22, f23, f24, f25, f26, f27, f28, f29, f30, f31, f32, f33, f34, f35, f36, f37, f38, f39, f40, f41, f42, f43, f44, f45, f46, f47, f48, f49, f50, f51, f52, f53, f54, f55, f56, f57, f58, f59, f60, f61, f62, f63, _⟩ := h
  exact q_310_31 (q0 := q0) (n0 := ρ 10) (n1 := ρ 9) (n2 := ρ 8) (n3 := ρ 7) (n4 := ρ 6) (n5 := ρ 5) (n6 := ρ 4) (n7 := ρ 3) (n8 := ρ 2) (n9 := ρ 1) (n10 := ρ 0) (n11 := ρ 11) (n12 := ρ 12) (n13 := ρ 13) (n14 := ρ 14) (n15 := ρ 15) (n16 := ρ 16) (n17 := ρ 17) (n18 := ρ 18) (n19 := ρ 19) (n20 := ρ 20) (n21 := ρ 21) (n22 := ρ 22) (n23 := ρ 23) (n24 := ρ 24) (n25 := ρ 25) (n26 := ρ 26) (n27 := ρ 27) (n28 := ρ 28) (n29 := ρ 29) (n30 := ρ 30) (n31 := ρ 32) (n32 := ρ 33) (H0 := η 0) (H1 := η 1) (H2 := η 2) (H3 := η 3) f63 f62 f61 f60 f59 f58 f57 f56 f55 f54 f53 f52 f51 f50 f49 f48 f47 f46 f45 f44 f43 f42 f41 f40 f39 f38 f37 f36 f35 f34 f33 f32 f31 f30 f29 f28 f27 f26 f25 f24 f23 f22 f21 f20 f19 f18 f17 f16 f15 f14 f13 f12 f11 f10 f9 f8 f7 f6 f5 f4 f3 f2 f1 f0
def g_310_110_15 : vG := ([(10, [36, 10], [], 1), (42, [10, 16], [], 0), (3, [16, 11, 15], [], 0), (91, [15], [], 60), (0, [11], [], 4), (90, [10], [], 0)], (90, [36], [], 0))
theorem c_310_110_15 {q0 : Nat} : vOkm T0 (eP e_310 L_310 A_310 mu_310 (some q0)) 4 g_310_110_15 := vOk_in fun ρ η h => by
  obtain ⟨f0, f1, f2, f3, f4, f5, _⟩ := h
  exact q_310_23 (q0 := q0) (n0 := ρ 10) (n1 := ρ 11) (n2 := ρ 15) (n3 := ρ 16) (n4 := ρ 36) (H0 := η 0) f5 f4 f3 f2 f1 f0
def g_310_110_16 : vG := ([(10, [36, 10], [], 1), (42, [10, 16], [], 0), (3, [16, 11, 15], [], 0), (91, [15], [], 60), (0, [11], [], 4), (90, [10], [], 0)], (91, [36], [], 240))
theorem c_310_110_16 {q0 : Nat} : vOkm T0 (eP e_310 L_310 A_310 mu_310 (some q0)) 4 g_310_110_16 := vOk_in fun ρ η h => by
  obtain ⟨f0, f1, f2, f3, f4, f5, _⟩ := h
  exact q_310_24 (q0 := q0) (n0 := ρ 10) (n1 := ρ 11) (n2 := ρ 15) (n3 := ρ 16) (n4 := ρ 36) (H0 := η 0) f5 f4 f3 f2 f1 f0
theorem q_310_32 {q0 : Nat} {n0 n1 n2 n3 n4 n5 n6 n7 n8 n9 n10 n11 n12 n13 n14 n15 n16 n17 n18 n19 n20 n21 n22 n23 n24 n25 n26 n27 n28 n29 n30 n31 n32 n33 n34 n35 n36 : Int} {H0 H1 H2 H3 H4 : gH} (f0 : n0 ≤ 240) (f1 : 0 ≤ n0) (f2 : n1 ≤ 1007) (f3 : 0 ≤ n1) (f4 : n2 ≤ 39) (f5 : 0 ≤ n2) (f6 : n3 ≤ 5) (f7 : 0 ≤ n3) (f8 : n4 ≤ 2147483647) (f9 : (-2147483648) ≤ n4) (f10 : n5 ≤ 7) (f11 : 0 ≤ n5) (f12 : n6 = 285) (f13 : n7 ≤ 5) (f14 : 0 ≤ n7) (f15 : n8 ≤ 2147483647) (f16 : (-2147483648) ≤ n8) (f17 : n9 ≤ 7) (f18 : 0 ≤ n9) (f19 : n10 = 285) (f20 : (hLe T0 H0 H1 ∧ hFr s_310.2.2.2.2 H0 H1 ∧ hWt T0 H1) ∧ (Ab_310_110 n10 n9 n8 n7 n6 n5 n4 n3 n2 n1 n0 H0 H1 ∧ preb_310 n10 n9 n8 n7 H0) ∧ some q0 = some (mub_310_110 n10 n9 n8 n7 n6 n5 n4 n3 n2 n1 n0 H0 H1)) (f21 : n11 = 4) (f22 : n12 = 325) (f23 : n12 = hV H1 (n6).toNat 61) (f24 : n13 = 293) (f25 : n13 = hV H1 (n6).toNat 19) (f26 : n14 ≤ 5) (f27 : 0 ≤ n14) (f28 : n14 = hV H1 (n13).toNat (n5).toNat) (f29 : n15 ≤ 60) (f30 : 0 ≤ n15) (f31 : n15 = hV H1 (n12).toNat (n14).toNat) (f32 : n16 = w32 (n11 * n15)) (f33 : n0 < n16) (f34 : n17 ≤ 1) (f35 : 0 ≤ n17) (f36 : (hLe T0 H1 H2 ∧ hFr s_273.2.2.2.2 H1 H2 ∧ ((0 : Int) = 0 → H2.length = H1.length) ∧ hWt T0 H2) ∧ postb_273 n17 n6 n2 n0 H1 H2) (f37 : n17 ≠ 0) (f38 : n18 = 300) (f39 : n18 = hV H2 (n6).toNat 26) (f40 : n19 ≤ 9999) (f41 : (-1) ≤ n19) (f42 : n19 = hV H2 (n18).toNat (n1).toNat) (f43 : n20 ≤ 2147483647) (f44 : (-2147483648) ≤ n20) (f45 : n20 = hV H2 (n6).toNat 88) (f46 : n21 ≤ 2147483647) (f47 : (-2147483648) ≤ n21) (f48 : (hLe T0 H2 H3 ∧ hFr s_266.2.2.2.2 H2 H3 ∧ ((0 : Int) = 0 → H3.length = H2.length) ∧ hWt T0 H3) ∧ True) (f49 : n22 = 305) (f50 : n22 = hV H3 (n6).toNat 31) (f51 : n23 = 6) (f52 : n24 = w32 (n23 * n1)) (f53 : n25 = 2) (f54 : n26 = w32 (n24 + n25)) (f55 : n27 ≤ 9999) (f56 : (-1) ≤ n27) (f57 : n27 = hV H3 (n22).toNat (n26).toNat) (f58 : n28 = w32 (n21 * n27)) (f59 : n29 = 100) (f60 : n30 = o32 (fun x y => x / y) n28 n29) (f61 : n30 ≠ 0) (f62 : n31 = 356) (f63 : n31 = hV H3 (n6).toNat 98) (f64 : n32 = 4) (f65 : n33 = o32 (fun x y => x / y) n0 n32) (f66 : n34 = 1) (f67 : n35 = o32 (fun x _ => x &&& 1) n34 0) (f68 : hUpd H4 H3 n31 n33 n35) (f69 : n36 = w32 (n0 + 1)) : Ab_310_110 n10 n9 n8 n7 n6 n5 n4 n3 n2 n1 n36 H0 H4 ∧ ∀ q, some q0 = some q → mub_310_110 n10 n9 n8 n7 n6 n5 n4 n3 n2 n1 n36 H0 H4 < q := by
  have g4 := f20.2.1.1
  unfold Ab_310_110 at g4
  have g3 := f20.2.1.2
  unfold preb_310 at g3
  have g5 := Option.some.inj f20.2.2
  unfold mub_310_110 at g5
  unfold postb_273 at f36
  unfold Ab_310_110
  unfold mub_310_110
  have e0 : hV H1 293 = hV H0 293 := fRow f20.1.2.1 293 (by decide +kernel)
  have e1 : n14 = hV H0 293 (n5).toNat := (by rw [f24] at f28; exact f28 : n14 = hV H1 293 (n5).toNat).trans ((congrFun e0 _))
  have e2 : hV H1 325 = hV H0 325 := fRow f20.1.2.1 325 (by decide +kernel)
  have e3 : n15 = hV H0 325 (n14).toNat := (by rw [f22] at f31; exact f31 : n15 = hV H1 325 (n14).toNat).trans ((congrFun e2 _))
  have e4 : hV H2 300 = hV H1 300 := fRow f36.1.2.1 300 (by decide +kernel)
  have e5 : hV H1 300 = hV H0 300 := fRow f20.1.2.1 300 (by decide +kernel)
  have e6 : n19 = hV H0 300 (n1).toNat := (by rw [f38] at f42; exact f42 : n19 = hV H2 300 (n1).toNat).trans (((congrFun e4 _)).trans ((congrFun e5 _)))
  have e7 : n20 = hV H2 285 88 := (by rw [f12] at f45; exact f45 : n20 = hV H2 285 88)
  have e8 : hV H3 305 = hV H2 305 := fRow f48.1.2.1 305 (by decide +kernel)
  have e9 : hV H2 305 = hV H1 305 := fRow f36.1.2.1 305 (by decide +kernel)
  have e10 : hV H1 305 = hV H0 305 := fRow f20.1.2.1 305 (by decide +kernel)
  have e11 : n27 = hV H0 305 (n26).toNat := (by rw [f49] at f57; exact f57 : n27 = hV H3 305 (n26).toNat).trans (((congrFun e8 _)).trans (((congrFun e9 _)).trans ((congrFun e10 _))))
  have e12 : hV H1 285 18 = hV H0 285 18 := f20.1.2.1.1 285 18 (by decide +kernel)
  have e13 : hV H1 285 18 = hV H0 285 18 := e12
  have e14 : hV H1 285 64 = hV H0 285 64 := f20.1.2.1.1 285 64 (by decide +kernel)
  have e15 : hV H1 285 64 = hV H0 285 64 := e14
  have e16 : hV H1 298 = hV H0 298 := fRow f20.1.2.1 298 (by decide +kernel)
  have e17 : hV H2 285 64 = hV H1 285 64 := f36.1.2.1.1 285 64 (by decide +kernel)
  have e18 : hV H2 285 64 = hV H0 285 64 := (e17).trans e14
  have e19 : hV H2 300 = hV H0 300 := e4.trans e5
  have e20 : hV H2 344 = hV H1 344 := fRow f36.1.2.1 344 (by decide +kernel)
  have e21 : hV H4 285 103 = hV H3 285 103 := uPlace f68 _ _ (iS (show n31 = ((356 : Nat) : Int) from f62) rfl)
  have e22 : hV H3 285 103 = hV H2 285 103 := f48.1.2.1.1 285 103 (by decide +kernel)
  have e23 : hV H2 285 103 = hV H1 285 103 := f36.1.2.1.1 285 103 (by decide +kernel)
  have e24 : hV H4 285 103 = hV H1 285 103 := (e21).trans ((e22).trans e23)
  have e25 : hV H4 285 64 = hV H3 285 64 := uPlace f68 _ _ (iS (show n31 = ((356 : Nat) : Int) from f62) rfl)
  have e26 : hV H3 285 64 = hV H2 285 64 := f48.1.2.1.1 285 64 (by decide +kernel)
  have e27 : hV H4 285 64 = hV H0 285 64 := (e25).trans ((e26).trans ((e17).trans e14))
  have e28 : hV H4 285 82 = hV H3 285 82 := uPlace f68 _ _ (iS (show n31 = ((356 : Nat) : Int) from f62) rfl)
  have e29 : hV H3 285 82 = hV H2 285 82 := f48.1.2.1.1 285 82 (by decide +kernel)
  have e30 : hV H2 285 82 = hV H1 285 82 := f36.1.2.1.1 285 82 (by decide +kernel)
  have e31 : hV H4 285 82 = hV H1 285 82 := (e28).trans ((e29).trans e30)
  have e32 : hV H4 298 = hV H3 298 := uRowNe f68 _ (iS (show n31 = ((356 : Nat) : Int) from f62) rfl)
  have e33 : hV H3 298 = hV H2 298 := fRow f48.1.2.1 298 (by decide +kernel)
  have e34 : hV H2 298 = hV H1 298 := fRow f36.1.2.1 298 (by decide +kernel)
  have e35 : hV H2 298 = hV H0 298 := e34.trans e16
  have e36 : hV H3 298 = hV H0 298 := e33.trans e35
  have e37 : hV H4 298 = hV H0 298 := e32.trans e36
  have e38 : hV H4 300 = hV H3 300 := uRowNe f68 _ (iS (show n31 = ((356 : Nat) : Int) from f62) rfl)
  have e39 : hV H3 300 = hV H2 300 := fRow f48.1.2.1 300 (by decide +kernel)
  have e40 : hV H3 300 = hV H0 300 := e39.trans e19
  have e41 : hV H4 300 = hV H0 300 := e38.trans e40
  have e42 : hV H4 344 = hV H3 344 := uRowNe f68 _ (iS (show n31 = ((356 : Nat) : Int) from f62) rfl)
  have e43 : hV H3 344 = hV H2 344 := fRow f48.1.2.1 344 (by decide +kernel)
  have e44 : hV H3 344 = hV H1 344 := e43.trans e20
  have e45 : hV H4 344 = hV H1 344 := e42.trans e44
  have e46 : XQ H2 = XQ H1 := XQ_fr f36.1.2.1 (by decide +kernel)
  have e47 : XQ H3 = XQ H2 := XQ_fr f48.1.2.1 (by decide +kernel)
  have e48 : XQ H3 = XQ H1 := e47.trans e46
  have e49 : XQ H4 = XQ H3 := XQ_upR f68 (show n31 = ((356 : Nat) : Int) from f62) (by decide)
  have e50 : XQ H4 = XQ H1 := e49.trans e48
  have e51 : (0 : Int) ≤ hV H1 285 103 ∧ hV H1 285 103 ≤ 40 := f20.1.2.2 285 103 _ _ (by decide +kernel)
  have e52 : (0 : Int) ≤ hV H1 285 18 ∧ hV H1 285 18 ≤ 8 := f20.1.2.2 285 18 _ _ (by decide +kernel)
  have e53 : (0 : Int) ≤ hV H1 285 64 ∧ hV H1 285 64 ≤ 20 := f20.1.2.2 285 64 _ _ (by decide +kernel)
  have e54 : (0 : Int) ≤ hV H1 285 82 ∧ hV H1 285 82 ≤ 40 := f20.1.2.2 285 82 _ _ (by decide +kernel)
  have e55 : (0 : Int) ≤ hV H2 285 64 ∧ hV H2 285 64 ≤ 20 := f36.1.2.2.2 285 64 _ _ (by decide +kernel)
  try simp only [e13] at e52
  try simp only [e15] at e53
  try simp only [e18] at e55
  try simp only [e13, e15, e16, e5, e18, e19, e20, e24, e27, e31, e37, e41, e45, e50] at g5
  try simp only [e13, e15, e16, e5, e18, e19, e20, e24, e27, e31, e37, e41, e45, e50]
  have k0 := g4.1
  have k1 := g4.2.1
  have k2 := g4.2.2.1
  have y0 := g4.2.2.2.1
  have y1 := g4.2.2.2.2.1
  have y2 := g4.2.2.2.2.2.1
  have y3 := g4.2.2.2.2.2.2.1
  have y4 := g4.2.2.2.2.2.2.2.1
  have y5 := g4.2.2.2.2.2.2.2.2.1
  have y6 := g4.2.2.2.2.2.2.2.2.2
  have p0 := g3.1
  have p1 := g3.2.1
  have p2 := g3.2.2
  have r0_0 := f36.2
  try simp only [e13, e15, e16, e5] at y0
  try simp only [e13, e15, e16, e5] at y1
  try simp only [e13, e15, e16, e5] at y2
  try simp only [e13, e15, e16, e5] at y3
  try simp only [e13, e15, e16, e5] at y4
  try simp only [e13, e15, e16, e5] at y5
  try simp only [e13, e15, e16, e5] at y6
  try simp only [e13, e15, e16, e5] at p0
  try simp only [e13, e15, e16, e5] at p1
  try simp only [e13, e15, e16, e5] at p2
  try simp only [e13, e15, e16, e5, e18, e19, e20] at r0_0
  clear g3
  clear g4
  clear f23 f25 f28 f31 f39 f42 f45 f50 f57 f63 e0 e2 e4 e5 e8 e9 e10 e12 e13 e14 e15 e16 e17 e18 e19 e20 e21 e22 e23 e24 e25 e26 e27 e28 e29 e30 e31 e32 e33 e34 e35 e36 e37 e38 e39 e40 e41 e42 e43 e44 e45 e46 e47 e48 e49 e50
  clear f20 f36 f48
  subst e1
  subst e3
  subst e6
  subst e7
  subst e11
  first | have b60 := o32_div_pos f60 (by omega) (by omega) (by omega) (by omega) | skip
  try rw [f59] at b60
  first | have b65 := o32_div_pos f65 (by omega) (by omega) (by omega) (by omega) | skip
  try rw [f64] at b65
  rw [f21] at f32
  rw [f51] at f52
  unfold w32 at *
  try (have ix0 : n24 = 6 * n1 := (by omega); subst ix0)
  try (have ix1 : n26 = (6 * n1) + 2 := (by omega); subst ix1)
  try (have ix2 : n36 = n0 + 1 := (by omega); subst ix2)
  try subst k2
  try subst k1
  try subst k0
  subst y0
  refine ⟨?_, fun q hq => ?_⟩
  · refine ⟨?_, ?_, ?_, ?_, ?_, ?_, ?_, ?_, ?_, ?_⟩ <;> first | assumption | omega | trivial
  · have g6 := Option.some.inj hq
    subst g6
    omega
def g_310_110_17 : vG := ([(10, [36, 10], [], 1), (80, [31, 33, 35], [4, 3], 0), (16, [35, 34], [], 0), (0, [34], [], 1), (11, [33, 10, 32], [], 0), (0, [32], [], 4), (20, [31, 4], [3], 98), (0, [31], [], 356), (31, [30], [], 0), (11, [30, 28, 29], [], 0), (0, [29], [], 100), (3, [28, 21, 27], [], 0), (22, [27, 22, 26], [3], 0), (90, [27], [], -1), (91, [27], [], 9999), (1, [26, 24, 25], [], 0), (0, [25], [], 2), (3, [24, 23, 9], [], 0), (0, [23], [], 6), (20, [22, 4], [3], 31), (0, [22], [], 305), (1266, [21, 4, 19, 20], [2, 3], 0), (90, [21], [], -2147483648), (91, [21], [], 2147483647), (20, [20, 4], [2], 88), (90, [20], [], -2147483648), (91, [20], [], 2147483647), (22, [19, 18, 9], [2], 0), (90, [19], [], -1), (91, [19], [], 9999), (20, [18, 4], [2], 26), (0, [18], [], 300), (31, [17], [], 0), (1273, [17, 4, 8, 10], [1, 2], 0), (90, [17], [], 0), (91, [17], [], 1), (42, [10, 16], [], 0), (3, [16, 11, 15], [], 0), (22, [15, 12, 14], [1], 0), (90, [15], [], 0), (91, [15], [], 60), (22, [14, 13, 5], [1], 0), (90, [14], [], 0), (91, [14], [], 5), (20, [13, 4], [1], 19), (0, [13], [], 293), (20, [12, 4], [1], 61), (0, [12], [], 325), (0, [11], [], 4), (5000, [0, 1, 2, 3, 4, 5, 6, 7, 8, 9, 10], [0, 1], 110), (0, [0], [], 285), (90, [1], [], 0), (91, [1], [], 7), (90, [2], [], -2147483648), (91, [2], [], 2147483647), (90, [3], [], 0), (91, [3], [], 5), (0, [4], [], 285), (90, [5], [], 0), (91, [5], [], 7), (90, [6], [], -2147483648), (91, [6], [], 2147483647), (90, [7], [], 0), (91, [7], [], 5), (90, [8], [], 0), (91, [8], [], 39), (90, [9], [], 0), (91, [9], [], 1007), (90, [10], [], 0), (91, [10], [], 240)], (4000, [4, 5, 6, 7, 8, 9, 36], [4], 110))
theorem c_310_110_17 {q0 : Nat} : vOkm T0 (eP e_310 L_310 A_310 mu_310 (some q0)) 4 g_310_110_17 := vOk_in fun ρ η h => by
  obtain ⟨f0, f1, f2, f3, f4, f5, f6, f7, f8, f9, f10, f11, f12, f13, f14, f15, f16, f17, f18, f19, f20, f21, f22, f23, f24, f25, f26, f27, f28, f29, f30, f31, f32, f33, f34, f35, f36, f37, f38, f39, f40, f41, f42, f43, f44, f45, f46, f47, f48, f49, f50, f51, f52, f53, f54, f55, f56, f57, f58, f59, f60, f61, f62, f63, f64, f65, f66, f67, f68, f69, _⟩ := h
  exact q_310_32 (q0 := q0) (n0 := ρ 10) (n1 := ρ 9) (n2 := ρ 8) (n3 := ρ 7) (n4 := ρ 6) (n5 := ρ 5) (n6 := ρ 4) (n7 := ρ 3) (n8 := ρ 2) (n9 := ρ 1) (n10 := ρ 0) (n11 := ρ 11) (n12 := ρ 12) (n13 := ρ 13) (n14 := ρ 14) (n15 := ρ 15) (n16 := ρ 16) (n17 := ρ 17) (n18 := ρ 18) (n19 := ρ 19) (n20 := ρ 20) (n21 := ρ 21) (n22 := ρ 22) (n23 := ρ 23) (n24 := ρ 24) (n25 := ρ 25) (n26 := ρ 26) (n27 := ρ 27) (n28 := ρ 28) (n29 := ρ 29) (n30 := ρ 30) (n31 := ρ 31) (n32 := ρ 32) (n33 := ρ 33) (n34 := ρ 34) (n35 := ρ 35) (n36 := ρ 36) (H0 := η 0) (H1 := η 1) (H2 := η 2) (H3 := η 3) (H4 := η 4) f69 f68 f67 f66 f65 f64 f63 f62 f61 f60 f59 f58 f57 f56 f55 f54 f53 f52 f51 f50 f49 f48 f47 f46 f45 f44 f43 f42 f41 f40 f39 f38 f37 f36 f35 f34 f33 f32 f31 f30 f29 f28 f27 f26 f25 f24 f23 f22 f21 f20 f19 f18 f17 f16 f15 f14 f13 f12 f11 f10 f9 f8 f7 f6 f5 f4 f3 f2 f1 f0
def p_310_110 : List vG := [g_310_110_0,
  g_310_110_1,
  g_310_110_2,
  g_310_110_3,
  g_310_110_4,
  g_310_110_5,
  g_310_110_6,
  g_310_110_7,
  g_310_110_8,
  g_310_110_9,
  g_310_110_10,
  g_310_110_11,
  g_310_110_12,
  g_310_110_13,
  g_310_110_14,
  g_310_110_15,
  g_310_110_16,
  g_310_110_17]
theorem r_310_110 : vCovO true (eRc e_310 L_310 cs_310 2000 (110, [(0, (3, 12, 285, 0)), (1, (0, 0, 7, 0)), (2, (0, -2147483648, 2147483647, 0)), (3, (0, 0, 5, 0)), (4, (0, 0, 39, 0)), (5, (0, 0, 1007, 0)), (6, (0, 0, 240, 0))])) p_310_110 = true := by decide +kernel
theorem q_310_33 {q0 : Nat} {n0 n1 : Int} {H0 : gH} (f0 : n0 ≤ 60) (f1 : n1 < n0) : n1 ≤ 59 := by
  omega
def g_310_201_0 : vG := ([(42, [9, 11], [], 0), (91, [11], [], 60)], (91, [9], [], 59))
theorem c_310_201_0 {q0 : Nat} : vOkm T0 (eP e_310 L_310 A_310 mu_310 (some q0)) 4 g_310_201_0 := vOk_in fun ρ η h => by
  obtain ⟨f0, f1, _⟩ := h
  exact q_310_33 (q0 := q0) (n0 := ρ 11) (n1 := ρ 9) (H0 := η 0) f1 f0
theorem q_310_34 {q0 : Nat} {n0 n1 n2 : Int} {H0 : gH} (f0 : 0 ≤ n0) (f1 : n1 ≤ 60) (f2 : n0 < n1) (f3 : n2 = w32 (n0 + 1)) : 0 ≤ n2 := by
  unfold w32 at *
  try (have ix0 : n2 = n0 + 1 := (by omega); subst ix0)
  omega
def g_310_201_1 : vG := ([(10, [16, 9], [], 1), (42, [9, 11], [], 0), (91, [11], [], 60), (90, [9], [], 0)], (90, [16], [], 0))
theorem c_310_201_1 {q0 : Nat} : vOkm T0 (eP e_310 L_310 A_310 mu_310 (some q0)) 4 g_310_201_1 := vOk_in fun ρ η h => by
  obtain ⟨f0, f1, f2, f3, _⟩ := h
  exact q_310_34 (q0 := q0) (n0 := ρ 9) (n1 := ρ 11) (n2 := ρ 16) (H0 := η 0) f3 f2 f1 f0
theorem q_310_35 {q0 : Nat} {n0 n1 n2 : Int} {H0 : gH} (f0 : 0 ≤ n0) (f1 : n1 ≤ 60) (f2 : n0 < n1) (f3 : n2 = w32 (n0 + 1)) : n2 ≤ 60 := by
  unfold w32 at *
  try (have ix0 : n2 = n0 + 1 := (by omega); subst ix0)
  omega
def g_310_201_2 : vG := ([(10, [16, 9], [], 1), (42, [9, 11], [], 0), (91, [11], [], 60), (90, [9], [], 0)], (91, [16], [], 60))
theorem c_310_201_2 {q0 : Nat} : vOkm T0 (eP e_310 L_310 A_310 mu_310 (some q0)) 4 g_310_201_2 := vOk_in fun ρ η h => by
  obtain ⟨f0, f1, f2, f3, _⟩ := h
  exact q_310_35 (q0 := q0) (n0 := ρ 9) (n1 := ρ 11) (n2 := ρ 16) (H0 := η 0) f3 f2 f1 f0
theorem q_310_36 {q0 : Nat} {n0 n1 n2 n3 n4 n5 n6 n7 n8 n9 n10 n11 n12 n13 n14 n15 n16 : Int} {H0 H1 H2 : gH} (f0 : n0 ≤ 60) (f1 : 0 ≤ n0) (f2 : n1 ≤ 2147483647) (f3 : (-2147483648) ≤ n1) (f4 : n2 ≤ 5) (f5 : 0 ≤ n2) (f6 : n3 ≤ 2147483647) (f7 : (-2147483648) ≤ n3) (f8 : n4 ≤ 7) (f9 : 0 ≤ n4) (f10 : n5 = 285) (f11 : n6 ≤ 5) (f12 : 0 ≤ n6) (f13 : n7 ≤ 2147483647) (f14 : (-2147483648) ≤ n7) (f15 : n8 ≤ 7) (f16 : 0 ≤ n8) (f17 : n9 = 285) (f18 : (hLe T0 H0 H1 ∧ hFr s_310.2.2.2.2 H0 H1 ∧ hWt T0 H1) ∧ (Ab_310_201 n9 n8 n7 n6 n5 n4 n3 n2 n1 n0 H0 H1 ∧ preb_310 n9 n8 n7 n6 H0) ∧ some q0 = some (mub_310_201 n9 n8 n7 n6 n5 n4 n3 n2 n1 n0 H0 H1)) (f19 : n10 = 325) (f20 : n10 = hV H1 (n5).toNat 61) (f21 : n11 ≤ 60) (f22 : 0 ≤ n11) (f23 : n11 = hV H1 (n10).toNat (n2).toNat) (f24 : n0 < n11) (f25 : n12 = 293) (f26 : n12 = hV H1 (n5).toNat 19) (f27 : n13 ≤ 5) (f28 : 0 ≤ n13) (f29 : n13 = hV H1 (n12).toNat (n4).toNat) (f30 : n14 ≤ 59) (f31 : (-1) ≤ n14) (f32 : (hLe T0 H1 H2 ∧ hFr s_248.2.2.2.2 H1 H2 ∧ ((0 : Int) = 0 → H2.length = H1.length) ∧ hWt T0 H2) ∧ True) (f33 : n15 = (-1)) (f34 : n14 = n15) (f35 : n16 = w32 (n0 + 1)) : Ab_310_201 n9 n8 n7 n6 n5 n4 n3 n2 n1 n16 H0 H2 ∧ ∀ q, some q0 = some q → mub_310_201 n9 n8 n7 n6 n5 n4 n3 n2 n1 n16 H0 H2 < q := by
  have g4 := f18.2.1.1
  unfold Ab_310_201 at g4
  have g3 := f18.2.1.2
  unfold preb_310 at g3
  have g5 := Option.some.inj f18.2.2
  unfold mub_310_201 at g5
  unfold Ab_310_201
  unfold mub_310_201
  have e0 : hV H1 325 = hV H0 325 := fRow f18.1.2.1 325 (by decide +kernel)
  have e1 : n11 = hV H0 325 (n2).toNat := (by rw [f19] at f23; exact f23 : n11 = hV H1 325 (n2).toNat).trans ((congrFun e0 _))
  have e2 : hV H1 293 = hV H0 293 := fRow f18.1.2.1 293 (by decide +kernel)
  have e3 : n13 = hV H0 293 (n4).toNat := (by rw [f25] at f29; exact f29 : n13 = hV H1 293 (n4).toNat).trans ((congrFun e2 _))
  have e4 : hV H1 285 18 = hV H0 285 18 := f18.1.2.1.1 285 18 (by decide +kernel)
  have e5 : hV H1 285 18 = hV H0 285 18 := e4
  have e6 : (0 : Int) ≤ hV H1 285 18 ∧ hV H1 285 18 ≤ 8 := f18.1.2.2 285 18 _ _ (by decide +kernel)
  try simp only [e5] at e6
  try simp only [e5] at g5
  try simp only [e5]
  have k0 := g4.1
  have k1 := g4.2.1
  have k2 := g4.2.2.1
  have y0 := g4.2.2.2
  have p0 := g3.1
  have p1 := g3.2.1
  have p2 := g3.2.2
  try simp only [e5] at p0
  try simp only [e5] at p1
  try simp only [e5] at p2
  clear g3
  clear g4
  clear f20 f23 f26 f29 e0 e2 e4 e5
  clear f18 f32
  subst e1
  subst e3
  unfold w32 at *
  try (have ix0 : n16 = n0 + 1 := (by omega); subst ix0)
  try subst k2
  try subst k1
  try subst k0
  refine ⟨?_, fun q hq => ?_⟩
  · refine ⟨?_, ?_, ?_, ?_⟩ <;> first | assumption | omega | trivial
  · have g6 := Option.some.inj hq
    subst g6
    omega
def g_310_201_3 : vG := ([(10, [16, 9], [], 1), (40, [14, 15], [], 0), (0, [15], [], -1), (1248, [14, 4, 7, 9, 13], [1, 2], 0), (90, [14], [], -1), (91, [14], [], 59), (22, [13, 12, 5], [1], 0), (90, [13], [], 0), (91, [13], [], 5), (20, [12, 4], [1], 19), (0, [12], [], 293), (42, [9, 11], [], 0), (22, [11, 10, 7], [1], 0), (90, [11], [], 0), (91, [11], [], 60), (20, [10, 4], [1], 61), (0, [10], [], 325), (5000, [0, 1, 2, 3, 4, 5, 6, 7, 8, 9], [0, 1], 201), (0, [0], [], 285), (90, [1], [], 0), (91, [1], [], 7), (90, [2], [], -2147483648), (91, [2], [], 2147483647), (90, [3], [], 0), (91, [3], [], 5), (0, [4], [], 285), (90, [5], [], 0), (91, [5], [], 7), (90, [6], [], -2147483648), (91, [6], [], 2147483647), (90, [7], [], 0), (91, [7], [], 5), (90, [8], [], -2147483648), (91, [8], [], 2147483647), (90, [9], [], 0), (91, [9], [], 60)], (4000, [4, 5, 6, 7, 8, 16], [2], 201))
theorem c_310_201_3 {q0 : Nat} : vOkm T0 (eP e_310 L_310 A_310 mu_310 (some q0)) 4 g_310_201_3 := vOk_in fun ρ η h => by
  obtain ⟨f0, f1, f2, f3, f4, f5, f6, f7, f8, f9, f10, f11, f12, f13, f14, f15, f16, f17, f18, f19, f20, f21, f22, f23, f24, f25, f26, f27, f28, f29, f30, f31, f32, f33, f34, f35, _⟩ := h
  exact q_310_36 (q0 := q0) (n0 := ρ 9) (n1 := ρ 8) (n2 := ρ 7) (n3 := ρ 6) (n4 := ρ 5) (n5 := ρ 4) (n6 := ρ 3) (n7 := ρ 2) (n8 := ρ 1) (n9 := ρ 0) (n10 := ρ 10) (n11 := ρ 11) (n12 := ρ 12) (n13 := ρ 13) (n14 := ρ 14) (n15 := ρ 15) (n16 := ρ 16) (H0 := η 0) (H1 := η 1) (H2 := η 2) f35 f34 f33 f32 f31 f30 f29 f28 f27 f26 f25 f24 f23 f22 f21 f20 f19 f18 f17 f16 f15 f14 f13 f12 f11 f10 f9 f8 f7 f6 f5 f4 f3 f2 f1 f0
theorem q_310_37 {q0 : Nat} {n0 n1 : Int} {H0 : gH} (f0 : n0 ≤ 59) (f1 : (-1) ≤ n0) (f2 : n1 = (-1)) (f3 : n0 ≠ n1) : 0 ≤ n0 ∧ n0 < 60 := by
  omega
def g_310_201_4 : vG := ([(41, [14, 15], [], 0), (0, [15], [], -1), (90, [14], [], -1), (91, [14], [], 59)], (70, [14], [], 60))
theorem c_310_201_4 {q0 : Nat} : vOkm T0 (eP e_310 L_310 A_310 mu_310 (some q0)) 4 g_310_201_4 := vOk_in fun ρ η h => by
  obtain ⟨f0, f1, f2, f3, _⟩ := h
  exact q_310_37 (q0 := q0) (n0 := ρ 14) (n1 := ρ 15) (H0 := η 0) f3 f2 f1 f0
def g_310_201_5 : vG := ([(10, [18, 9], [], 1), (42, [9, 11], [], 0), (91, [11], [], 60), (90, [9], [], 0)], (90, [18], [], 0))
theorem c_310_201_5 {q0 : Nat} : vOkm T0 (eP e_310 L_310 A_310 mu_310 (some q0)) 4 g_310_201_5 := vOk_in fun ρ η h => by
  obtain ⟨f0, f1, f2, f3, _⟩ := h
  exact q_310_34 (q0 := q0) (n0 := ρ 9) (n1 := ρ 11) (n2 := ρ 18) (H0 := η 0) f3 f2 f1 f0
def g_310_201_6 : vG := ([(10, [18, 9], [], 1), (42, [9, 11], [], 0), (91, [11], [], 60), (90, [9], [], 0)], (91, [18], [], 60))
theorem c_310_201_6 {q0 : Nat} : vOkm T0 (eP e_310 L_310 A_310 mu_310 (some q0)) 4 g_310_201_6 := vOk_in fun ρ η h => by
  obtain ⟨f0, f1, f2, f3, _⟩ := h
  exact q_310_35 (q0 := q0) (n0 := ρ 9) (n1 := ρ 11) (n2 := ρ 18) (H0 := η 0) f3 f2 f1 f0
theorem q_310_38 {q0 : Nat} {n0 n1 n2 n3 n4 n5 n6 n7 n8 n9 n10 n11 n12 n13 n14 n15 n16 : Int} {H0 H1 H2 : gH} (f0 : n0 ≤ 60) (f1 : 0 ≤ n0) (f2 : n1 ≤ 2147483647) (f3 : (-2147483648) ≤ n1) (f4 : n2 ≤ 5) (f5 : 0 ≤ n2) (f6 : n3 ≤ 2147483647) (f7 : (-2147483648) ≤ n3) (f8 : n4 ≤ 7) (f9 : 0 ≤ n4) (f10 : n5 = 285) (f11 : n6 ≤ 5) (f12 : 0 ≤ n6) (f13 : n7 ≤ 2147483647) (f14 : (-2147483648) ≤ n7) (f15 : n8 ≤ 7) (f16 : 0 ≤ n8) (f17 : n9 = 285) (f18 : (hLe T0 H0 H1 ∧ hFr s_310.2.2.2.2 H0 H1 ∧ hWt T0 H1) ∧ (Ab_310_201 n9 n8 n7 n6 n5 n4 n3 n2 n1 n0 H0 H1 ∧ preb_310 n9 n8 n7 n6 H0) ∧ some q0 = some (mub_310_201 n9 n8 n7 n6 n5 n4 n3 n2 n1 n0 H0 H1)) (f19 : n10 = 325) (f20 : n10 = hV H1 (n5).toNat 61) (f21 : n11 ≤ 60) (f22 : 0 ≤ n11) (f23 : n11 = hV H1 (n10).toNat (n2).toNat) (f24 : n0 < n11) (f25 : n12 = 293) (f26 : n12 = hV H1 (n5).toNat 19) (f27 : n13 ≤ 5) (f28 : 0 ≤ n13) (f29 : n13 = hV H1 (n12).toNat (n4).toNat) (f30 : n14 ≤ 59) (f31 : (-1) ≤ n14) (f32 : (hLe T0 H1 H2 ∧ hFr s_248.2.2.2.2 H1 H2 ∧ ((0 : Int) = 0 → H2.length = H1.length) ∧ hWt T0 H2) ∧ True) (f33 : n15 = (-1)) (f34 : n14 ≠ n15) (f35 : n16 = w32 (n0 + 1)) : Ab_310_201 n9 n8 n7 n6 n5 n4 n3 n2 n1 n16 H0 H2 ∧ ∀ q, some q0 = some q → mub_310_201 n9 n8 n7 n6 n5 n4 n3 n2 n1 n16 H0 H2 < q := by
  have g4 := f18.2.1.1
  unfold Ab_310_201 at g4
  have g3 := f18.2.1.2
  unfold preb_310 at g3
  have g5 := Option.some.inj f18.2.2
  unfold mub_310_201 at g5
  unfold Ab_310_201
  unfold mub_310_201
  have e0 : hV H1 325 = hV H0 325 := fRow f18.1.2.1 325 (by decide +kernel)
  have e1 : n11 = hV H0 325 (n2).toNat := (by rw [f19] at f23; exact f23 : n11 = hV H1 325 (n2).toNat).trans ((congrFun e0 _))
  have e2 : hV H1 293 = hV H0 293 := fRow f18.1.2.1 293 (by decide +kernel)
  have e3 : n13 = hV H0 293 (n4).toNat := (by rw [f25] at f29; exact f29 : n13 = hV H1 293 (n4).toNat).trans ((congrFun e2 _))
  have e4 : hV H1 285 18 = hV H0 285 18 := f18.1.2.1.1 285 18 (by decide +kernel)
  have e5 : hV H1 285 18 = hV H0 285 18 := e4
  have e6 : (0 : Int) ≤ hV H1 285 18 ∧ hV H1 285 18 ≤ 8 := f18.1.2.2 285 18 _ _ (by decide +kernel)
  try simp only [e5] at e6
  try simp only [e5] at g5
  try simp only [e5]
  have k0 := g4.1
  have k1 := g4.2.1
  have k2 := g4.2.2.1
  have y0 := g4.2.2.2
  have p0 := g3.1
  have p1 := g3.2.1
  have p2 := g3.2.2
  try simp only [e5] at p0
  try simp only [e5] at p1
  try simp only [e5] at p2
  clear g3
  clear g4
  clear f20 f23 f26 f29 e0 e2 e4 e5
  clear f18 f32
  subst e1
  subst e3
  unfold w32 at *
  try (have ix0 : n16 = n0 + 1 := (by omega); subst ix0)
  try subst k2
  try subst k1
  try subst k0
  refine ⟨?_, fun q hq => ?_⟩
  · refine ⟨?_, ?_, ?_, ?_⟩ <;> first | assumption | omega | trivial
  · have g6 := Option.some.inj hq
    subst g6
    omega
def g_310_201_7 : vG := ([(10, [18, 9], [], 1), (41, [14, 15], [], 0), (0, [15], [], -1), (1248, [14, 4, 7, 9, 13], [1, 2], 0), (90, [14], [], -1), (91, [14], [], 59), (22, [13, 12, 5], [1], 0), (90, [13], [], 0), (91, [13], [], 5), (20, [12, 4], [1], 19), (0, [12], [], 293), (42, [9, 11], [], 0), (22, [11, 10, 7], [1], 0), (90, [11], [], 0), (91, [11], [], 60), (20, [10, 4], [1], 61), (0, [10], [], 325), (5000, [0, 1, 2, 3, 4, 5, 6, 7, 8, 9], [0, 1], 201), (0, [0], [], 285), (90, [1], [], 0), (91, [1], [], 7), (90, [2], [], -2147483648), (91, [2], [], 2147483647), (90, [3], [], 0), (91, [3], [], 5), (0, [4], [], 285), (90, [5], [], 0), (91, [5], [], 7), (90, [6], [], -2147483648), (91, [6], [], 2147483647), (90, [7], [], 0), (91, [7], [], 5), (90, [8], [], -2147483648), (91, [8], [], 2147483647), (90, [9], [], 0), (91, [9], [], 60)], (4000, [4, 5, 6, 7, 8, 18], [2], 201))
theorem c_310_201_7 {q0 : Nat} : vOkm T0 (eP e_310 L_310 A_310 mu_310 (some q0)) 4 g_310_201_7 := vOk_in fun ρ η h => by
  obtain ⟨f0, f1, f2, f3, f4, f5, f6, f7, f8, f9, f10, f11, f12, f13, f14, f15, f16, f17, f18, f19, f20, f21, f22, f23, f24, f25, f26, f27, f28, f29, f30, f31, f32, f33, f34, f35, _⟩ := h
  exact q_310_38 (q0 := q0) (n0 := ρ 9) (n1 := ρ 8) (n2 := ρ 7) (n3 := ρ 6) (n4 := ρ 5) (n5 := ρ 4) (n6 := ρ 3) (n7 := ρ 2) (n8 := ρ 1) (n9 := ρ 0) (n10 := ρ 10) (n11 := ρ 11) (n12 := ρ 12) (n13 := ρ 13) (n14 := ρ 14) (n15 := ρ 15) (n16 := ρ 18) (H0 := η 0) (H1 := η 1) (H2 := η 2) f35 f34 f33 f32 f31 f30 f29 f28 f27 f26 f25 f24 f23 f22 f21 f20 f19 f18 f17 f16 f15 f14 f13 f12 f11 f10 f9 f8 f7 f6 f5 f4 f3 f2 f1 f0
def g_310_201_8 : vG := ([(10, [19, 9], [], 1), (42, [9, 11], [], 0), (91, [11], [], 60), (90, [9], [], 0)], (90, [19], [], 0))
theorem c_310_201_8 {q0 : Nat} : vOkm T0 (eP e_310 L_310 A_310 mu_310 (some q0)) 4 g_310_201_8 := vOk_in fun ρ η h => by
  obtain ⟨f0, f1, f2, f3, _⟩ := h
  exact q_310_34 (q0 := q0) (n0 := ρ 9) (n1 := ρ 11) (n2 := ρ 19) (H0 := η 0) f3 f2 f1 f0
def g_310_201_9 : vG := ([(10, [19, 9], [], 1), (42, [9, 11], [], 0), (91, [11], [], 60), (90, [9], [], 0)], (91, [19], [], 60))
theorem c_310_201_9 {q0 : Nat} : vOkm T0 (eP e_310 L_310 A_310 mu_310 (some q0)) 4 g_310_201_9 := vOk_in fun ρ η h => by
  obtain ⟨f0, f1, f2, f3, _⟩ := h
  exact q_310_35 (q0 := q0) (n0 := ρ 9) (n1 := ρ 11) (n2 := ρ 19) (H0 := η 0) f3 f2 f1 f0
theorem q_310_39 {q0 : Nat} {n0 n1 n2 n3 n4 n5 n6 n7 n8 n9 n10 n11 n12 n13 n14 n15 n16 n17 : Int} {H0 H1 H2 : gH} (f0 : n0 ≤ 60) (f1 : 0 ≤ n0) (f2 : n1 ≤ 2147483647) (f3 : (-2147483648) ≤ n1) (f4 : n2 ≤ 5) (f5 : 0 ≤ n2) (f6 : n3 ≤ 2147483647) (f7 : (-2147483648) ≤ n3) (f8 : n4 ≤ 7) (f9 : 0 ≤ n4) (f10 : n5 = 285) (f11 : n6 ≤ 5) (f12 : 0 ≤ n6) (f13 : n7 ≤ 2147483647) (f14 : (-2147483648) ≤ n7) (f15 : n8 ≤ 7) (f16 : 0 ≤ n8) (f17 : n9 = 285) (f18 : (hLe T0 H0 H1 ∧ hFr s_310.2.2.2.2 H0 H1 ∧ hWt T0 H1) ∧ (Ab_310_201 n9 n8 n7 n6 n5 n4 n3 n2 n1 n0 H0 H1 ∧ preb_310 n9 n8 n7 n6 H0) ∧ some q0 = some (mub_310_201 n9 n8 n7 n6 n5 n4 n3 n2 n1 n0 H0 H1)) (f19 : n10 = 325) (f20 : n10 = hV H1 (n5).toNat 61) (f21 : n11 ≤ 60) (f22 : 0 ≤ n11) (f23 : n11 = hV H1 (n10).toNat (n2).toNat) (f24 : n0 < n11) (f25 : n12 = 293) (f26 : n12 = hV H1 (n5).toNat 19) (f27 : n13 ≤ 5) (f28 : 0 ≤ n13) (f29 : n13 = hV H1 (n12).toNat (n4).toNat) (f30 : n14 ≤ 59) (f31 : (-1) ≤ n14) (f32 : (hLe T0 H1 H2 ∧ hFr s_248.2.2.2.2 H1 H2 ∧ ((0 : Int) = 0 → H2.length = H1.length) ∧ hWt T0 H2) ∧ True) (f33 : n15 = (-1)) (f34 : n14 ≠ n15) (f35 : n16 = w32 (n1 + 1)) (f36 : n17 = w32 (n0 + 1)) : Ab_310_201 n9 n8 n7 n6 n5 n4 n3 n2 n16 n17 H0 H2 ∧ ∀ q, some q0 = some q → mub_310_201 n9 n8 n7 n6 n5 n4 n3 n2 n16 n17 H0 H2 < q := by
  have g4 := f18.2.1.1
  unfold Ab_310_201 at g4
  have g3 := f18.2.1.2
  unfold preb_310 at g3
  have g5 := Option.some.inj f18.2.2
  unfold mub_310_201 at g5
  unfold Ab_310_201
  unfold mub_310_201
  have e0 : hV H1 325 = hV H0 325 := fRow f18.1.2.1 325 (by decide +kernel)
  have e1 : n11 = hV H0 325 (n2).toNat := (by rw [f19] at f23; exact f23 : n11 = hV H1 325 (n2).toNat).trans ((congrFun e0 _))
  have e2 : hV H1 293 = hV H0 293 := fRow f18.1.2.1 293 (by decide +kernel)
  have e3 : n13 = hV H0 293 (n4).toNat := (by rw [f25] at f29; exact f29 : n13 = hV H1 293 (n4).toNat).trans ((congrFun e2 _))
  have e4 : hV H1 285 18 = hV H0 285 18 := f18.1.2.1.1 285 18 (by decide +kernel)
  have e5 : hV H1 285 18 = hV H0 285 18 := e4
  have e6 : (0 : Int) ≤ hV H1 285 18 ∧ hV H1 285 18 ≤ 8 := f18.1.2.2 285 18 _ _ (by decide +kernel)
  try simp only [e5] at e6
  try simp only [e5] at g5
  try simp only [e5]
  have k0 := g4.1
  have k1 := g4.2.1
  have k2 := g4.2.2.1
  have y0 := g4.2.2.2
  have p0 := g3.1
  have p1 := g3.2.1
  have p2 := g3.2.2
  try simp only [e5] at p0
  try simp only [e5] at p1
  try simp only [e5] at p2
  clear g3
  clear g4
  clear f20 f23 f26 f29 e0 e2 e4 e5
  clear f18 f32
  subst e1
  subst e3
  unfold w32 at *
  try (have ix0 : n16 = n1 + 1 := (by omega); subst ix0)
  try (have ix1 : n17 = n0 + 1 := (by omega); subst ix1)
  try subst k2
  try subst k1
  try subst k0
  refine ⟨?_, fun q hq => ?_⟩
  · refine ⟨?_, ?_, ?_, ?_⟩ <;> first | assumption | omega | trivial
  · have g6 := Option.some.inj hq
    subst g6
    omega
def g_310_201_10 : vG := ([(10, [19, 9], [], 1), (10, [18, 8], [], 1), (41, [14, 15], [], 0), (0, [15], [], -1), (1248, [14, 4, 7, 9, 13], [1, 2], 0), (90, [14], [], -1), (91, [14], [], 59), (22, [13, 12, 5], [1], 0), (90, [13], [], 0), (91, [13], [], 5), (20, [12, 4], [1], 19), (0, [12], [], 293), (42, [9, 11], [], 0), (22, [11, 10, 7], [1], 0), (90, [11], [], 0), (91, [11], [], 60), (20, [10, 4], [1], 61), (0, [10], [], 325), (5000, [0, 1, 2, 3, 4, 5, 6, 7, 8, 9], [0, 1], 201), (0, [0], [], 285), (90, [1], [], 0), (91, [1], [], 7), (90, [2], [], -2147483648), (91, [2], [], 2147483647), (90, [3], [], 0), (91, [3], [], 5), (0, [4], [], 285), (90, [5], [], 0), (91, [5], [], 7), (90, [6], [], -2147483648), (91, [6], [], 2147483647), (90, [7], [], 0), (91, [7], [], 5), (90, [8], [], -2147483648), (91, [8], [], 2147483647), (90, [9], [], 0), (91, [9], [], 60)], (4000, [4, 5, 6, 7, 18, 19], [2], 201))
theorem c_310_201_10 {q0 : Nat} : vOkm T0 (eP e_310 L_310 A_310 mu_310 (some q0)) 4 g_310_201_10 := vOk_in fun ρ η h => by
  obtain ⟨f0, f1, f2, f3, f4, f5, f6, f7, f8, f9, f10, f11, f12, f13, f14, f15, f16, f17, f18, f19, f20, f21, f22, f23, f24, f25, f26, f27, f28, f29, f30, f31, f32, f33, f34, f35, f36, _⟩ := h
  exact q_310_39 (q0 := q0) (n0 := ρ 9) (n1 := ρ 8) (n2 := ρ 7) (n3 := ρ 6) (n4 := ρ 5) (n5 := ρ 4) (n6 := ρ 3) (n7 := ρ 2) (n8 := ρ 1) (n9 := ρ 0) (n10 := ρ 10) (n11 := ρ 11) (n12 := ρ 12) (n13 := ρ 13) (n14 := ρ 14) (n15 := ρ 15) (n16 := ρ 18) (n17 := ρ 19) (H0 := η 0) (H1 := η 1) (H2 := η 2) f36 f35 f34 f33 f32 f31 f30 f29 f28 f27 f26 f25 f24 f23 f22 f21 f20 f19 f18 f17 f16 f15 f14 f13 f12 f11 f10 f9 f8 f7 f6 f5 f4 f3 f2 f1 f0
def p_310_201 : List vG := [g_310_201_0,
  g_310_201_1,
  g_310_201_2,
  g_310_201_3,
  g_310_201_4,
  g_310_201_5,
  g_310_201_6,
  g_310_201_7,
  g_310_201_8,
  g_310_201_9,
  g_310_201_10]
theorem r_310_201 : vCovO true (eRc e_310 L_310 cs_310 2000 (201, [(0, (3, 12, 285, 0)), (1, (0, 0, 7, 0)), (2, (0, -2147483648, 2147483647, 0)), (3, (0, 0, 5, 0)), (4, (0, -2147483648, 2147483647, 0)), (5, (0, 0, 60, 0))])) p_310_201 = true := by decide +kernel
theorem m_310 (d : Nat) : eC e_310 (d + 4) := eC_ok (e := e_310) (L := L_310) (cs := cs_310) (n := 2000) (d := d + 3) (A := A_310) (μ := mu_310) (tp := true) (p0 := p_310_s) rfl ⟨m_248 (d + 2), ⟨m_250 (d + 2), ⟨m_264 (d + 2), ⟨m_266 (d + 1), ⟨m_270 (d + 1), ⟨m_273 d, trivial⟩⟩⟩⟩⟩⟩ rfl (.inl rfl) (by decide +kernel) (fun _ => post0_ok) r_310_s (allC c_310_s_0 (allC c_310_s_1 allN)) (allC (.inl ⟨p_310_13, r_310_13, fun q0 => (allC c_310_13_0 (allC c_310_13_1 (allC c_310_13_2 (allC c_310_13_3 (allC c_310_13_4 allN)))))⟩) (allC (.inl ⟨p_310_37, r_310_37, fun q0 => (allC c_310_37_0 (allC c_310_37_1 (allC c_310_37_2 (allC c_310_37_3 (allC c_310_37_4 (allC c_310_37_5 (allC c_310_37_6 (allC c_310_37_7 (allC c_310_37_8 (allC c_310_37_9 (allC c_310_37_10 (allC c_310_37_11 (allC c_310_37_12 (allC c_310_37_13 (allC c_310_37_14 (allC c_310_37_15 allN))))))))))))))))⟩) (allC (.inl ⟨p_310_110, r_310_110, fun q0 => (allC c_310_110_0 (allC c_310_110_1 (allC c_310_110_2 (allC c_310_110_3 (allC c_310_110_4 (allC c_310_110_5 (allC c_310_110_6 (allC c_310_110_7 (allC c_310_110_8 (allC c_310_110_9 (allC c_310_110_10 (allC c_310_110_11 (allC c_310_110_12 (allC c_310_110_13 (allC c_310_110_14 (allC c_310_110_15 (allC c_310_110_16 (allC c_310_110_17 allN))))))))))))))))))⟩) (allC (.inl ⟨p_310_201, r_310_201, fun q0 => (allC c_310_201_0 (allC c_310_201_1 (allC c_310_201_2 (allC c_310_201_3 (allC c_310_201_4 (allC c_310_201_5 (allC c_310_201_6 (allC c_310_201_7 (allC c_310_201_8 (allC c_310_201_9 (allC c_310_201_10 allN)))))))))))⟩) allN))))
/- MixStageModel.isMusic (III)Z -/
noncomputable def s_311 : vM := ([(3, 12, 285, 0), (0, -2147483648, 2147483647, 0), (0, -2147483648, 2147483647, 0), (0, -2147483648, 2147483647, 0)], (0, 0, 1, 0), 0, 0, [])
def postb_311 (r a0 a1 a2 a3 : Int) (h0 h : gH) : Prop := r ≠ 0 → 0 ≤ a1 ∧ a1 < hV h 285 18 ∧ 0 ≤ a3 ∧ a3 < hV h 285 60 ∧ 0 ≤ a2 ∧ a2 < hV h 285 64
def post_311 : List Int → gH → gH → Prop := fun xs h0 h => match xs with
  | [r, a0, a1, a2, a3] => postb_311 r a0 a1 a2 a3 h0 h
  | _ => True
noncomputable def e_311 : vE := (311, s_311, pre0, post_311)
noncomputable def L_311 : List vE := [e_250, e_284]
def cs_311 : List vC := []
def A_311 : Int → List Int → gH → gH → Prop := fun c xs h0 h => True
def mu_311 : Int → List Int → gH → gH → Nat := fun c xs h0 h => 0
theorem q_311_0 {n0 n1 n2 n3 n4 : Int} {H0 H1 : gH} (f0 : n0 = 0) : postb_311 n0 n1 n2 n3 n4 H0 H1 := by
  unfold postb_311
  first | assumption | omega | trivial
def g_311_s_0 : vG := ([(0, [5], [], 0)], (3000, [5], [1], 32))
theorem c_311_s_0 : vOkm T0 (eP e_311 L_311 A_311 mu_311 none) 4 g_311_s_0 := vOk_in fun ρ η h => by
  obtain ⟨f0, _⟩ := h
  exact q_311_0 (n0 := ρ 5) (n1 := ρ 0) (n2 := ρ 1) (n3 := ρ 2) (n4 := ρ 3) (H0 := η 0) (H1 := η 1) f0
def g_311_s_1 : vG := ([(0, [6], [], 0)], (3000, [6], [2], 32))
theorem c_311_s_1 : vOkm T0 (eP e_311 L_311 A_311 mu_311 none) 4 g_311_s_1 := vOk_in fun ρ η h => by
  obtain ⟨f0, _⟩ := h
  exact q_311_0 (n0 := ρ 6) (n1 := ρ 0) (n2 := ρ 1) (n3 := ρ 2) (n4 := ρ 3) (H0 := η 0) (H1 := η 2) f0
theorem q_311_1 {n0 n1 n2 n3 n4 : Int} {H0 H1 H2 : gH} (f0 : n0 = 285) (f1 : hWt T0 H0 ∧ True) (f2 : 0 ≤ n4) (f3 : (hLe T0 H1 H2 ∧ hFr s_250.2.2.2.2 H1 H2 ∧ ((0 : Int) = 0 → H2.length = H1.length) ∧ hWt T0 H2) ∧ postb_250 n4 n0 n2 H1 H2) (f4 : n4 ≠ 0) : 0 ≤ n2 ∧ n2 < 20 := by
  unfold postb_250 at f3
  have e0 : hV H2 285 64 = hV H1 285 64 := f3.1.2.1.1 285 64 (by decide +kernel)
  have e1 : hV H2 285 64 = hV H1 285 64 := e0
  have e2 : (0 : Int) ≤ hV H2 285 64 ∧ hV H2 285 64 ≤ 20 := f3.1.2.2.2 285 64 _ _ (by decide +kernel)
  try simp only [e1] at e2
  try simp only [e1]
  have r0_0 := f3.2
  try simp only [e1] at r0_0
  clear e0 e1
  clear f1 f3
  omega
def g_311_s_2 : vG := ([(31, [5], [], 0), (1250, [5, 0, 2], [1, 2], 0), (90, [5], [], 0), (6000, [0, 1, 2, 3], [0], 0), (0, [0], [], 285)], (70, [2], [], 20))
theorem c_311_s_2 : vOkm T0 (eP e_311 L_311 A_311 mu_311 none) 4 g_311_s_2 := vOk_in fun ρ η h => by
  obtain ⟨f0, f1, f2, f3, f4, _⟩ := h
  exact q_311_1 (n0 := ρ 0) (n1 := ρ 1) (n2 := ρ 2) (n3 := ρ 3) (n4 := ρ 5) (H0 := η 0) (H1 := η 1) (H2 := η 2) f4 f3 f2 f1 f0
def g_311_s_3 : vG := ([(0, [9], [], 0)], (3000, [9], [2], 32))
theorem c_311_s_3 : vOkm T0 (eP e_311 L_311 A_311 mu_311 none) 4 g_311_s_3 := vOk_in fun ρ η h => by
  obtain ⟨f0, _⟩ := h
  exact q_311_0 (n0 := ρ 9) (n1 := ρ 0) (n2 := ρ 1) (n3 := ρ 2) (n4 := ρ 3) (H0 := η 0) (H1 := η 2) f0
theorem q_311_2 {n0 n1 n2 n3 n4 n5 n6 : Int} {H0 H1 H2 : gH} (f0 : n0 = 285) (f1 : (hLe T0 H0 H1 ∧ hFr s_284.2.2.2.2 H0 H1 ∧ ((0 : Int) = 0 → H1.length = H0.length) ∧ hWt T0 H1) ∧ postb_284 n1 n0 n2 n3 H0 H1) (f2 : n1 ≠ 0) (f3 : 0 ≤ n4) (f4 : (hLe T0 H1 H2 ∧ hFr s_250.2.2.2.2 H1 H2 ∧ ((0 : Int) = 0 → H2.length = H1.length) ∧ hWt T0 H2) ∧ postb_250 n4 n0 n5 H1 H2) (f5 : n4 ≠ 0) (f6 : n6 = 1) : postb_311 n6 n0 n2 n5 n3 H0 H2 := by
  unfold postb_284 at f1
  unfold postb_250 at f4
  unfold postb_311
  have e0 : hV H1 285 18 = hV H0 285 18 := f1.1.2.1.1 285 18 (by decide +kernel)
  have e1 : hV H1 285 18 = hV H0 285 18 := e0
  have e2 : hV H1 285 60 = hV H0 285 60 := f1.1.2.1.1 285 60 (by decide +kernel)
  have e3 : hV H1 285 60 = hV H0 285 60 := e2
  have e4 : hV H2 285 18 = hV H1 285 18 := f4.1.2.1.1 285 18 (by decide +kernel)
  have e5 : hV H2 285 18 = hV H0 285 18 := (e4).trans e0
  have e6 : hV H2 285 60 = hV H1 285 60 := f4.1.2.1.1 285 60 (by decide +kernel)
  have e7 : hV H2 285 60 = hV H0 285 60 := (e6).trans e2
  have e8 : hV H2 285 64 = hV H1 285 64 := f4.1.2.1.1 285 64 (by decide +kernel)
  have e9 : hV H1 285 64 = hV H0 285 64 := f1.1.2.1.1 285 64 (by decide +kernel)
  have e10 : hV H2 285 64 = hV H0 285 64 := (e8).trans e9
  have e11 : (0 : Int) ≤ hV H1 285 18 ∧ hV H1 285 18 ≤ 8 := f1.1.2.2.2 285 18 _ _ (by decide +kernel)
  have e12 : (1 : Int) ≤ hV H1 285 60 ∧ hV H1 285 60 ≤ 6 := f1.1.2.2.2 285 60 _ _ (by decide +kernel)
  have e13 : (0 : Int) ≤ hV H2 285 18 ∧ hV H2 285 18 ≤ 8 := f4.1.2.2.2 285 18 _ _ (by decide +kernel)
  have e14 : (1 : Int) ≤ hV H2 285 60 ∧ hV H2 285 60 ≤ 6 := f4.1.2.2.2 285 60 _ _ (by decide +kernel)
  have e15 : (0 : Int) ≤ hV H2 285 64 ∧ hV H2 285 64 ≤ 20 := f4.1.2.2.2 285 64 _ _ (by decide +kernel)
  try simp only [e1] at e11
  try simp only [e3] at e12
  try simp only [e5] at e13
  try simp only [e7] at e14
  try simp only [e10] at e15
  try simp only [e1, e3, e5, e7, e10]
  have r0_0 := f1.2
  have r1_0 := f4.2
  try simp only [e1, e3] at r0_0
  try simp only [e1, e3, e5, e7, e10] at r1_0
  clear e0 e1 e2 e3 e4 e5 e6 e7 e8 e9 e10
  clear f1 f4
  first | assumption | omega | trivial
def g_311_s_4 : vG := ([(0, [9], [], 1), (31, [5], [], 0), (1250, [5, 0, 2], [1, 2], 0), (90, [5], [], 0), (31, [4], [], 0), (1284, [4, 0, 1, 3], [0, 1], 0), (0, [0], [], 285)], (3000, [9], [2], 32))
theorem c_311_s_4 : vOkm T0 (eP e_311 L_311 A_311 mu_311 none) 4 g_311_s_4 := vOk_in fun ρ η h => by
  obtain ⟨f0, f1, f2, f3, f4, f5, f6, _⟩ := h
  exact q_311_2 (n0 := ρ 0) (n1 := ρ 4) (n2 := ρ 1) (n3 := ρ 3) (n4 := ρ 5) (n5 := ρ 2) (n6 := ρ 9) (H0 := η 0) (H1 := η 1) (H2 := η 2) f6 f5 f4 f3 f2 f1 f0
def p_311_s : List vG := [g_311_s_0,
  g_311_s_1,
  g_311_s_2,
  g_311_s_3,
  g_311_s_4]
theorem r_311_s : vCovO false (eR0 e_311 L_311 cs_311 2000) p_311_s = true := by decide +kernel
theorem m_311 (d : Nat) : eC e_311 (d + 3) := eC_ok (e := e_311) (L := L_311) (cs := cs_311) (n := 2000) (d := d + 2) (A := A_311) (μ := mu_311) (tp := false) (p0 := p_311_s) rfl ⟨m_250 (d + 1), ⟨m_284 d, trivial⟩⟩ rfl (.inr pre0_ok) (by decide +kernel) (fun z => nomatch z) r_311_s (allC c_311_s_0 (allC c_311_s_1 (allC c_311_s_2 (allC c_311_s_3 (allC c_311_s_4 allN))))) allN
/- MixStageModel.sounding (III)I -/
noncomputable def s_312 : vM := ([(3, 12, 285, 0), (0, -2147483648, 2147483647, 0), (0, -2147483648, 2147483647, 0), (0, -2147483648, 2147483647, 0)], (0, -2147483648, 2147483647, 0), 1, 0, [(12, 82), (12, 88), (12, 103), (572, 0), (580, 0), (588, 0), (596, 0), (604, 0), (612, 0), (679, 0)])
def preb_312 (a0 a1 a2 a3 : Int) (h : gH) : Prop := PG h ∧ SO h
def pre_312 : List Int → gH → Prop := fun xs h => match xs with
  | [a0, a1, a2, a3] => preb_312 a0 a1 a2 a3 h
  | _ => False
noncomputable def e_312 : vE := (312, s_312, pre_312, post0)
noncomputable def L_312 : List vE := [e_310, e_311]
def cs_312 : List vC := []
def A_312 : Int → List Int → gH → gH → Prop := fun c xs h0 h => True
def mu_312 : Int → List Int → gH → gH → Nat := fun c xs h0 h => 0
theorem q_312_0 {n0 n1 n2 n3 n4 : Int} {H0 H1 : gH} (f0 : n0 = 285) (f1 : (hLe T0 H0 H1 ∧ hFr s_311.2.2.2.2 H0 H1 ∧ ((0 : Int) = 0 → H1.length = H0.length) ∧ hWt T0 H1) ∧ postb_311 n1 n0 n2 n3 n4 H0 H1) (f2 : n1 ≠ 0) : 0 ≤ n2 := by
  unfold postb_311 at f1
  have e0 : hV H1 285 18 = hV H0 285 18 := f1.1.2.1.1 285 18 (by decide +kernel)
  have e1 : hV H1 285 18 = hV H0 285 18 := e0
  have e2 : hV H1 285 60 = hV H0 285 60 := f1.1.2.1.1 285 60 (by decide +kernel)
  have e3 : hV H1 285 60 = hV H0 285 60 := e2
  have e4 : hV H1 285 64 = hV H0 285 64 := f1.1.2.1.1 285 64 (by decide +kernel)
  have e5 : hV H1 285 64 = hV H0 285 64 := e4
  have e6 : (0 : Int) ≤ hV H1 285 18 ∧ hV H1 285 18 ≤ 8 := f1.1.2.2.2 285 18 _ _ (by decide +kernel)
  have e7 : (1 : Int) ≤ hV H1 285 60 ∧ hV H1 285 60 ≤ 6 := f1.1.2.2.2 285 60 _ _ (by decide +kernel)
  have e8 : (0 : Int) ≤ hV H1 285 64 ∧ hV H1 285 64 ≤ 20 := f1.1.2.2.2 285 64 _ _ (by decide +kernel)
  try simp only [e1] at e6
  try simp only [e3] at e7
  try simp only [e5] at e8
  try simp only [e1, e3, e5]
  have r0_0 := f1.2
  try simp only [e1, e3, e5] at r0_0
  clear e0 e1 e2 e3 e4 e5
  clear f1
  omega
def g_312_s_0 : vG := ([(31, [4], [], 0), (1311, [4, 0, 1, 2, 3], [0, 1], 0), (0, [0], [], 285)], (90, [1], [], 0))
theorem c_312_s_0 : vOkm T0 (eP e_312 L_312 A_312 mu_312 none) 4 g_312_s_0 := vOk_in fun ρ η h => by
  obtain ⟨f0, f1, f2, _⟩ := h
  exact q_312_0 (n0 := ρ 0) (n1 := ρ 4) (n2 := ρ 1) (n3 := ρ 2) (n4 := ρ 3) (H0 := η 0) (H1 := η 1) f2 f1 f0
theorem q_312_1 {n0 n1 n2 n3 n4 : Int} {H0 H1 : gH} (f0 : n0 = 285) (f1 : hWt T0 H0 ∧ preb_312 n0 n1 n2 n3 H0) (f2 : (hLe T0 H0 H1 ∧ hFr s_311.2.2.2.2 H0 H1 ∧ ((0 : Int) = 0 → H1.length = H0.length) ∧ hWt T0 H1) ∧ postb_311 n4 n0 n1 n2 n3 H0 H1) (f3 : n4 ≠ 0) : n1 ≤ 7 := by
  unfold preb_312 at f1
  unfold postb_311 at f2
  have e0 : hV H1 285 18 = hV H0 285 18 := f2.1.2.1.1 285 18 (by decide +kernel)
  have e1 : hV H1 285 18 = hV H0 285 18 := e0
  have e2 : hV H1 285 60 = hV H0 285 60 := f2.1.2.1.1 285 60 (by decide +kernel)
  have e3 : hV H1 285 60 = hV H0 285 60 := e2
  have e4 : hV H1 285 64 = hV H0 285 64 := f2.1.2.1.1 285 64 (by decide +kernel)
  have e5 : hV H1 285 64 = hV H0 285 64 := e4
  have e6 : (0 : Int) ≤ hV H1 285 18 ∧ hV H1 285 18 ≤ 8 := f2.1.2.2.2 285 18 _ _ (by decide +kernel)
  have e7 : (0 : Int) ≤ hV H0 285 18 ∧ hV H0 285 18 ≤ 8 := f1.1 285 18 _ _ (by decide +kernel)
  have e8 : (1 : Int) ≤ hV H1 285 60 ∧ hV H1 285 60 ≤ 6 := f2.1.2.2.2 285 60 _ _ (by decide +kernel)
  have e9 : (1 : Int) ≤ hV H0 285 60 ∧ hV H0 285 60 ≤ 6 := f1.1 285 60 _ _ (by decide +kernel)
  have e10 : (0 : Int) ≤ hV H1 285 64 ∧ hV H1 285 64 ≤ 20 := f2.1.2.2.2 285 64 _ _ (by decide +kernel)
  have e11 : (0 : Int) ≤ hV H0 285 64 ∧ hV H0 285 64 ≤ 20 := f1.1 285 64 _ _ (by decide +kernel)
  try simp only [e1] at e6
  try simp only [e3] at e8
  try simp only [e5] at e10
  try simp only [e1, e3, e5]
  have p0 := f1.2.1
  have p1 := f1.2.2
  have r0_0 := f2.2
  try simp only [e1, e3, e5] at r0_0
  clear e0 e1 e2 e3 e4 e5
  clear f1 f2
  omega
def g_312_s_1 : vG := ([(31, [4], [], 0), (1311, [4, 0, 1, 2, 3], [0, 1], 0), (6000, [0, 1, 2, 3], [0], 0), (0, [0], [], 285)], (91, [1], [], 7))
theorem c_312_s_1 : vOkm T0 (eP e_312 L_312 A_312 mu_312 none) 4 g_312_s_1 := vOk_in fun ρ η h => by
  obtain ⟨f0, f1, f2, f3, _⟩ := h
  exact q_312_1 (n0 := ρ 0) (n1 := ρ 1) (n2 := ρ 2) (n3 := ρ 3) (n4 := ρ 4) (H0 := η 0) (H1 := η 1) f3 f2 f1 f0
theorem q_312_2 {n0 n1 n2 n3 n4 : Int} {H0 H1 : gH} (f0 : n0 = 285) (f1 : (hLe T0 H0 H1 ∧ hFr s_311.2.2.2.2 H0 H1 ∧ ((0 : Int) = 0 → H1.length = H0.length) ∧ hWt T0 H1) ∧ postb_311 n1 n0 n2 n3 n4 H0 H1) (f2 : n1 ≠ 0) : 0 ≤ n4 := by
  unfold postb_311 at f1
  have e0 : hV H1 285 18 = hV H0 285 18 := f1.1.2.1.1 285 18 (by decide +kernel)
  have e1 : hV H1 285 18 = hV H0 285 18 := e0
  have e2 : hV H1 285 60 = hV H0 285 60 := f1.1.2.1.1 285 60 (by decide +kernel)
  have e3 : hV H1 285 60 = hV H0 285 60 := e2
  have e4 : hV H1 285 64 = hV H0 285 64 := f1.1.2.1.1 285 64 (by decide +kernel)
  have e5 : hV H1 285 64 = hV H0 285 64 := e4
  have e6 : (0 : Int) ≤ hV H1 285 18 ∧ hV H1 285 18 ≤ 8 := f1.1.2.2.2 285 18 _ _ (by decide +kernel)
  have e7 : (1 : Int) ≤ hV H1 285 60 ∧ hV H1 285 60 ≤ 6 := f1.1.2.2.2 285 60 _ _ (by decide +kernel)
  have e8 : (0 : Int) ≤ hV H1 285 64 ∧ hV H1 285 64 ≤ 20 := f1.1.2.2.2 285 64 _ _ (by decide +kernel)
  try simp only [e1] at e6
  try simp only [e3] at e7
  try simp only [e5] at e8
  try simp only [e1, e3, e5]
  have r0_0 := f1.2
  try simp only [e1, e3, e5] at r0_0
  clear e0 e1 e2 e3 e4 e5
  clear f1
  omega
def g_312_s_2 : vG := ([(31, [4], [], 0), (1311, [4, 0, 1, 2, 3], [0, 1], 0), (0, [0], [], 285)], (90, [3], [], 0))
theorem c_312_s_2 : vOkm T0 (eP e_312 L_312 A_312 mu_312 none) 4 g_312_s_2 := vOk_in fun ρ η h => by
  obtain ⟨f0, f1, f2, _⟩ := h
  exact q_312_2 (n0 := ρ 0) (n1 := ρ 4) (n2 := ρ 1) (n3 := ρ 2) (n4 := ρ 3) (H0 := η 0) (H1 := η 1) f2 f1 f0
theorem q_312_3 {n0 n1 n2 n3 n4 : Int} {H0 H1 : gH} (f0 : n0 = 285) (f1 : hWt T0 H0 ∧ preb_312 n0 n1 n2 n3 H0) (f2 : (hLe T0 H0 H1 ∧ hFr s_311.2.2.2.2 H0 H1 ∧ ((0 : Int) = 0 → H1.length = H0.length) ∧ hWt T0 H1) ∧ postb_311 n4 n0 n1 n2 n3 H0 H1) (f3 : n4 ≠ 0) : n3 ≤ 5 := by
  unfold preb_312 at f1
  unfold postb_311 at f2
  have e0 : hV H1 285 18 = hV H0 285 18 := f2.1.2.1.1 285 18 (by decide +kernel)
  have e1 : hV H1 285 18 = hV H0 285 18 := e0
  have e2 : hV H1 285 60 = hV H0 285 60 := f2.1.2.1.1 285 60 (by decide +kernel)
  have e3 : hV H1 285 60 = hV H0 285 60 := e2
  have e4 : hV H1 285 64 = hV H0 285 64 := f2.1.2.1.1 285 64 (by decide +kernel)
  have e5 : hV H1 285 64 = hV H0 285 64 := e4
  have e6 : (0 : Int) ≤ hV H1 285 18 ∧ hV H1 285 18 ≤ 8 := f2.1.2.2.2 285 18 _ _ (by decide +kernel)
  have e7 : (0 : Int) ≤ hV H0 285 18 ∧ hV H0 285 18 ≤ 8 := f1.1 285 18 _ _ (by decide +kernel)
  have e8 : (1 : Int) ≤ hV H1 285 60 ∧ hV H1 285 60 ≤ 6 := f2.1.2.2.2 285 60 _ _ (by decide +kernel)
  have e9 : (1 : Int) ≤ hV H0 285 60 ∧ hV H0 285 60 ≤ 6 := f1.1 285 60 _ _ (by decide +kernel)
  have e10 : (0 : Int) ≤ hV H1 285 64 ∧ hV H1 285 64 ≤ 20 := f2.1.2.2.2 285 64 _ _ (by decide +kernel)
  have e11 : (0 : Int) ≤ hV H0 285 64 ∧ hV H0 285 64 ≤ 20 := f1.1 285 64 _ _ (by decide +kernel)
  try simp only [e1] at e6
  try simp only [e3] at e8
  try simp only [e5] at e10
  try simp only [e1, e3, e5]
  have p0 := f1.2.1
  have p1 := f1.2.2
  have r0_0 := f2.2
  try simp only [e1, e3, e5] at r0_0
  clear e0 e1 e2 e3 e4 e5
  clear f1 f2
  omega
def g_312_s_3 : vG := ([(31, [4], [], 0), (1311, [4, 0, 1, 2, 3], [0, 1], 0), (6000, [0, 1, 2, 3], [0], 0), (0, [0], [], 285)], (91, [3], [], 5))
theorem c_312_s_3 : vOkm T0 (eP e_312 L_312 A_312 mu_312 none) 4 g_312_s_3 := vOk_in fun ρ η h => by
  obtain ⟨f0, f1, f2, f3, _⟩ := h
  exact q_312_3 (n0 := ρ 0) (n1 := ρ 1) (n2 := ρ 2) (n3 := ρ 3) (n4 := ρ 4) (H0 := η 0) (H1 := η 1) f3 f2 f1 f0
theorem q_312_4 {n0 n1 n2 n3 n4 : Int} {H0 H1 : gH} (f0 : n0 ≤ 2147483647) (f1 : (-2147483648) ≤ n0) (f2 : n1 ≤ 2147483647) (f3 : (-2147483648) ≤ n1) (f4 : n2 ≤ 2147483647) (f5 : (-2147483648) ≤ n2) (f6 : n3 = 285) (f7 : hWt T0 H0 ∧ preb_312 n3 n2 n1 n0 H0) (f8 : n4 ≤ 1) (f9 : 0 ≤ n4) (f10 : (hLe T0 H0 H1 ∧ hFr s_311.2.2.2.2 H0 H1 ∧ ((0 : Int) = 0 → H1.length = H0.length) ∧ hWt T0 H1) ∧ postb_311 n4 n3 n2 n1 n0 H0 H1) (f11 : n4 ≠ 0) : preb_310 n3 n2 n1 n0 H1 := by
  unfold preb_312 at f7
  unfold postb_311 at f10
  unfold preb_310
  have e0 : hV H1 285 18 = hV H0 285 18 := f10.1.2.1.1 285 18 (by decide +kernel)
  have e1 : hV H1 285 18 = hV H0 285 18 := e0
  have e2 : hV H1 285 60 = hV H0 285 60 := f10.1.2.1.1 285 60 (by decide +kernel)
  have e3 : hV H1 285 60 = hV H0 285 60 := e2
  have e4 : hV H1 285 64 = hV H0 285 64 := f10.1.2.1.1 285 64 (by decide +kernel)
  have e5 : hV H1 285 64 = hV H0 285 64 := e4
  have e6 : PG H1 = PG H0 := PG_fr f10.1.2.1 (by decide +kernel)
  have e7 : SO H1 = SO H0 := SO_fr f10.1.2.1 (by decide +kernel)
  have e8 : (0 : Int) ≤ hV H1 285 18 ∧ hV H1 285 18 ≤ 8 := f10.1.2.2.2 285 18 _ _ (by decide +kernel)
  have e9 : (0 : Int) ≤ hV H0 285 18 ∧ hV H0 285 18 ≤ 8 := f7.1 285 18 _ _ (by decide +kernel)
  have e10 : (1 : Int) ≤ hV H1 285 60 ∧ hV H1 285 60 ≤ 6 := f10.1.2.2.2 285 60 _ _ (by decide +kernel)
  have e11 : (1 : Int) ≤ hV H0 285 60 ∧ hV H0 285 60 ≤ 6 := f7.1 285 60 _ _ (by decide +kernel)
  have e12 : (0 : Int) ≤ hV H1 285 64 ∧ hV H1 285 64 ≤ 20 := f10.1.2.2.2 285 64 _ _ (by decide +kernel)
  have e13 : (0 : Int) ≤ hV H0 285 64 ∧ hV H0 285 64 ≤ 20 := f7.1 285 64 _ _ (by decide +kernel)
  try simp only [e1] at e8
  try simp only [e3] at e10
  try simp only [e5] at e12
  try simp only [e1, e3, e5, e6, e7]
  have p0 := f7.2.1
  have p1 := f7.2.2
  have r0_0 := f10.2
  try simp only [e1, e3, e5, e6, e7] at r0_0
  clear e0 e1 e2 e3 e4 e5 e6 e7
  clear f7 f10
  refine ⟨?_, ?_, ?_⟩ <;> first | assumption | omega | trivial
def g_312_s_4 : vG := ([(31, [4], [], 0), (1311, [4, 0, 1, 2, 3], [0, 1], 0), (90, [4], [], 0), (91, [4], [], 1), (6000, [0, 1, 2, 3], [0], 0), (0, [0], [], 285), (90, [1], [], -2147483648), (91, [1], [], 2147483647), (90, [2], [], -2147483648), (91, [2], [], 2147483647), (90, [3], [], -2147483648), (91, [3], [], 2147483647)], (2310, [0, 1, 2, 3], [1], 0))
theorem c_312_s_4 : vOkm T0 (eP e_312 L_312 A_312 mu_312 none) 4 g_312_s_4 := vOk_in fun ρ η h => by
  obtain ⟨f0, f1, f2, f3, f4, f5, f6, f7, f8, f9, f10, f11, _⟩ := h
  exact q_312_4 (n0 := ρ 3) (n1 := ρ 2) (n2 := ρ 1) (n3 := ρ 0) (n4 := ρ 4) (H0 := η 0) (H1 := η 1) f11 f10 f9 f8 f7 f6 f5 f4 f3 f2 f1 f0
def p_312_s : List vG := [g_312_s_0,
  g_312_s_1,
  g_312_s_2,
  g_312_s_3,
  g_312_s_4]
theorem r_312_s : vCovO true (eR0 e_312 L_312 cs_312 2000) p_312_s = true := by decide +kernel
theorem m_312 (d : Nat) : eC e_312 (d + 5) := eC_ok (e := e_312) (L := L_312) (cs := cs_312) (n := 2000) (d := d + 4) (A := A_312) (μ := mu_312) (tp := true) (p0 := p_312_s) rfl ⟨m_310 d, ⟨m_311 (d + 1), trivial⟩⟩ rfl (.inl rfl) (by decide +kernel) (fun _ => post0_ok) r_312_s (allC c_312_s_0 (allC c_312_s_1 (allC c_312_s_2 (allC c_312_s_3 (allC c_312_s_4 allN))))) allN
/- MixStageModel.count (I)I -/
noncomputable def s_314 : vM := ([(3, 12, 285, 0), (0, -2147483648, 2147483647, 0)], (0, -2147483648, 2147483647, 0), 0, 0, [])
noncomputable def e_314 : vE := (314, s_314, pre0, post0)
noncomputable def L_314 : List vE := []
def cs_314 : List vC := []
def A_314 : Int → List Int → gH → gH → Prop := fun c xs h0 h => True
def mu_314 : Int → List Int → gH → gH → Nat := fun c xs h0 h => 0
def p_314_s : List vG := []
theorem r_314_s : vCovO true (eR0 e_314 L_314 cs_314 2000) p_314_s = true := by decide +kernel
theorem m_314 (d : Nat) : eC e_314 (d + 1) := eC_ok (e := e_314) (L := L_314) (cs := cs_314) (n := 2000) (d := d + 0) (A := A_314) (μ := mu_314) (tp := true) (p0 := p_314_s) rfl trivial rfl (.inr pre0_ok) (by decide +kernel) (fun _ => post0_ok) r_314_s allN allN
