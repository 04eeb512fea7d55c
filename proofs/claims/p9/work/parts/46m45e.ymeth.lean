/-! CONTRACTS of methods (printed by wip/gen/emit.py). -/
/- MixStageModel.hears (II)I -/
noncomputable def s_296 : vM := ([(3, 12, 285, 0), (0, 0, 7, 0), (0, 0, 39, 0)], (0, 0, 60, 0), 1, 0, [(12, 88), (572, 0), (679, 0)])
def preb_296 (a0 a1 a2 : Int) (h : gH) : Prop := a2 < hV h 285 82 ∧ XQ h ∧ SO h ∧ hV h 298 ((hV h 344 ((a2).toNat)).toNat) = 0
def pre_296 : List Int → gH → Prop := fun xs h => match xs with
  | [a0, a1, a2] => preb_296 a0 a1 a2 h
  | _ => False
noncomputable def e_296 : vE := (296, s_296, pre_296, post0)
noncomputable def L_296 : List vE := [e_273]
def cs_296 : List vC := [(5, [(0, (3, 12, 285, 0)), (1, (0, 0, 7, 0)), (2, (0, 0, 39, 0)), (3, (0, 0, 60, 0)), (4, (0, 0, 60, 0))]), (23, [(0, (3, 12, 285, 0)), (1, (0, 0, 7, 0)), (2, (0, 0, 39, 0)), (3, (0, 0, 59, 0)), (4, (0, 0, 59, 0)), (5, (0, 0, 4, 0))])]
def Ab_296_5 (a0 a1 a2 x0 x1 x2 x3 x4 : Int) (h0 h : gH) : Prop := x1 = a1 ∧ x2 = a2 ∧ x3 ≤ x4
def mub_296_5 (a0 a1 a2 x0 x1 x2 x3 x4 : Int) (h0 h : gH) : Nat := (8589934592 + (2147483648 - x4).toNat) * 1099511627776 + 1099511627775
def Ab_296_23 (a0 a1 a2 x0 x1 x2 x3 x4 x5 : Int) (h0 h : gH) : Prop := x1 = a1 ∧ x2 = a2 ∧ x3 ≤ x4
def mub_296_23 (a0 a1 a2 x0 x1 x2 x3 x4 x5 : Int) (h0 h : gH) : Nat := (8589934592 + (2147483648 - x4).toNat) * 1099511627776 + (8589934592 + (2147483648 - x5).toNat) * 1
def A_296 : Int → List Int → gH → gH → Prop := fun c xs h0 h => match c.toNat with
  | 5 => (match xs with
    | [a0, a1, a2, x0, x1, x2, x3, x4] => Ab_296_5 a0 a1 a2 x0 x1 x2 x3 x4 h0 h
    | _ => False)
  | 23 => (match xs with
    | [a0, a1, a2, x0, x1, x2, x3, x4, x5] => Ab_296_23 a0 a1 a2 x0 x1 x2 x3 x4 x5 h0 h
    | _ => False)
  | _ => True
def mu_296 : Int → List Int → gH → gH → Nat := fun c xs h0 h => match c.toNat with
  | 5 => (match xs with
    | [a0, a1, a2, x0, x1, x2, x3, x4] => mub_296_5 a0 a1 a2 x0 x1 x2 x3 x4 h0 h
    | _ => 0)
  | 23 => (match xs with
    | [a0, a1, a2, x0, x1, x2, x3, x4, x5] => mub_296_23 a0 a1 a2 x0 x1 x2 x3 x4 x5 h0 h
    | _ => 0)
  | _ => 0
theorem q_296_0 {n0 n1 n2 n3 n4 : Int} {H0 : gH} (f0 : n0 ≤ 39) (f1 : 0 ≤ n0) (f2 : n1 ≤ 7) (f3 : 0 ≤ n1) (f4 : n2 = 285) (f5 : hWt T0 H0 ∧ preb_296 n2 n1 n0 H0) (f6 : n3 = 0) (f7 : n4 = 0) : Ab_296_5 n2 n1 n0 n2 n1 n0 n3 n4 H0 H0 ∧ ∀ q, none = some q → mub_296_5 n2 n1 n0 n2 n1 n0 n3 n4 H0 H0 < q := by
  unfold preb_296 at f5
  unfold Ab_296_5
  have e0 : (0 : Int) ≤ hV H0 285 82 ∧ hV H0 285 82 ≤ 40 := f5.1 285 82 _ _ kW_285_82
  have p0 := f5.2.1
  have p1 := f5.2.2.1
  have p2 := f5.2.2.2.1
  have p3 := f5.2.2.2.2
  refine ⟨?_, fun q hq => ?_⟩
  · refine ⟨?_, ?_, ?_⟩ <;> first | assumption | omega | trivial
  · exact nomatch hq
theorem c_296_s_0 : vOkm T0 (eP e_296 L_296 A_296 mu_296 none) 3 ([(0, [4], [], 0), (0, [3], [], 0), (6000, [0, 1, 2], [0], 0), (0, [0], [], 285), (90, [1], [], 0), (91, [1], [], 7), (90, [2], [], 0), (91, [2], [], 39)], (4000, [0, 1, 2, 3, 4], [0], 5)) := vOk_inI fun ρ η f0 f1 f2 f3 f4 f5 f6 f7 => q_296_0 (n0 := ρ 2) (n1 := ρ 1) (n2 := ρ 0) (n3 := ρ 3) (n4 := ρ 4) (H0 := η 0) f7 f6 f5 f4 f3 f2 f1 f0
def p_296_s : List vG := [([(0, [4], [], 0), (0, [3], [], 0), (6000, [0, 1, 2], [0], 0), (0, [0], [], 285), (90, [1], [], 0), (91, [1], [], 7), (90, [2], [], 0), (91, [2], [], 39)], (4000, [0, 1, 2, 3, 4], [0], 5))]
theorem r_296_s : vCovO true (eR0 e_296 L_296 cs_296 2000) p_296_s = true := by decide +kernel
theorem kF_296_285_82 : vFree s_296.2.2.2.2 285 82 = true := by decide +kernel
theorem q_296_1 {q0 : Nat} {n0 n1 n2 n3 n4 n5 n6 n7 n8 : Int} {H0 H1 : gH} (f0 : n0 ≤ 60) (f1 : 0 ≤ n0) (f2 : n1 ≤ 60) (f3 : 0 ≤ n1) (f4 : n2 ≤ 39) (f5 : 0 ≤ n2) (f6 : n3 ≤ 7) (f7 : 0 ≤ n3) (f8 : n4 = 285) (f9 : n5 ≤ 39) (f10 : 0 ≤ n5) (f11 : n6 ≤ 7) (f12 : 0 ≤ n6) (f13 : n7 = 285) (f14 : (hLe T0 H0 H1 ∧ hFr s_296.2.2.2.2 H0 H1 ∧ hWt T0 H1) ∧ (Ab_296_5 n7 n6 n5 n4 n3 n2 n1 n0 H0 H1 ∧ preb_296 n7 n6 n5 H0) ∧ some q0 = some (mub_296_5 n7 n6 n5 n4 n3 n2 n1 n0 H0 H1)) (f15 : n8 = 60) (f16 : n0 < n8) : 0 ≤ n0 ∧ n0 < 60 := by
  have g4 := f14.2.1.1
  unfold Ab_296_5 at g4
  have g3 := f14.2.1.2
  unfold preb_296 at g3
  have e2 : (0 : Int) ≤ hV H0 285 82 ∧ hV H0 285 82 ≤ 40 := bTo ((f14.1.2.1.1 285 82 kF_296_285_82)) (f14.1.2.2 285 82 _ _ kW_285_82)
  have k0 := g4.1
  have k1 := g4.2.1
  have y0 := g4.2.2
  have p0 := g3.1
  have p1 := g3.2.1
  have p2 := g3.2.2.1
  have p3 := g3.2.2.2
  clear g3
  clear g4
  try subst k1
  try subst k0
  omega
theorem c_296_5_0 {q0 : Nat} : vOkm T0 (eP e_296 L_296 A_296 mu_296 (some q0)) 3 ([(42, [7, 8], [], 0), (0, [8], [], 60), (5000, [0, 1, 2, 3, 4, 5, 6, 7], [0, 1], 5), (0, [0], [], 285), (90, [1], [], 0), (91, [1], [], 7), (90, [2], [], 0), (91, [2], [], 39), (0, [3], [], 285), (90, [4], [], 0), (91, [4], [], 7), (90, [5], [], 0), (91, [5], [], 39), (90, [6], [], 0), (91, [6], [], 60), (90, [7], [], 0), (91, [7], [], 60)], (70, [7], [], 60)) := vOk_inI fun ρ η f0 f1 f2 f3 f4 f5 f6 f7 f8 f9 f10 f11 f12 f13 f14 f15 f16 => q_296_1 (q0 := q0) (n0 := ρ 7) (n1 := ρ 6) (n2 := ρ 5) (n3 := ρ 4) (n4 := ρ 3) (n5 := ρ 2) (n6 := ρ 1) (n7 := ρ 0) (n8 := ρ 8) (H0 := η 0) (H1 := η 1) f16 f15 f14 f13 f12 f11 f10 f9 f8 f7 f6 f5 f4 f3 f2 f1 f0
theorem q_296_2 {q0 : Nat} {n0 n1 n2 n3 n4 n5 n6 n7 n8 : Int} {H0 H1 : gH} (f0 : n0 ≤ 60) (f1 : 0 ≤ n0) (f2 : n1 ≤ 60) (f3 : 0 ≤ n1) (f4 : n2 ≤ 39) (f5 : 0 ≤ n2) (f6 : n3 ≤ 7) (f7 : 0 ≤ n3) (f8 : n4 = 285) (f9 : n5 ≤ 39) (f10 : 0 ≤ n5) (f11 : n6 ≤ 7) (f12 : 0 ≤ n6) (f13 : n7 = 285) (f14 : (hLe T0 H0 H1 ∧ hFr s_296.2.2.2.2 H0 H1 ∧ hWt T0 H1) ∧ (Ab_296_5 n7 n6 n5 n4 n3 n2 n1 n0 H0 H1 ∧ preb_296 n7 n6 n5 H0) ∧ some q0 = some (mub_296_5 n7 n6 n5 n4 n3 n2 n1 n0 H0 H1)) (f15 : n8 = 60) (f16 : n0 < n8) : n1 ≤ 59 := by
  have g4 := f14.2.1.1
  unfold Ab_296_5 at g4
  have g3 := f14.2.1.2
  unfold preb_296 at g3
  have e2 : (0 : Int) ≤ hV H0 285 82 ∧ hV H0 285 82 ≤ 40 := bTo ((f14.1.2.1.1 285 82 kF_296_285_82)) (f14.1.2.2 285 82 _ _ kW_285_82)
  have k0 := g4.1
  have k1 := g4.2.1
  have y0 := g4.2.2
  have p0 := g3.1
  have p1 := g3.2.1
  have p2 := g3.2.2.1
  have p3 := g3.2.2.2
  clear g3
  clear g4
  try subst k1
  try subst k0
  omega
theorem c_296_5_1 {q0 : Nat} : vOkm T0 (eP e_296 L_296 A_296 mu_296 (some q0)) 3 ([(42, [7, 8], [], 0), (0, [8], [], 60), (5000, [0, 1, 2, 3, 4, 5, 6, 7], [0, 1], 5), (0, [0], [], 285), (90, [1], [], 0), (91, [1], [], 7), (90, [2], [], 0), (91, [2], [], 39), (0, [3], [], 285), (90, [4], [], 0), (91, [4], [], 7), (90, [5], [], 0), (91, [5], [], 39), (90, [6], [], 0), (91, [6], [], 60), (90, [7], [], 0), (91, [7], [], 60)], (91, [6], [], 59)) := vOk_inI fun ρ η f0 f1 f2 f3 f4 f5 f6 f7 f8 f9 f10 f11 f12 f13 f14 f15 f16 => q_296_2 (q0 := q0) (n0 := ρ 7) (n1 := ρ 6) (n2 := ρ 5) (n3 := ρ 4) (n4 := ρ 3) (n5 := ρ 2) (n6 := ρ 1) (n7 := ρ 0) (n8 := ρ 8) (H0 := η 0) (H1 := η 1) f16 f15 f14 f13 f12 f11 f10 f9 f8 f7 f6 f5 f4 f3 f2 f1 f0
theorem q_296_3 {q0 : Nat} {n0 n1 n2 n3 n4 n5 n6 n7 n8 : Int} {H0 H1 : gH} (f0 : n0 ≤ 60) (f1 : 0 ≤ n0) (f2 : n1 ≤ 60) (f3 : 0 ≤ n1) (f4 : n2 ≤ 39) (f5 : 0 ≤ n2) (f6 : n3 ≤ 7) (f7 : 0 ≤ n3) (f8 : n4 = 285) (f9 : n5 ≤ 39) (f10 : 0 ≤ n5) (f11 : n6 ≤ 7) (f12 : 0 ≤ n6) (f13 : n7 = 285) (f14 : (hLe T0 H0 H1 ∧ hFr s_296.2.2.2.2 H0 H1 ∧ hWt T0 H1) ∧ (Ab_296_5 n7 n6 n5 n4 n3 n2 n1 n0 H0 H1 ∧ preb_296 n7 n6 n5 H0) ∧ some q0 = some (mub_296_5 n7 n6 n5 n4 n3 n2 n1 n0 H0 H1)) (f15 : n8 = 60) (f16 : n0 < n8) : n0 ≤ 59 := by
  have g4 := f14.2.1.1
  unfold Ab_296_5 at g4
  have g3 := f14.2.1.2
  unfold preb_296 at g3
  have e2 : (0 : Int) ≤ hV H0 285 82 ∧ hV H0 285 82 ≤ 40 := bTo ((f14.1.2.1.1 285 82 kF_296_285_82)) (f14.1.2.2 285 82 _ _ kW_285_82)
  have k0 := g4.1
  have k1 := g4.2.1
  have y0 := g4.2.2
  have p0 := g3.1
  have p1 := g3.2.1
  have p2 := g3.2.2.1
  have p3 := g3.2.2.2
  clear g3
  clear g4
  try subst k1
  try subst k0
  omega
theorem c_296_5_2 {q0 : Nat} : vOkm T0 (eP e_296 L_296 A_296 mu_296 (some q0)) 3 ([(42, [7, 8], [], 0), (0, [8], [], 60), (5000, [0, 1, 2, 3, 4, 5, 6, 7], [0, 1], 5), (0, [0], [], 285), (90, [1], [], 0), (91, [1], [], 7), (90, [2], [], 0), (91, [2], [], 39), (0, [3], [], 285), (90, [4], [], 0), (91, [4], [], 7), (90, [5], [], 0), (91, [5], [], 39), (90, [6], [], 0), (91, [6], [], 60), (90, [7], [], 0), (91, [7], [], 60)], (91, [7], [], 59)) := vOk_inI fun ρ η f0 f1 f2 f3 f4 f5 f6 f7 f8 f9 f10 f11 f12 f13 f14 f15 f16 => q_296_3 (q0 := q0) (n0 := ρ 7) (n1 := ρ 6) (n2 := ρ 5) (n3 := ρ 4) (n4 := ρ 3) (n5 := ρ 2) (n6 := ρ 1) (n7 := ρ 0) (n8 := ρ 8) (H0 := η 0) (H1 := η 1) f16 f15 f14 f13 f12 f11 f10 f9 f8 f7 f6 f5 f4 f3 f2 f1 f0
theorem q_296_4 {q0 : Nat} {n0 n1 n2 n3 n4 n5 n6 n7 n8 n9 n10 n11 n12 : Int} {H0 H1 H2 : gH} (f0 : n0 ≤ 60) (f1 : 0 ≤ n0) (f2 : n1 ≤ 60) (f3 : 0 ≤ n1) (f4 : n2 ≤ 39) (f5 : 0 ≤ n2) (f6 : n3 ≤ 7) (f7 : 0 ≤ n3) (f8 : n4 = 285) (f9 : n5 ≤ 39) (f10 : 0 ≤ n5) (f11 : n6 ≤ 7) (f12 : 0 ≤ n6) (f13 : n7 = 285) (f14 : (hLe T0 H0 H1 ∧ hFr s_296.2.2.2.2 H0 H1 ∧ hWt T0 H1) ∧ (Ab_296_5 n7 n6 n5 n4 n3 n2 n1 n0 H0 H1 ∧ preb_296 n7 n6 n5 H0) ∧ some q0 = some (mub_296_5 n7 n6 n5 n4 n3 n2 n1 n0 H0 H1)) (f15 : n8 = 60) (f16 : n0 < n8) (f17 : n9 = 356) (f18 : n9 = hV H1 (n4).toNat 98) (f19 : n10 = 0) (f20 : n11 = o32 (fun x _ => x &&& 1) n10 0) (f21 : hUpd H2 H1 n9 n0 n11) (f22 : n12 = 0) : Ab_296_23 n7 n6 n5 n4 n3 n2 n1 n0 n12 H0 H2 ∧ ∀ q, some q0 = some q → mub_296_23 n7 n6 n5 n4 n3 n2 n1 n0 n12 H0 H2 < q := by
  have g4 := f14.2.1.1
  unfold Ab_296_5 at g4
  have g3 := f14.2.1.2
  unfold preb_296 at g3
  have g5 := Option.some.inj f14.2.2
  unfold mub_296_5 at g5
  unfold Ab_296_23
  unfold mub_296_23
  have e2 : (0 : Int) ≤ hV H0 285 82 ∧ hV H0 285 82 ≤ 40 := bTo ((f14.1.2.1.1 285 82 kF_296_285_82)) (f14.1.2.2 285 82 _ _ kW_285_82)
  have k0 := g4.1
  have k1 := g4.2.1
  have y0 := g4.2.2
  have p0 := g3.1
  have p1 := g3.2.1
  have p2 := g3.2.2.1
  have p3 := g3.2.2.2
  clear g3
  clear g4
  clear f18
  try subst k1
  try subst k0
  refine ⟨?_, fun q hq => ?_⟩
  · refine ⟨?_, ?_, ?_⟩ <;> first | assumption | omega | trivial
  · have g6 := Option.some.inj hq
    subst g6
    omega
theorem c_296_5_3 {q0 : Nat} : vOkm T0 (eP e_296 L_296 A_296 mu_296 (some q0)) 3 ([(0, [12], [], 0), (80, [9, 7, 11], [2, 1], 0), (16, [11, 10], [], 0), (0, [10], [], 0), (20, [9, 3], [1], 98), (0, [9], [], 356), (42, [7, 8], [], 0), (0, [8], [], 60), (5000, [0, 1, 2, 3, 4, 5, 6, 7], [0, 1], 5), (0, [0], [], 285), (90, [1], [], 0), (91, [1], [], 7), (90, [2], [], 0), (91, [2], [], 39), (0, [3], [], 285), (90, [4], [], 0), (91, [4], [], 7), (90, [5], [], 0), (91, [5], [], 39), (90, [6], [], 0), (91, [6], [], 60), (90, [7], [], 0), (91, [7], [], 60)], (4000, [3, 4, 5, 6, 7, 12], [2], 23)) := vOk_inI fun ρ η f0 f1 f2 f3 f4 f5 f6 f7 f8 f9 f10 f11 f12 f13 f14 f15 f16 f17 f18 f19 f20 f21 f22 => q_296_4 (q0 := q0) (n0 := ρ 7) (n1 := ρ 6) (n2 := ρ 5) (n3 := ρ 4) (n4 := ρ 3) (n5 := ρ 2) (n6 := ρ 1) (n7 := ρ 0) (n8 := ρ 8) (n9 := ρ 9) (n10 := ρ 10) (n11 := ρ 11) (n12 := ρ 12) (H0 := η 0) (H1 := η 1) (H2 := η 2) f22 f21 f20 f19 f18 f17 f16 f15 f14 f13 f12 f11 f10 f9 f8 f7 f6 f5 f4 f3 f2 f1 f0
def p_296_5 : List vG := [([(42, [7, 8], [], 0), (0, [8], [], 60), (5000, [0, 1, 2, 3, 4, 5, 6, 7], [0, 1], 5), (0, [0], [], 285), (90, [1], [], 0), (91, [1], [], 7), (90, [2], [], 0), (91, [2], [], 39), (0, [3], [], 285), (90, [4], [], 0), (91, [4], [], 7), (90, [5], [], 0), (91, [5], [], 39), (90, [6], [], 0), (91, [6], [], 60), (90, [7], [], 0), (91, [7], [], 60)], (70, [7], [], 60)),
  ([(42, [7, 8], [], 0), (0, [8], [], 60), (5000, [0, 1, 2, 3, 4, 5, 6, 7], [0, 1], 5), (0, [0], [], 285), (90, [1], [], 0), (91, [1], [], 7), (90, [2], [], 0), (91, [2], [], 39), (0, [3], [], 285), (90, [4], [], 0), (91, [4], [], 7), (90, [5], [], 0), (91, [5], [], 39), (90, [6], [], 0), (91, [6], [], 60), (90, [7], [], 0), (91, [7], [], 60)], (91, [6], [], 59)),
  ([(42, [7, 8], [], 0), (0, [8], [], 60), (5000, [0, 1, 2, 3, 4, 5, 6, 7], [0, 1], 5), (0, [0], [], 285), (90, [1], [], 0), (91, [1], [], 7), (90, [2], [], 0), (91, [2], [], 39), (0, [3], [], 285), (90, [4], [], 0), (91, [4], [], 7), (90, [5], [], 0), (91, [5], [], 39), (90, [6], [], 0), (91, [6], [], 60), (90, [7], [], 0), (91, [7], [], 60)], (91, [7], [], 59)),
  ([(0, [12], [], 0), (80, [9, 7, 11], [2, 1], 0), (16, [11, 10], [], 0), (0, [10], [], 0), (20, [9, 3], [1], 98), (0, [9], [], 356), (42, [7, 8], [], 0), (0, [8], [], 60), (5000, [0, 1, 2, 3, 4, 5, 6, 7], [0, 1], 5), (0, [0], [], 285), (90, [1], [], 0), (91, [1], [], 7), (90, [2], [], 0), (91, [2], [], 39), (0, [3], [], 285), (90, [4], [], 0), (91, [4], [], 7), (90, [5], [], 0), (91, [5], [], 39), (90, [6], [], 0), (91, [6], [], 60), (90, [7], [], 0), (91, [7], [], 60)], (4000, [3, 4, 5, 6, 7, 12], [2], 23))]
theorem r_296_5 : vCovO true (eRc e_296 L_296 cs_296 2000 (5, [(0, (3, 12, 285, 0)), (1, (0, 0, 7, 0)), (2, (0, 0, 39, 0)), (3, (0, 0, 60, 0)), (4, (0, 0, 60, 0))])) p_296_5 = true := by decide +kernel
theorem q_296_5 {q0 : Nat} {n0 n1 n2 n3 n4 n5 n6 n7 n8 n9 n10 : Int} {H0 H1 : gH} (f0 : n0 ≤ 4) (f1 : 0 ≤ n0) (f2 : n1 ≤ 59) (f3 : 0 ≤ n1) (f4 : n2 ≤ 59) (f5 : 0 ≤ n2) (f6 : n3 ≤ 39) (f7 : 0 ≤ n3) (f8 : n4 ≤ 7) (f9 : 0 ≤ n4) (f10 : n5 = 285) (f11 : n6 ≤ 39) (f12 : 0 ≤ n6) (f13 : n7 ≤ 7) (f14 : 0 ≤ n7) (f15 : n8 = 285) (f16 : (hLe T0 H0 H1 ∧ hFr s_296.2.2.2.2 H0 H1 ∧ hWt T0 H1) ∧ (Ab_296_23 n8 n7 n6 n5 n4 n3 n2 n1 n0 H0 H1 ∧ preb_296 n8 n7 n6 H0) ∧ some q0 = some (mub_296_23 n8 n7 n6 n5 n4 n3 n2 n1 n0 H0 H1)) (f17 : n9 = 4) (f18 : n9 ≤ n0) (f19 : n10 = w32 (n1 + 1)) : 0 ≤ n10 := by
  have g4 := f16.2.1.1
  unfold Ab_296_23 at g4
  have g3 := f16.2.1.2
  unfold preb_296 at g3
  have e2 : (0 : Int) ≤ hV H0 285 82 ∧ hV H0 285 82 ≤ 40 := bTo ((f16.1.2.1.1 285 82 kF_296_285_82)) (f16.1.2.2 285 82 _ _ kW_285_82)
  have k0 := g4.1
  have k1 := g4.2.1
  have y0 := g4.2.2
  have p0 := g3.1
  have p1 := g3.2.1
  have p2 := g3.2.2.1
  have p3 := g3.2.2.2
  clear g3
  clear g4
  first
  | (have ix0 : n10 = n1 + 1 := Eq.trans f19 (w32_iv (Iad (Iat f3 f2) (IC 1)) (by decide)); subst ix0; clear f19)
  | (have ix0 : n10 = n1 + 1 := Eq.trans f19 (w32_id (by omega) (by omega)); subst ix0; clear f19)
  | (unfold w32 at f19; have ix0 : n10 = n1 + 1 := (by omega); subst ix0)
  | skip
  try unfold w32 at f19
  try subst k1
  try subst k0
  omega
theorem c_296_23_0 {q0 : Nat} : vOkm T0 (eP e_296 L_296 A_296 mu_296 (some q0)) 3 ([(10, [12, 7], [], 1), (43, [8, 9], [], 0), (0, [9], [], 4), (5000, [0, 1, 2, 3, 4, 5, 6, 7, 8], [0, 1], 23), (0, [0], [], 285), (90, [1], [], 0), (91, [1], [], 7), (90, [2], [], 0), (91, [2], [], 39), (0, [3], [], 285), (90, [4], [], 0), (91, [4], [], 7), (90, [5], [], 0), (91, [5], [], 39), (90, [6], [], 0), (91, [6], [], 59), (90, [7], [], 0), (91, [7], [], 59), (90, [8], [], 0), (91, [8], [], 4)], (90, [12], [], 0)) := vOk_inI fun ρ η f0 f1 f2 f3 f4 f5 f6 f7 f8 f9 f10 f11 f12 f13 f14 f15 f16 f17 f18 f19 => q_296_5 (q0 := q0) (n0 := ρ 8) (n1 := ρ 7) (n2 := ρ 6) (n3 := ρ 5) (n4 := ρ 4) (n5 := ρ 3) (n6 := ρ 2) (n7 := ρ 1) (n8 := ρ 0) (n9 := ρ 9) (n10 := ρ 12) (H0 := η 0) (H1 := η 1) f19 f18 f17 f16 f15 f14 f13 f12 f11 f10 f9 f8 f7 f6 f5 f4 f3 f2 f1 f0
theorem q_296_6 {q0 : Nat} {n0 n1 n2 n3 n4 n5 n6 n7 n8 n9 n10 : Int} {H0 H1 : gH} (f0 : n0 ≤ 4) (f1 : 0 ≤ n0) (f2 : n1 ≤ 59) (f3 : 0 ≤ n1) (f4 : n2 ≤ 59) (f5 : 0 ≤ n2) (f6 : n3 ≤ 39) (f7 : 0 ≤ n3) (f8 : n4 ≤ 7) (f9 : 0 ≤ n4) (f10 : n5 = 285) (f11 : n6 ≤ 39) (f12 : 0 ≤ n6) (f13 : n7 ≤ 7) (f14 : 0 ≤ n7) (f15 : n8 = 285) (f16 : (hLe T0 H0 H1 ∧ hFr s_296.2.2.2.2 H0 H1 ∧ hWt T0 H1) ∧ (Ab_296_23 n8 n7 n6 n5 n4 n3 n2 n1 n0 H0 H1 ∧ preb_296 n8 n7 n6 H0) ∧ some q0 = some (mub_296_23 n8 n7 n6 n5 n4 n3 n2 n1 n0 H0 H1)) (f17 : n9 = 4) (f18 : n9 ≤ n0) (f19 : n10 = w32 (n1 + 1)) : n10 ≤ 60 := by
  have g4 := f16.2.1.1
  unfold Ab_296_23 at g4
  have g3 := f16.2.1.2
  unfold preb_296 at g3
  have e2 : (0 : Int) ≤ hV H0 285 82 ∧ hV H0 285 82 ≤ 40 := bTo ((f16.1.2.1.1 285 82 kF_296_285_82)) (f16.1.2.2 285 82 _ _ kW_285_82)
  have k0 := g4.1
  have k1 := g4.2.1
  have y0 := g4.2.2
  have p0 := g3.1
  have p1 := g3.2.1
  have p2 := g3.2.2.1
  have p3 := g3.2.2.2
  clear g3
  clear g4
  first
  | (have ix0 : n10 = n1 + 1 := Eq.trans f19 (w32_iv (Iad (Iat f3 f2) (IC 1)) (by decide)); subst ix0; clear f19)
  | (have ix0 : n10 = n1 + 1 := Eq.trans f19 (w32_id (by omega) (by omega)); subst ix0; clear f19)
  | (unfold w32 at f19; have ix0 : n10 = n1 + 1 := (by omega); subst ix0)
  | skip
  try unfold w32 at f19
  try subst k1
  try subst k0
  omega
theorem c_296_23_1 {q0 : Nat} : vOkm T0 (eP e_296 L_296 A_296 mu_296 (some q0)) 3 ([(10, [12, 7], [], 1), (43, [8, 9], [], 0), (0, [9], [], 4), (5000, [0, 1, 2, 3, 4, 5, 6, 7, 8], [0, 1], 23), (0, [0], [], 285), (90, [1], [], 0), (91, [1], [], 7), (90, [2], [], 0), (91, [2], [], 39), (0, [3], [], 285), (90, [4], [], 0), (91, [4], [], 7), (90, [5], [], 0), (91, [5], [], 39), (90, [6], [], 0), (91, [6], [], 59), (90, [7], [], 0), (91, [7], [], 59), (90, [8], [], 0), (91, [8], [], 4)], (91, [12], [], 60)) := vOk_inI fun ρ η f0 f1 f2 f3 f4 f5 f6 f7 f8 f9 f10 f11 f12 f13 f14 f15 f16 f17 f18 f19 => q_296_6 (q0 := q0) (n0 := ρ 8) (n1 := ρ 7) (n2 := ρ 6) (n3 := ρ 5) (n4 := ρ 4) (n5 := ρ 3) (n6 := ρ 2) (n7 := ρ 1) (n8 := ρ 0) (n9 := ρ 9) (n10 := ρ 12) (H0 := η 0) (H1 := η 1) f19 f18 f17 f16 f15 f14 f13 f12 f11 f10 f9 f8 f7 f6 f5 f4 f3 f2 f1 f0
theorem q_296_7 {q0 : Nat} {n0 n1 n2 n3 n4 n5 n6 n7 n8 n9 n10 : Int} {H0 H1 : gH} (f0 : n0 ≤ 4) (f1 : 0 ≤ n0) (f2 : n1 ≤ 59) (f3 : 0 ≤ n1) (f4 : n2 ≤ 59) (f5 : 0 ≤ n2) (f6 : n3 ≤ 39) (f7 : 0 ≤ n3) (f8 : n4 ≤ 7) (f9 : 0 ≤ n4) (f10 : n5 = 285) (f11 : n6 ≤ 39) (f12 : 0 ≤ n6) (f13 : n7 ≤ 7) (f14 : 0 ≤ n7) (f15 : n8 = 285) (f16 : (hLe T0 H0 H1 ∧ hFr s_296.2.2.2.2 H0 H1 ∧ hWt T0 H1) ∧ (Ab_296_23 n8 n7 n6 n5 n4 n3 n2 n1 n0 H0 H1 ∧ preb_296 n8 n7 n6 H0) ∧ some q0 = some (mub_296_23 n8 n7 n6 n5 n4 n3 n2 n1 n0 H0 H1)) (f17 : n9 = 4) (f18 : n9 ≤ n0) (f19 : n10 = w32 (n1 + 1)) : Ab_296_5 n8 n7 n6 n5 n4 n3 n2 n10 H0 H1 ∧ ∀ q, some q0 = some q → mub_296_5 n8 n7 n6 n5 n4 n3 n2 n10 H0 H1 < q := by
  have g4 := f16.2.1.1
  unfold Ab_296_23 at g4
  have g3 := f16.2.1.2
  unfold preb_296 at g3
  have g5 := Option.some.inj f16.2.2
  unfold mub_296_23 at g5
  unfold Ab_296_5
  unfold mub_296_5
  have e2 : (0 : Int) ≤ hV H0 285 82 ∧ hV H0 285 82 ≤ 40 := bTo ((f16.1.2.1.1 285 82 kF_296_285_82)) (f16.1.2.2 285 82 _ _ kW_285_82)
  have k0 := g4.1
  have k1 := g4.2.1
  have y0 := g4.2.2
  have p0 := g3.1
  have p1 := g3.2.1
  have p2 := g3.2.2.1
  have p3 := g3.2.2.2
  clear g3
  clear g4
  first
  | (have ix0 : n10 = n1 + 1 := Eq.trans f19 (w32_iv (Iad (Iat f3 f2) (IC 1)) (by decide)); subst ix0; clear f19)
  | (have ix0 : n10 = n1 + 1 := Eq.trans f19 (w32_id (by omega) (by omega)); subst ix0; clear f19)
  | (unfold w32 at f19; have ix0 : n10 = n1 + 1 := (by omega); subst ix0)
  | skip
  try unfold w32 at f19
  try subst k1
  try subst k0
  refine ⟨?_, fun q hq => ?_⟩
  · refine ⟨?_, ?_, ?_⟩ <;> first | assumption | omega | trivial
  · have g6 := Option.some.inj hq
    subst g6
    omega
theorem c_296_23_2 {q0 : Nat} : vOkm T0 (eP e_296 L_296 A_296 mu_296 (some q0)) 3 ([(10, [12, 7], [], 1), (43, [8, 9], [], 0), (0, [9], [], 4), (5000, [0, 1, 2, 3, 4, 5, 6, 7, 8], [0, 1], 23), (0, [0], [], 285), (90, [1], [], 0), (91, [1], [], 7), (90, [2], [], 0), (91, [2], [], 39), (0, [3], [], 285), (90, [4], [], 0), (91, [4], [], 7), (90, [5], [], 0), (91, [5], [], 39), (90, [6], [], 0), (91, [6], [], 59), (90, [7], [], 0), (91, [7], [], 59), (90, [8], [], 0), (91, [8], [], 4)], (4000, [3, 4, 5, 6, 12], [1], 5)) := vOk_inI fun ρ η f0 f1 f2 f3 f4 f5 f6 f7 f8 f9 f10 f11 f12 f13 f14 f15 f16 f17 f18 f19 => q_296_7 (q0 := q0) (n0 := ρ 8) (n1 := ρ 7) (n2 := ρ 6) (n3 := ρ 5) (n4 := ρ 4) (n5 := ρ 3) (n6 := ρ 2) (n7 := ρ 1) (n8 := ρ 0) (n9 := ρ 9) (n10 := ρ 12) (H0 := η 0) (H1 := η 1) f19 f18 f17 f16 f15 f14 f13 f12 f11 f10 f9 f8 f7 f6 f5 f4 f3 f2 f1 f0
theorem q_296_8 {q0 : Nat} {n0 n1 n2 n3 n4 n5 n6 n7 n8 n9 n10 n11 : Int} {H0 H1 : gH} (f0 : n0 ≤ 4) (f1 : 0 ≤ n0) (f2 : n1 ≤ 59) (f3 : 0 ≤ n1) (f4 : n2 ≤ 59) (f5 : 0 ≤ n2) (f6 : n3 ≤ 39) (f7 : 0 ≤ n3) (f8 : n4 ≤ 7) (f9 : 0 ≤ n4) (f10 : n5 = 285) (f11 : n6 ≤ 39) (f12 : 0 ≤ n6) (f13 : n7 ≤ 7) (f14 : 0 ≤ n7) (f15 : n8 = 285) (f16 : (hLe T0 H0 H1 ∧ hFr s_296.2.2.2.2 H0 H1 ∧ hWt T0 H1) ∧ (Ab_296_23 n8 n7 n6 n5 n4 n3 n2 n1 n0 H0 H1 ∧ preb_296 n8 n7 n6 H0) ∧ some q0 = some (mub_296_23 n8 n7 n6 n5 n4 n3 n2 n1 n0 H0 H1)) (f17 : n9 = 4) (f18 : n9 ≤ n0) (f19 : n10 = w32 (n2 + 1)) (f20 : n11 = w32 (n1 + 1)) : 0 ≤ n10 := by
  have g4 := f16.2.1.1
  unfold Ab_296_23 at g4
  have g3 := f16.2.1.2
  unfold preb_296 at g3
  have e2 : (0 : Int) ≤ hV H0 285 82 ∧ hV H0 285 82 ≤ 40 := bTo ((f16.1.2.1.1 285 82 kF_296_285_82)) (f16.1.2.2 285 82 _ _ kW_285_82)
  have k0 := g4.1
  have k1 := g4.2.1
  have y0 := g4.2.2
  have p0 := g3.1
  have p1 := g3.2.1
  have p2 := g3.2.2.1
  have p3 := g3.2.2.2
  clear g3
  clear g4
  first
  | (have ix0 : n10 = n2 + 1 := Eq.trans f19 (w32_iv (Iad (Iat f5 f4) (IC 1)) (by decide)); subst ix0; clear f19)
  | (have ix0 : n10 = n2 + 1 := Eq.trans f19 (w32_id (by omega) (by omega)); subst ix0; clear f19)
  | (unfold w32 at f19; have ix0 : n10 = n2 + 1 := (by omega); subst ix0)
  | skip
  try unfold w32 at f19
  try unfold w32 at f20
  try subst k1
  try subst k0
  omega
theorem c_296_23_3 {q0 : Nat} : vOkm T0 (eP e_296 L_296 A_296 mu_296 (some q0)) 3 ([(10, [13, 7], [], 1), (10, [12, 6], [], 1), (43, [8, 9], [], 0), (0, [9], [], 4), (5000, [0, 1, 2, 3, 4, 5, 6, 7, 8], [0, 1], 23), (0, [0], [], 285), (90, [1], [], 0), (91, [1], [], 7), (90, [2], [], 0), (91, [2], [], 39), (0, [3], [], 285), (90, [4], [], 0), (91, [4], [], 7), (90, [5], [], 0), (91, [5], [], 39), (90, [6], [], 0), (91, [6], [], 59), (90, [7], [], 0), (91, [7], [], 59), (90, [8], [], 0), (91, [8], [], 4)], (90, [12], [], 0)) := vOk_inI fun ρ η f0 f1 f2 f3 f4 f5 f6 f7 f8 f9 f10 f11 f12 f13 f14 f15 f16 f17 f18 f19 f20 => q_296_8 (q0 := q0) (n0 := ρ 8) (n1 := ρ 7) (n2 := ρ 6) (n3 := ρ 5) (n4 := ρ 4) (n5 := ρ 3) (n6 := ρ 2) (n7 := ρ 1) (n8 := ρ 0) (n9 := ρ 9) (n10 := ρ 12) (n11 := ρ 13) (H0 := η 0) (H1 := η 1) f20 f19 f18 f17 f16 f15 f14 f13 f12 f11 f10 f9 f8 f7 f6 f5 f4 f3 f2 f1 f0
theorem q_296_9 {q0 : Nat} {n0 n1 n2 n3 n4 n5 n6 n7 n8 n9 n10 n11 : Int} {H0 H1 : gH} (f0 : n0 ≤ 4) (f1 : 0 ≤ n0) (f2 : n1 ≤ 59) (f3 : 0 ≤ n1) (f4 : n2 ≤ 59) (f5 : 0 ≤ n2) (f6 : n3 ≤ 39) (f7 : 0 ≤ n3) (f8 : n4 ≤ 7) (f9 : 0 ≤ n4) (f10 : n5 = 285) (f11 : n6 ≤ 39) (f12 : 0 ≤ n6) (f13 : n7 ≤ 7) (f14 : 0 ≤ n7) (f15 : n8 = 285) (f16 : (hLe T0 H0 H1 ∧ hFr s_296.2.2.2.2 H0 H1 ∧ hWt T0 H1) ∧ (Ab_296_23 n8 n7 n6 n5 n4 n3 n2 n1 n0 H0 H1 ∧ preb_296 n8 n7 n6 H0) ∧ some q0 = some (mub_296_23 n8 n7 n6 n5 n4 n3 n2 n1 n0 H0 H1)) (f17 : n9 = 4) (f18 : n9 ≤ n0) (f19 : n10 = w32 (n2 + 1)) (f20 : n11 = w32 (n1 + 1)) : n10 ≤ 60 := by
  have g4 := f16.2.1.1
  unfold Ab_296_23 at g4
  have g3 := f16.2.1.2
  unfold preb_296 at g3
  have e2 : (0 : Int) ≤ hV H0 285 82 ∧ hV H0 285 82 ≤ 40 := bTo ((f16.1.2.1.1 285 82 kF_296_285_82)) (f16.1.2.2 285 82 _ _ kW_285_82)
  have k0 := g4.1
  have k1 := g4.2.1
  have y0 := g4.2.2
  have p0 := g3.1
  have p1 := g3.2.1
  have p2 := g3.2.2.1
  have p3 := g3.2.2.2
  clear g3
  clear g4
  first
  | (have ix0 : n10 = n2 + 1 := Eq.trans f19 (w32_iv (Iad (Iat f5 f4) (IC 1)) (by decide)); subst ix0; clear f19)
  | (have ix0 : n10 = n2 + 1 := Eq.trans f19 (w32_id (by omega) (by omega)); subst ix0; clear f19)
  | (unfold w32 at f19; have ix0 : n10 = n2 + 1 := (by omega); subst ix0)
  | skip
  try unfold w32 at f19
  try unfold w32 at f20
  try subst k1
  try subst k0
  omega
theorem c_296_23_4 {q0 : Nat} : vOkm T0 (eP e_296 L_296 A_296 mu_296 (some q0)) 3 ([(10, [13, 7], [], 1), (10, [12, 6], [], 1), (43, [8, 9], [], 0), (0, [9], [], 4), (5000, [0, 1, 2, 3, 4, 5, 6, 7, 8], [0, 1], 23), (0, [0], [], 285), (90, [1], [], 0), (91, [1], [], 7), (90, [2], [], 0), (91, [2], [], 39), (0, [3], [], 285), (90, [4], [], 0), (91, [4], [], 7), (90, [5], [], 0), (91, [5], [], 39), (90, [6], [], 0), (91, [6], [], 59), (90, [7], [], 0), (91, [7], [], 59), (90, [8], [], 0), (91, [8], [], 4)], (91, [12], [], 60)) := vOk_inI fun ρ η f0 f1 f2 f3 f4 f5 f6 f7 f8 f9 f10 f11 f12 f13 f14 f15 f16 f17 f18 f19 f20 => q_296_9 (q0 := q0) (n0 := ρ 8) (n1 := ρ 7) (n2 := ρ 6) (n3 := ρ 5) (n4 := ρ 4) (n5 := ρ 3) (n6 := ρ 2) (n7 := ρ 1) (n8 := ρ 0) (n9 := ρ 9) (n10 := ρ 12) (n11 := ρ 13) (H0 := η 0) (H1 := η 1) f20 f19 f18 f17 f16 f15 f14 f13 f12 f11 f10 f9 f8 f7 f6 f5 f4 f3 f2 f1 f0
theorem q_296_10 {q0 : Nat} {n0 n1 n2 n3 n4 n5 n6 n7 n8 n9 n10 n11 : Int} {H0 H1 : gH} (f0 : n0 ≤ 4) (f1 : 0 ≤ n0) (f2 : n1 ≤ 59) (f3 : 0 ≤ n1) (f4 : n2 ≤ 59) (f5 : 0 ≤ n2) (f6 : n3 ≤ 39) (f7 : 0 ≤ n3) (f8 : n4 ≤ 7) (f9 : 0 ≤ n4) (f10 : n5 = 285) (f11 : n6 ≤ 39) (f12 : 0 ≤ n6) (f13 : n7 ≤ 7) (f14 : 0 ≤ n7) (f15 : n8 = 285) (f16 : (hLe T0 H0 H1 ∧ hFr s_296.2.2.2.2 H0 H1 ∧ hWt T0 H1) ∧ (Ab_296_23 n8 n7 n6 n5 n4 n3 n2 n1 n0 H0 H1 ∧ preb_296 n8 n7 n6 H0) ∧ some q0 = some (mub_296_23 n8 n7 n6 n5 n4 n3 n2 n1 n0 H0 H1)) (f17 : n9 = 4) (f18 : n9 ≤ n0) (f19 : n10 = w32 (n2 + 1)) (f20 : n11 = w32 (n1 + 1)) : 0 ≤ n11 := by
  have g4 := f16.2.1.1
  unfold Ab_296_23 at g4
  have g3 := f16.2.1.2
  unfold preb_296 at g3
  have e2 : (0 : Int) ≤ hV H0 285 82 ∧ hV H0 285 82 ≤ 40 := bTo ((f16.1.2.1.1 285 82 kF_296_285_82)) (f16.1.2.2 285 82 _ _ kW_285_82)
  have k0 := g4.1
  have k1 := g4.2.1
  have y0 := g4.2.2
  have p0 := g3.1
  have p1 := g3.2.1
  have p2 := g3.2.2.1
  have p3 := g3.2.2.2
  clear g3
  clear g4
  first
  | (have ix0 : n11 = n1 + 1 := Eq.trans f20 (w32_iv (Iad (Iat f3 f2) (IC 1)) (by decide)); subst ix0; clear f20)
  | (have ix0 : n11 = n1 + 1 := Eq.trans f20 (w32_id (by omega) (by omega)); subst ix0; clear f20)
  | (unfold w32 at f20; have ix0 : n11 = n1 + 1 := (by omega); subst ix0)
  | skip
  try unfold w32 at f19
  try unfold w32 at f20
  try subst k1
  try subst k0
  omega
theorem c_296_23_5 {q0 : Nat} : vOkm T0 (eP e_296 L_296 A_296 mu_296 (some q0)) 3 ([(10, [13, 7], [], 1), (10, [12, 6], [], 1), (43, [8, 9], [], 0), (0, [9], [], 4), (5000, [0, 1, 2, 3, 4, 5, 6, 7, 8], [0, 1], 23), (0, [0], [], 285), (90, [1], [], 0), (91, [1], [], 7), (90, [2], [], 0), (91, [2], [], 39), (0, [3], [], 285), (90, [4], [], 0), (91, [4], [], 7), (90, [5], [], 0), (91, [5], [], 39), (90, [6], [], 0), (91, [6], [], 59), (90, [7], [], 0), (91, [7], [], 59), (90, [8], [], 0), (91, [8], [], 4)], (90, [13], [], 0)) := vOk_inI fun ρ η f0 f1 f2 f3 f4 f5 f6 f7 f8 f9 f10 f11 f12 f13 f14 f15 f16 f17 f18 f19 f20 => q_296_10 (q0 := q0) (n0 := ρ 8) (n1 := ρ 7) (n2 := ρ 6) (n3 := ρ 5) (n4 := ρ 4) (n5 := ρ 3) (n6 := ρ 2) (n7 := ρ 1) (n8 := ρ 0) (n9 := ρ 9) (n10 := ρ 12) (n11 := ρ 13) (H0 := η 0) (H1 := η 1) f20 f19 f18 f17 f16 f15 f14 f13 f12 f11 f10 f9 f8 f7 f6 f5 f4 f3 f2 f1 f0
theorem q_296_11 {q0 : Nat} {n0 n1 n2 n3 n4 n5 n6 n7 n8 n9 n10 n11 : Int} {H0 H1 : gH} (f0 : n0 ≤ 4) (f1 : 0 ≤ n0) (f2 : n1 ≤ 59) (f3 : 0 ≤ n1) (f4 : n2 ≤ 59) (f5 : 0 ≤ n2) (f6 : n3 ≤ 39) (f7 : 0 ≤ n3) (f8 : n4 ≤ 7) (f9 : 0 ≤ n4) (f10 : n5 = 285) (f11 : n6 ≤ 39) (f12 : 0 ≤ n6) (f13 : n7 ≤ 7) (f14 : 0 ≤ n7) (f15 : n8 = 285) (f16 : (hLe T0 H0 H1 ∧ hFr s_296.2.2.2.2 H0 H1 ∧ hWt T0 H1) ∧ (Ab_296_23 n8 n7 n6 n5 n4 n3 n2 n1 n0 H0 H1 ∧ preb_296 n8 n7 n6 H0) ∧ some q0 = some (mub_296_23 n8 n7 n6 n5 n4 n3 n2 n1 n0 H0 H1)) (f17 : n9 = 4) (f18 : n9 ≤ n0) (f19 : n10 = w32 (n2 + 1)) (f20 : n11 = w32 (n1 + 1)) : n11 ≤ 60 := by
  have g4 := f16.2.1.1
  unfold Ab_296_23 at g4
  have g3 := f16.2.1.2
  unfold preb_296 at g3
  have e2 : (0 : Int) ≤ hV H0 285 82 ∧ hV H0 285 82 ≤ 40 := bTo ((f16.1.2.1.1 285 82 kF_296_285_82)) (f16.1.2.2 285 82 _ _ kW_285_82)
  have k0 := g4.1
  have k1 := g4.2.1
  have y0 := g4.2.2
  have p0 := g3.1
  have p1 := g3.2.1
  have p2 := g3.2.2.1
  have p3 := g3.2.2.2
  clear g3
  clear g4
  first
  | (have ix0 : n11 = n1 + 1 := Eq.trans f20 (w32_iv (Iad (Iat f3 f2) (IC 1)) (by decide)); subst ix0; clear f20)
  | (have ix0 : n11 = n1 + 1 := Eq.trans f20 (w32_id (by omega) (by omega)); subst ix0; clear f20)
  | (unfold w32 at f20; have ix0 : n11 = n1 + 1 := (by omega); subst ix0)
  | skip
  try unfold w32 at f19
  try unfold w32 at f20
  try subst k1
  try subst k0
  omega
theorem c_296_23_6 {q0 : Nat} : vOkm T0 (eP e_296 L_296 A_296 mu_296 (some q0)) 3 ([(10, [13, 7], [], 1), (10, [12, 6], [], 1), (43, [8, 9], [], 0), (0, [9], [], 4), (5000, [0, 1, 2, 3, 4, 5, 6, 7, 8], [0, 1], 23), (0, [0], [], 285), (90, [1], [], 0), (91, [1], [], 7), (90, [2], [], 0), (91, [2], [], 39), (0, [3], [], 285), (90, [4], [], 0), (91, [4], [], 7), (90, [5], [], 0), (91, [5], [], 39), (90, [6], [], 0), (91, [6], [], 59), (90, [7], [], 0), (91, [7], [], 59), (90, [8], [], 0), (91, [8], [], 4)], (91, [13], [], 60)) := vOk_inI fun ρ η f0 f1 f2 f3 f4 f5 f6 f7 f8 f9 f10 f11 f12 f13 f14 f15 f16 f17 f18 f19 f20 => q_296_11 (q0 := q0) (n0 := ρ 8) (n1 := ρ 7) (n2 := ρ 6) (n3 := ρ 5) (n4 := ρ 4) (n5 := ρ 3) (n6 := ρ 2) (n7 := ρ 1) (n8 := ρ 0) (n9 := ρ 9) (n10 := ρ 12) (n11 := ρ 13) (H0 := η 0) (H1 := η 1) f20 f19 f18 f17 f16 f15 f14 f13 f12 f11 f10 f9 f8 f7 f6 f5 f4 f3 f2 f1 f0
theorem q_296_12 {q0 : Nat} {n0 n1 n2 n3 n4 n5 n6 n7 n8 n9 n10 n11 : Int} {H0 H1 : gH} (f0 : n0 ≤ 4) (f1 : 0 ≤ n0) (f2 : n1 ≤ 59) (f3 : 0 ≤ n1) (f4 : n2 ≤ 59) (f5 : 0 ≤ n2) (f6 : n3 ≤ 39) (f7 : 0 ≤ n3) (f8 : n4 ≤ 7) (f9 : 0 ≤ n4) (f10 : n5 = 285) (f11 : n6 ≤ 39) (f12 : 0 ≤ n6) (f13 : n7 ≤ 7) (f14 : 0 ≤ n7) (f15 : n8 = 285) (f16 : (hLe T0 H0 H1 ∧ hFr s_296.2.2.2.2 H0 H1 ∧ hWt T0 H1) ∧ (Ab_296_23 n8 n7 n6 n5 n4 n3 n2 n1 n0 H0 H1 ∧ preb_296 n8 n7 n6 H0) ∧ some q0 = some (mub_296_23 n8 n7 n6 n5 n4 n3 n2 n1 n0 H0 H1)) (f17 : n9 = 4) (f18 : n9 ≤ n0) (f19 : n10 = w32 (n2 + 1)) (f20 : n11 = w32 (n1 + 1)) : Ab_296_5 n8 n7 n6 n5 n4 n3 n10 n11 H0 H1 ∧ ∀ q, some q0 = some q → mub_296_5 n8 n7 n6 n5 n4 n3 n10 n11 H0 H1 < q := by
  have g4 := f16.2.1.1
  unfold Ab_296_23 at g4
  have g3 := f16.2.1.2
  unfold preb_296 at g3
  have g5 := Option.some.inj f16.2.2
  unfold mub_296_23 at g5
  unfold Ab_296_5
  unfold mub_296_5
  have e2 : (0 : Int) ≤ hV H0 285 82 ∧ hV H0 285 82 ≤ 40 := bTo ((f16.1.2.1.1 285 82 kF_296_285_82)) (f16.1.2.2 285 82 _ _ kW_285_82)
  have k0 := g4.1
  have k1 := g4.2.1
  have y0 := g4.2.2
  have p0 := g3.1
  have p1 := g3.2.1
  have p2 := g3.2.2.1
  have p3 := g3.2.2.2
  clear g3
  clear g4
  first
  | (have ix0 : n10 = n2 + 1 := Eq.trans f19 (w32_iv (Iad (Iat f5 f4) (IC 1)) (by decide)); subst ix0; clear f19)
  | (have ix0 : n10 = n2 + 1 := Eq.trans f19 (w32_id (by omega) (by omega)); subst ix0; clear f19)
  | (unfold w32 at f19; have ix0 : n10 = n2 + 1 := (by omega); subst ix0)
  | skip
  first
  | (have ix1 : n11 = n1 + 1 := Eq.trans f20 (w32_iv (Iad (Iat f3 f2) (IC 1)) (by decide)); subst ix1; clear f20)
  | (have ix1 : n11 = n1 + 1 := Eq.trans f20 (w32_id (by omega) (by omega)); subst ix1; clear f20)
  | (unfold w32 at f20; have ix1 : n11 = n1 + 1 := (by omega); subst ix1)
  | skip
  try unfold w32 at f19
  try unfold w32 at f20
  try subst k1
  try subst k0
  refine ⟨?_, fun q hq => ?_⟩
  · refine ⟨?_, ?_, ?_⟩ <;> first | assumption | omega | trivial
  · have g6 := Option.some.inj hq
    subst g6
    omega
theorem c_296_23_7 {q0 : Nat} : vOkm T0 (eP e_296 L_296 A_296 mu_296 (some q0)) 3 ([(10, [13, 7], [], 1), (10, [12, 6], [], 1), (43, [8, 9], [], 0), (0, [9], [], 4), (5000, [0, 1, 2, 3, 4, 5, 6, 7, 8], [0, 1], 23), (0, [0], [], 285), (90, [1], [], 0), (91, [1], [], 7), (90, [2], [], 0), (91, [2], [], 39), (0, [3], [], 285), (90, [4], [], 0), (91, [4], [], 7), (90, [5], [], 0), (91, [5], [], 39), (90, [6], [], 0), (91, [6], [], 59), (90, [7], [], 0), (91, [7], [], 59), (90, [8], [], 0), (91, [8], [], 4)], (4000, [3, 4, 5, 12, 13], [1], 5)) := vOk_inI fun ρ η f0 f1 f2 f3 f4 f5 f6 f7 f8 f9 f10 f11 f12 f13 f14 f15 f16 f17 f18 f19 f20 => q_296_12 (q0 := q0) (n0 := ρ 8) (n1 := ρ 7) (n2 := ρ 6) (n3 := ρ 5) (n4 := ρ 4) (n5 := ρ 3) (n6 := ρ 2) (n7 := ρ 1) (n8 := ρ 0) (n9 := ρ 9) (n10 := ρ 12) (n11 := ρ 13) (H0 := η 0) (H1 := η 1) f20 f19 f18 f17 f16 f15 f14 f13 f12 f11 f10 f9 f8 f7 f6 f5 f4 f3 f2 f1 f0
theorem kR_296_293 : vFreeR s_296.2.2.2.2 293 = true := by decide +kernel
theorem kR_296_325 : vFreeR s_296.2.2.2.2 325 = true := by decide +kernel
theorem q_296_13 {q0 : Nat} {n0 n1 n2 n3 n4 n5 n6 n7 n8 n9 n10 n11 n12 n13 n14 : Int} {H0 H1 : gH} (f0 : n0 ≤ 4) (f1 : 0 ≤ n0) (f2 : n1 ≤ 59) (f3 : 0 ≤ n1) (f4 : n2 ≤ 59) (f5 : 0 ≤ n2) (f6 : n3 ≤ 39) (f7 : 0 ≤ n3) (f8 : n4 ≤ 7) (f9 : 0 ≤ n4) (f10 : n5 = 285) (f11 : n6 ≤ 39) (f12 : 0 ≤ n6) (f13 : n7 ≤ 7) (f14 : 0 ≤ n7) (f15 : n8 = 285) (f16 : (hLe T0 H0 H1 ∧ hFr s_296.2.2.2.2 H0 H1 ∧ hWt T0 H1) ∧ (Ab_296_23 n8 n7 n6 n5 n4 n3 n2 n1 n0 H0 H1 ∧ preb_296 n8 n7 n6 H0) ∧ some q0 = some (mub_296_23 n8 n7 n6 n5 n4 n3 n2 n1 n0 H0 H1)) (f17 : n9 = 4) (f18 : n0 < n9) (f19 : n10 = 325) (f20 : n10 = hV H1 (n5).toNat 61) (f21 : n11 = 293) (f22 : n11 = hV H1 (n5).toNat 19) (f23 : n12 ≤ 5) (f24 : 0 ≤ n12) (f25 : n12 = hV H1 (n11).toNat (n4).toNat) (f26 : n13 ≤ 60) (f27 : 0 ≤ n13) (f28 : n13 = hV H1 (n10).toNat (n12).toNat) (f29 : n13 ≤ n1) (f30 : n14 = w32 (n1 + 1)) : 0 ≤ n14 := by
  have g4 := f16.2.1.1
  unfold Ab_296_23 at g4
  have g3 := f16.2.1.2
  unfold preb_296 at g3
  have e1 : n12 = hV H0 293 (n4).toNat := (by rw [f21] at f25; exact f25 : n12 = hV H1 293 (n4).toNat).trans ((congrFun (fRow f16.1.2.1 293 kR_296_293) _))
  have e3 : n13 = hV H0 325 (n12).toNat := (by rw [f19] at f28; exact f28 : n13 = hV H1 325 (n12).toNat).trans ((congrFun (fRow f16.1.2.1 325 kR_296_325) _))
  have e6 : (0 : Int) ≤ hV H0 285 82 ∧ hV H0 285 82 ≤ 40 := bTo ((f16.1.2.1.1 285 82 kF_296_285_82)) (f16.1.2.2 285 82 _ _ kW_285_82)
  have k0 := g4.1
  have k1 := g4.2.1
  have y0 := g4.2.2
  have p0 := g3.1
  have p1 := g3.2.1
  have p2 := g3.2.2.1
  have p3 := g3.2.2.2
  clear g3
  clear g4
  clear f20 f22 f25 f28
  subst e1
  subst e3
  first
  | (have ix0 : n14 = n1 + 1 := Eq.trans f30 (w32_iv (Iad (Iat f3 f2) (IC 1)) (by decide)); subst ix0; clear f30)
  | (have ix0 : n14 = n1 + 1 := Eq.trans f30 (w32_id (by omega) (by omega)); subst ix0; clear f30)
  | (unfold w32 at f30; have ix0 : n14 = n1 + 1 := (by omega); subst ix0)
  | skip
  try unfold w32 at f30
  try subst k1
  try subst k0
  omega
theorem c_296_23_8 {q0 : Nat} : vOkm T0 (eP e_296 L_296 A_296 mu_296 (some q0)) 3 ([(10, [16, 7], [], 1), (43, [7, 13], [], 0), (22, [13, 10, 12], [1], 0), (90, [13], [], 0), (91, [13], [], 60), (22, [12, 11, 4], [1], 0), (90, [12], [], 0), (91, [12], [], 5), (20, [11, 3], [1], 19), (0, [11], [], 293), (20, [10, 3], [1], 61), (0, [10], [], 325), (42, [8, 9], [], 0), (0, [9], [], 4), (5000, [0, 1, 2, 3, 4, 5, 6, 7, 8], [0, 1], 23), (0, [0], [], 285), (90, [1], [], 0), (91, [1], [], 7), (90, [2], [], 0), (91, [2], [], 39), (0, [3], [], 285), (90, [4], [], 0), (91, [4], [], 7), (90, [5], [], 0), (91, [5], [], 39), (90, [6], [], 0), (91, [6], [], 59), (90, [7], [], 0), (91, [7], [], 59), (90, [8], [], 0), (91, [8], [], 4)], (90, [16], [], 0)) := vOk_inI fun ρ η f0 f1 f2 f3 f4 f5 f6 f7 f8 f9 f10 f11 f12 f13 f14 f15 f16 f17 f18 f19 f20 f21 f22 f23 f24 f25 f26 f27 f28 f29 f30 => q_296_13 (q0 := q0) (n0 := ρ 8) (n1 := ρ 7) (n2 := ρ 6) (n3 := ρ 5) (n4 := ρ 4) (n5 := ρ 3) (n6 := ρ 2) (n7 := ρ 1) (n8 := ρ 0) (n9 := ρ 9) (n10 := ρ 10) (n11 := ρ 11) (n12 := ρ 12) (n13 := ρ 13) (n14 := ρ 16) (H0 := η 0) (H1 := η 1) f30 f29 f28 f27 f26 f25 f24 f23 f22 f21 f20 f19 f18 f17 f16 f15 f14 f13 f12 f11 f10 f9 f8 f7 f6 f5 f4 f3 f2 f1 f0
theorem q_296_14 {q0 : Nat} {n0 n1 n2 n3 n4 n5 n6 n7 n8 n9 n10 n11 n12 n13 n14 : Int} {H0 H1 : gH} (f0 : n0 ≤ 4) (f1 : 0 ≤ n0) (f2 : n1 ≤ 59) (f3 : 0 ≤ n1) (f4 : n2 ≤ 59) (f5 : 0 ≤ n2) (f6 : n3 ≤ 39) (f7 : 0 ≤ n3) (f8 : n4 ≤ 7) (f9 : 0 ≤ n4) (f10 : n5 = 285) (f11 : n6 ≤ 39) (f12 : 0 ≤ n6) (f13 : n7 ≤ 7) (f14 : 0 ≤ n7) (f15 : n8 = 285) (f16 : (hLe T0 H0 H1 ∧ hFr s_296.2.2.2.2 H0 H1 ∧ hWt T0 H1) ∧ (Ab_296_23 n8 n7 n6 n5 n4 n3 n2 n1 n0 H0 H1 ∧ preb_296 n8 n7 n6 H0) ∧ some q0 = some (mub_296_23 n8 n7 n6 n5 n4 n3 n2 n1 n0 H0 H1)) (f17 : n9 = 4) (f18 : n0 < n9) (f19 : n10 = 325) (f20 : n10 = hV H1 (n5).toNat 61) (f21 : n11 = 293) (f22 : n11 = hV H1 (n5).toNat 19) (f23 : n12 ≤ 5) (f24 : 0 ≤ n12) (f25 : n12 = hV H1 (n11).toNat (n4).toNat) (f26 : n13 ≤ 60) (f27 : 0 ≤ n13) (f28 : n13 = hV H1 (n10).toNat (n12).toNat) (f29 : n13 ≤ n1) (f30 : n14 = w32 (n1 + 1)) : n14 ≤ 60 := by
  have g4 := f16.2.1.1
  unfold Ab_296_23 at g4
  have g3 := f16.2.1.2
  unfold preb_296 at g3
  have e1 : n12 = hV H0 293 (n4).toNat := (by rw [f21] at f25; exact f25 : n12 = hV H1 293 (n4).toNat).trans ((congrFun (fRow f16.1.2.1 293 kR_296_293) _))
  have e3 : n13 = hV H0 325 (n12).toNat := (by rw [f19] at f28; exact f28 : n13 = hV H1 325 (n12).toNat).trans ((congrFun (fRow f16.1.2.1 325 kR_296_325) _))
  have e6 : (0 : Int) ≤ hV H0 285 82 ∧ hV H0 285 82 ≤ 40 := bTo ((f16.1.2.1.1 285 82 kF_296_285_82)) (f16.1.2.2 285 82 _ _ kW_285_82)
  have k0 := g4.1
  have k1 := g4.2.1
  have y0 := g4.2.2
  have p0 := g3.1
  have p1 := g3.2.1
  have p2 := g3.2.2.1
  have p3 := g3.2.2.2
  clear g3
  clear g4
  clear f20 f22 f25 f28
  subst e1
  subst e3
  first
  | (have ix0 : n14 = n1 + 1 := Eq.trans f30 (w32_iv (Iad (Iat f3 f2) (IC 1)) (by decide)); subst ix0; clear f30)
  | (have ix0 : n14 = n1 + 1 := Eq.trans f30 (w32_id (by omega) (by omega)); subst ix0; clear f30)
  | (unfold w32 at f30; have ix0 : n14 = n1 + 1 := (by omega); subst ix0)
  | skip
  try unfold w32 at f30
  try subst k1
  try subst k0
  omega
theorem c_296_23_9 {q0 : Nat} : vOkm T0 (eP e_296 L_296 A_296 mu_296 (some q0)) 3 ([(10, [16, 7], [], 1), (43, [7, 13], [], 0), (22, [13, 10, 12], [1], 0), (90, [13], [], 0), (91, [13], [], 60), (22, [12, 11, 4], [1], 0), (90, [12], [], 0), (91, [12], [], 5), (20, [11, 3], [1], 19), (0, [11], [], 293), (20, [10, 3], [1], 61), (0, [10], [], 325), (42, [8, 9], [], 0), (0, [9], [], 4), (5000, [0, 1, 2, 3, 4, 5, 6, 7, 8], [0, 1], 23), (0, [0], [], 285), (90, [1], [], 0), (91, [1], [], 7), (90, [2], [], 0), (91, [2], [], 39), (0, [3], [], 285), (90, [4], [], 0), (91, [4], [], 7), (90, [5], [], 0), (91, [5], [], 39), (90, [6], [], 0), (91, [6], [], 59), (90, [7], [], 0), (91, [7], [], 59), (90, [8], [], 0), (91, [8], [], 4)], (91, [16], [], 60)) := vOk_inI fun ρ η f0 f1 f2 f3 f4 f5 f6 f7 f8 f9 f10 f11 f12 f13 f14 f15 f16 f17 f18 f19 f20 f21 f22 f23 f24 f25 f26 f27 f28 f29 f30 => q_296_14 (q0 := q0) (n0 := ρ 8) (n1 := ρ 7) (n2 := ρ 6) (n3 := ρ 5) (n4 := ρ 4) (n5 := ρ 3) (n6 := ρ 2) (n7 := ρ 1) (n8 := ρ 0) (n9 := ρ 9) (n10 := ρ 10) (n11 := ρ 11) (n12 := ρ 12) (n13 := ρ 13) (n14 := ρ 16) (H0 := η 0) (H1 := η 1) f30 f29 f28 f27 f26 f25 f24 f23 f22 f21 f20 f19 f18 f17 f16 f15 f14 f13 f12 f11 f10 f9 f8 f7 f6 f5 f4 f3 f2 f1 f0
theorem q_296_15 {q0 : Nat} {n0 n1 n2 n3 n4 n5 n6 n7 n8 n9 n10 n11 n12 n13 n14 : Int} {H0 H1 : gH} (f0 : n0 ≤ 4) (f1 : 0 ≤ n0) (f2 : n1 ≤ 59) (f3 : 0 ≤ n1) (f4 : n2 ≤ 59) (f5 : 0 ≤ n2) (f6 : n3 ≤ 39) (f7 : 0 ≤ n3) (f8 : n4 ≤ 7) (f9 : 0 ≤ n4) (f10 : n5 = 285) (f11 : n6 ≤ 39) (f12 : 0 ≤ n6) (f13 : n7 ≤ 7) (f14 : 0 ≤ n7) (f15 : n8 = 285) (f16 : (hLe T0 H0 H1 ∧ hFr s_296.2.2.2.2 H0 H1 ∧ hWt T0 H1) ∧ (Ab_296_23 n8 n7 n6 n5 n4 n3 n2 n1 n0 H0 H1 ∧ preb_296 n8 n7 n6 H0) ∧ some q0 = some (mub_296_23 n8 n7 n6 n5 n4 n3 n2 n1 n0 H0 H1)) (f17 : n9 = 4) (f18 : n0 < n9) (f19 : n10 = 325) (f20 : n10 = hV H1 (n5).toNat 61) (f21 : n11 = 293) (f22 : n11 = hV H1 (n5).toNat 19) (f23 : n12 ≤ 5) (f24 : 0 ≤ n12) (f25 : n12 = hV H1 (n11).toNat (n4).toNat) (f26 : n13 ≤ 60) (f27 : 0 ≤ n13) (f28 : n13 = hV H1 (n10).toNat (n12).toNat) (f29 : n13 ≤ n1) (f30 : n14 = w32 (n1 + 1)) : Ab_296_5 n8 n7 n6 n5 n4 n3 n2 n14 H0 H1 ∧ ∀ q, some q0 = some q → mub_296_5 n8 n7 n6 n5 n4 n3 n2 n14 H0 H1 < q := by
  have g4 := f16.2.1.1
  unfold Ab_296_23 at g4
  have g3 := f16.2.1.2
  unfold preb_296 at g3
  have g5 := Option.some.inj f16.2.2
  unfold mub_296_23 at g5
  unfold Ab_296_5
  unfold mub_296_5
  have e1 : n12 = hV H0 293 (n4).toNat := (by rw [f21] at f25; exact f25 : n12 = hV H1 293 (n4).toNat).trans ((congrFun (fRow f16.1.2.1 293 kR_296_293) _))
  have e3 : n13 = hV H0 325 (n12).toNat := (by rw [f19] at f28; exact f28 : n13 = hV H1 325 (n12).toNat).trans ((congrFun (fRow f16.1.2.1 325 kR_296_325) _))
  have e6 : (0 : Int) ≤ hV H0 285 82 ∧ hV H0 285 82 ≤ 40 := bTo ((f16.1.2.1.1 285 82 kF_296_285_82)) (f16.1.2.2 285 82 _ _ kW_285_82)
  have k0 := g4.1
  have k1 := g4.2.1
  have y0 := g4.2.2
  have p0 := g3.1
  have p1 := g3.2.1
  have p2 := g3.2.2.1
  have p3 := g3.2.2.2
  clear g3
  clear g4
  clear f20 f22 f25 f28
  subst e1
  subst e3
  first
  | (have ix0 : n14 = n1 + 1 := Eq.trans f30 (w32_iv (Iad (Iat f3 f2) (IC 1)) (by decide)); subst ix0; clear f30)
  | (have ix0 : n14 = n1 + 1 := Eq.trans f30 (w32_id (by omega) (by omega)); subst ix0; clear f30)
  | (unfold w32 at f30; have ix0 : n14 = n1 + 1 := (by omega); subst ix0)
  | skip
  try unfold w32 at f30
  try subst k1
  try subst k0
  refine ⟨?_, fun q hq => ?_⟩
  · refine ⟨?_, ?_, ?_⟩ <;> first | assumption | omega | trivial
  · have g6 := Option.some.inj hq
    subst g6
    omega
theorem c_296_23_10 {q0 : Nat} : vOkm T0 (eP e_296 L_296 A_296 mu_296 (some q0)) 3 ([(10, [16, 7], [], 1), (43, [7, 13], [], 0), (22, [13, 10, 12], [1], 0), (90, [13], [], 0), (91, [13], [], 60), (22, [12, 11, 4], [1], 0), (90, [12], [], 0), (91, [12], [], 5), (20, [11, 3], [1], 19), (0, [11], [], 293), (20, [10, 3], [1], 61), (0, [10], [], 325), (42, [8, 9], [], 0), (0, [9], [], 4), (5000, [0, 1, 2, 3, 4, 5, 6, 7, 8], [0, 1], 23), (0, [0], [], 285), (90, [1], [], 0), (91, [1], [], 7), (90, [2], [], 0), (91, [2], [], 39), (0, [3], [], 285), (90, [4], [], 0), (91, [4], [], 7), (90, [5], [], 0), (91, [5], [], 39), (90, [6], [], 0), (91, [6], [], 59), (90, [7], [], 0), (91, [7], [], 59), (90, [8], [], 0), (91, [8], [], 4)], (4000, [3, 4, 5, 6, 16], [1], 5)) := vOk_inI fun ρ η f0 f1 f2 f3 f4 f5 f6 f7 f8 f9 f10 f11 f12 f13 f14 f15 f16 f17 f18 f19 f20 f21 f22 f23 f24 f25 f26 f27 f28 f29 f30 => q_296_15 (q0 := q0) (n0 := ρ 8) (n1 := ρ 7) (n2 := ρ 6) (n3 := ρ 5) (n4 := ρ 4) (n5 := ρ 3) (n6 := ρ 2) (n7 := ρ 1) (n8 := ρ 0) (n9 := ρ 9) (n10 := ρ 10) (n11 := ρ 11) (n12 := ρ 12) (n13 := ρ 13) (n14 := ρ 16) (H0 := η 0) (H1 := η 1) f30 f29 f28 f27 f26 f25 f24 f23 f22 f21 f20 f19 f18 f17 f16 f15 f14 f13 f12 f11 f10 f9 f8 f7 f6 f5 f4 f3 f2 f1 f0
theorem q_296_16 {q0 : Nat} {n0 n1 n2 n3 n4 n5 n6 n7 n8 n9 n10 n11 n12 n13 n14 n15 : Int} {H0 H1 : gH} (f0 : n0 ≤ 4) (f1 : 0 ≤ n0) (f2 : n1 ≤ 59) (f3 : 0 ≤ n1) (f4 : n2 ≤ 59) (f5 : 0 ≤ n2) (f6 : n3 ≤ 39) (f7 : 0 ≤ n3) (f8 : n4 ≤ 7) (f9 : 0 ≤ n4) (f10 : n5 = 285) (f11 : n6 ≤ 39) (f12 : 0 ≤ n6) (f13 : n7 ≤ 7) (f14 : 0 ≤ n7) (f15 : n8 = 285) (f16 : (hLe T0 H0 H1 ∧ hFr s_296.2.2.2.2 H0 H1 ∧ hWt T0 H1) ∧ (Ab_296_23 n8 n7 n6 n5 n4 n3 n2 n1 n0 H0 H1 ∧ preb_296 n8 n7 n6 H0) ∧ some q0 = some (mub_296_23 n8 n7 n6 n5 n4 n3 n2 n1 n0 H0 H1)) (f17 : n9 = 4) (f18 : n0 < n9) (f19 : n10 = 325) (f20 : n10 = hV H1 (n5).toNat 61) (f21 : n11 = 293) (f22 : n11 = hV H1 (n5).toNat 19) (f23 : n12 ≤ 5) (f24 : 0 ≤ n12) (f25 : n12 = hV H1 (n11).toNat (n4).toNat) (f26 : n13 ≤ 60) (f27 : 0 ≤ n13) (f28 : n13 = hV H1 (n10).toNat (n12).toNat) (f29 : n13 ≤ n1) (f30 : n14 = w32 (n2 + 1)) (f31 : n15 = w32 (n1 + 1)) : 0 ≤ n14 := by
  have g4 := f16.2.1.1
  unfold Ab_296_23 at g4
  have g3 := f16.2.1.2
  unfold preb_296 at g3
  have e1 : n12 = hV H0 293 (n4).toNat := (by rw [f21] at f25; exact f25 : n12 = hV H1 293 (n4).toNat).trans ((congrFun (fRow f16.1.2.1 293 kR_296_293) _))
  have e3 : n13 = hV H0 325 (n12).toNat := (by rw [f19] at f28; exact f28 : n13 = hV H1 325 (n12).toNat).trans ((congrFun (fRow f16.1.2.1 325 kR_296_325) _))
  have e6 : (0 : Int) ≤ hV H0 285 82 ∧ hV H0 285 82 ≤ 40 := bTo ((f16.1.2.1.1 285 82 kF_296_285_82)) (f16.1.2.2 285 82 _ _ kW_285_82)
  have k0 := g4.1
  have k1 := g4.2.1
  have y0 := g4.2.2
  have p0 := g3.1
  have p1 := g3.2.1
  have p2 := g3.2.2.1
  have p3 := g3.2.2.2
  clear g3
  clear g4
  clear f20 f22 f25 f28
  subst e1
  subst e3
  first
  | (have ix0 : n14 = n2 + 1 := Eq.trans f30 (w32_iv (Iad (Iat f5 f4) (IC 1)) (by decide)); subst ix0; clear f30)
  | (have ix0 : n14 = n2 + 1 := Eq.trans f30 (w32_id (by omega) (by omega)); subst ix0; clear f30)
  | (unfold w32 at f30; have ix0 : n14 = n2 + 1 := (by omega); subst ix0)
  | skip
  try unfold w32 at f30
  try unfold w32 at f31
  try subst k1
  try subst k0
  omega
theorem c_296_23_11 {q0 : Nat} : vOkm T0 (eP e_296 L_296 A_296 mu_296 (some q0)) 3 ([(10, [17, 7], [], 1), (10, [16, 6], [], 1), (43, [7, 13], [], 0), (22, [13, 10, 12], [1], 0), (90, [13], [], 0), (91, [13], [], 60), (22, [12, 11, 4], [1], 0), (90, [12], [], 0), (91, [12], [], 5), (20, [11, 3], [1], 19), (0, [11], [], 293), (20, [10, 3], [1], 61), (0, [10], [], 325), (42, [8, 9], [], 0), (0, [9], [], 4), (5000, [0, 1, 2, 3, 4, 5, 6, 7, 8], [0, 1], 23), (0, [0], [], 285), (90, [1], [], 0), (91, [1], [], 7), (90, [2], [], 0), (91, [2], [], 39), (0, [3], [], 285), (90, [4], [], 0), (91, [4], [], 7), (90, [5], [], 0), (91, [5], [], 39), (90, [6], [], 0), (91, [6], [], 59), (90, [7], [], 0), (91, [7], [], 59), (90, [8], [], 0), (91, [8], [], 4)], (90, [16], [], 0)) := vOk_inI fun ρ η f0 f1 f2 f3 f4 f5 f6 f7 f8 f9 f10 f11 f12 f13 f14 f15 f16 f17 f18 f19 f20 f21 f22 f23 f24 f25 f26 f27 f28 f29 f30 f31 => q_296_16 (q0 := q0) (n0 := ρ 8) (n1 := ρ 7) (n2 := ρ 6) (n3 := ρ 5) (n4 := ρ 4) (n5 := ρ 3) (n6 := ρ 2) (n7 := ρ 1) (n8 := ρ 0) (n9 := ρ 9) (n10 := ρ 10) (n11 := ρ 11) (n12 := ρ 12) (n13 := ρ 13) (n14 := ρ 16) (n15 := ρ 17) (H0 := η 0) (H1 := η 1) f31 f30 f29 f28 f27 f26 f25 f24 f23 f22 f21 f20 f19 f18 f17 f16 f15 f14 f13 f12 f11 f10 f9 f8 f7 f6 f5 f4 f3 f2 f1 f0
theorem q_296_17 {q0 : Nat} {n0 n1 n2 n3 n4 n5 n6 n7 n8 n9 n10 n11 n12 n13 n14 n15 : Int} {H0 H1 : gH} (f0 : n0 ≤ 4) (f1 : 0 ≤ n0) (f2 : n1 ≤ 59) (f3 : 0 ≤ n1) (f4 : n2 ≤ 59) (f5 : 0 ≤ n2) (f6 : n3 ≤ 39) (f7 : 0 ≤ n3) (f8 : n4 ≤ 7) (f9 : 0 ≤ n4) (f10 : n5 = 285) (f11 : n6 ≤ 39) (f12 : 0 ≤ n6) (f13 : n7 ≤ 7) (f14 : 0 ≤ n7) (f15 : n8 = 285) (f16 : (hLe T0 H0 H1 ∧ hFr s_296.2.2.2.2 H0 H1 ∧ hWt T0 H1) ∧ (Ab_296_23 n8 n7 n6 n5 n4 n3 n2 n1 n0 H0 H1 ∧ preb_296 n8 n7 n6 H0) ∧ some q0 = some (mub_296_23 n8 n7 n6 n5 n4 n3 n2 n1 n0 H0 H1)) (f17 : n9 = 4) (f18 : n0 < n9) (f19 : n10 = 325) (f20 : n10 = hV H1 (n5).toNat 61) (f21 : n11 = 293) (f22 : n11 = hV H1 (n5).toNat 19) (f23 : n12 ≤ 5) (f24 : 0 ≤ n12) (f25 : n12 = hV H1 (n11).toNat (n4).toNat) (f26 : n13 ≤ 60) (f27 : 0 ≤ n13) (f28 : n13 = hV H1 (n10).toNat (n12).toNat) (f29 : n13 ≤ n1) (f30 : n14 = w32 (n2 + 1)) (f31 : n15 = w32 (n1 + 1)) : n14 ≤ 60 := by
  have g4 := f16.2.1.1
  unfold Ab_296_23 at g4
  have g3 := f16.2.1.2
  unfold preb_296 at g3
  have e1 : n12 = hV H0 293 (n4).toNat := (by rw [f21] at f25; exact f25 : n12 = hV H1 293 (n4).toNat).trans ((congrFun (fRow f16.1.2.1 293 kR_296_293) _))
  have e3 : n13 = hV H0 325 (n12).toNat := (by rw [f19] at f28; exact f28 : n13 = hV H1 325 (n12).toNat).trans ((congrFun (fRow f16.1.2.1 325 kR_296_325) _))
  have e6 : (0 : Int) ≤ hV H0 285 82 ∧ hV H0 285 82 ≤ 40 := bTo ((f16.1.2.1.1 285 82 kF_296_285_82)) (f16.1.2.2 285 82 _ _ kW_285_82)
  have k0 := g4.1
  have k1 := g4.2.1
  have y0 := g4.2.2
  have p0 := g3.1
  have p1 := g3.2.1
  have p2 := g3.2.2.1
  have p3 := g3.2.2.2
  clear g3
  clear g4
  clear f20 f22 f25 f28
  subst e1
  subst e3
  first
  | (have ix0 : n14 = n2 + 1 := Eq.trans f30 (w32_iv (Iad (Iat f5 f4) (IC 1)) (by decide)); subst ix0; clear f30)
  | (have ix0 : n14 = n2 + 1 := Eq.trans f30 (w32_id (by omega) (by omega)); subst ix0; clear f30)
  | (unfold w32 at f30; have ix0 : n14 = n2 + 1 := (by omega); subst ix0)
  | skip
  try unfold w32 at f30
  try unfold w32 at f31
  try subst k1
  try subst k0
  omega
theorem c_296_23_12 {q0 : Nat} : vOkm T0 (eP e_296 L_296 A_296 mu_296 (some q0)) 3 ([(10, [17, 7], [], 1), (10, [16, 6], [], 1), (43, [7, 13], [], 0), (22, [13, 10, 12], [1], 0), (90, [13], [], 0), (91, [13], [], 60), (22, [12, 11, 4], [1], 0), (90, [12], [], 0), (91, [12], [], 5), (20, [11, 3], [1], 19), (0, [11], [], 293), (20, [10, 3], [1], 61), (0, [10], [], 325), (42, [8, 9], [], 0), (0, [9], [], 4), (5000, [0, 1, 2, 3, 4, 5, 6, 7, 8], [0, 1], 23), (0, [0], [], 285), (90, [1], [], 0), (91, [1], [], 7), (90, [2], [], 0), (91, [2], [], 39), (0, [3], [], 285), (90, [4], [], 0), (91, [4], [], 7), (90, [5], [], 0), (91, [5], [], 39), (90, [6], [], 0), (91, [6], [], 59), (90, [7], [], 0), (91, [7], [], 59), (90, [8], [], 0), (91, [8], [], 4)], (91, [16], [], 60)) := vOk_inI fun ρ η f0 f1 f2 f3 f4 f5 f6 f7 f8 f9 f10 f11 f12 f13 f14 f15 f16 f17 f18 f19 f20 f21 f22 f23 f24 f25 f26 f27 f28 f29 f30 f31 => q_296_17 (q0 := q0) (n0 := ρ 8) (n1 := ρ 7) (n2 := ρ 6) (n3 := ρ 5) (n4 := ρ 4) (n5 := ρ 3) (n6 := ρ 2) (n7 := ρ 1) (n8 := ρ 0) (n9 := ρ 9) (n10 := ρ 10) (n11 := ρ 11) (n12 := ρ 12) (n13 := ρ 13) (n14 := ρ 16) (n15 := ρ 17) (H0 := η 0) (H1 := η 1) f31 f30 f29 f28 f27 f26 f25 f24 f23 f22 f21 f20 f19 f18 f17 f16 f15 f14 f13 f12 f11 f10 f9 f8 f7 f6 f5 f4 f3 f2 f1 f0
theorem q_296_18 {q0 : Nat} {n0 n1 n2 n3 n4 n5 n6 n7 n8 n9 n10 n11 n12 n13 n14 n15 : Int} {H0 H1 : gH} (f0 : n0 ≤ 4) (f1 : 0 ≤ n0) (f2 : n1 ≤ 59) (f3 : 0 ≤ n1) (f4 : n2 ≤ 59) (f5 : 0 ≤ n2) (f6 : n3 ≤ 39) (f7 : 0 ≤ n3) (f8 : n4 ≤ 7) (f9 : 0 ≤ n4) (f10 : n5 = 285) (f11 : n6 ≤ 39) (f12 : 0 ≤ n6) (f13 : n7 ≤ 7) (f14 : 0 ≤ n7) (f15 : n8 = 285) (f16 : (hLe T0 H0 H1 ∧ hFr s_296.2.2.2.2 H0 H1 ∧ hWt T0 H1) ∧ (Ab_296_23 n8 n7 n6 n5 n4 n3 n2 n1 n0 H0 H1 ∧ preb_296 n8 n7 n6 H0) ∧ some q0 = some (mub_296_23 n8 n7 n6 n5 n4 n3 n2 n1 n0 H0 H1)) (f17 : n9 = 4) (f18 : n0 < n9) (f19 : n10 = 325) (f20 : n10 = hV H1 (n5).toNat 61) (f21 : n11 = 293) (f22 : n11 = hV H1 (n5).toNat 19) (f23 : n12 ≤ 5) (f24 : 0 ≤ n12) (f25 : n12 = hV H1 (n11).toNat (n4).toNat) (f26 : n13 ≤ 60) (f27 : 0 ≤ n13) (f28 : n13 = hV H1 (n10).toNat (n12).toNat) (f29 : n13 ≤ n1) (f30 : n14 = w32 (n2 + 1)) (f31 : n15 = w32 (n1 + 1)) : 0 ≤ n15 := by
  have g4 := f16.2.1.1
  unfold Ab_296_23 at g4
  have g3 := f16.2.1.2
  unfold preb_296 at g3
  have e1 : n12 = hV H0 293 (n4).toNat := (by rw [f21] at f25; exact f25 : n12 = hV H1 293 (n4).toNat).trans ((congrFun (fRow f16.1.2.1 293 kR_296_293) _))
  have e3 : n13 = hV H0 325 (n12).toNat := (by rw [f19] at f28; exact f28 : n13 = hV H1 325 (n12).toNat).trans ((congrFun (fRow f16.1.2.1 325 kR_296_325) _))
  have e6 : (0 : Int) ≤ hV H0 285 82 ∧ hV H0 285 82 ≤ 40 := bTo ((f16.1.2.1.1 285 82 kF_296_285_82)) (f16.1.2.2 285 82 _ _ kW_285_82)
  have k0 := g4.1
  have k1 := g4.2.1
  have y0 := g4.2.2
  have p0 := g3.1
  have p1 := g3.2.1
  have p2 := g3.2.2.1
  have p3 := g3.2.2.2
  clear g3
  clear g4
  clear f20 f22 f25 f28
  subst e1
  subst e3
  first
  | (have ix0 : n15 = n1 + 1 := Eq.trans f31 (w32_iv (Iad (Iat f3 f2) (IC 1)) (by decide)); subst ix0; clear f31)
  | (have ix0 : n15 = n1 + 1 := Eq.trans f31 (w32_id (by omega) (by omega)); subst ix0; clear f31)
  | (unfold w32 at f31; have ix0 : n15 = n1 + 1 := (by omega); subst ix0)
  | skip
  try unfold w32 at f30
  try unfold w32 at f31
  try subst k1
  try subst k0
  omega
theorem c_296_23_13 {q0 : Nat} : vOkm T0 (eP e_296 L_296 A_296 mu_296 (some q0)) 3 ([(10, [17, 7], [], 1), (10, [16, 6], [], 1), (43, [7, 13], [], 0), (22, [13, 10, 12], [1], 0), (90, [13], [], 0), (91, [13], [], 60), (22, [12, 11, 4], [1], 0), (90, [12], [], 0), (91, [12], [], 5), (20, [11, 3], [1], 19), (0, [11], [], 293), (20, [10, 3], [1], 61), (0, [10], [], 325), (42, [8, 9], [], 0), (0, [9], [], 4), (5000, [0, 1, 2, 3, 4, 5, 6, 7, 8], [0, 1], 23), (0, [0], [], 285), (90, [1], [], 0), (91, [1], [], 7), (90, [2], [], 0), (91, [2], [], 39), (0, [3], [], 285), (90, [4], [], 0), (91, [4], [], 7), (90, [5], [], 0), (91, [5], [], 39), (90, [6], [], 0), (91, [6], [], 59), (90, [7], [], 0), (91, [7], [], 59), (90, [8], [], 0), (91, [8], [], 4)], (90, [17], [], 0)) := vOk_inI fun ρ η f0 f1 f2 f3 f4 f5 f6 f7 f8 f9 f10 f11 f12 f13 f14 f15 f16 f17 f18 f19 f20 f21 f22 f23 f24 f25 f26 f27 f28 f29 f30 f31 => q_296_18 (q0 := q0) (n0 := ρ 8) (n1 := ρ 7) (n2 := ρ 6) (n3 := ρ 5) (n4 := ρ 4) (n5 := ρ 3) (n6 := ρ 2) (n7 := ρ 1) (n8 := ρ 0) (n9 := ρ 9) (n10 := ρ 10) (n11 := ρ 11) (n12 := ρ 12) (n13 := ρ 13) (n14 := ρ 16) (n15 := ρ 17) (H0 := η 0) (H1 := η 1) f31 f30 f29 f28 f27 f26 f25 f24 f23 f22 f21 f20 f19 f18 f17 f16 f15 f14 f13 f12 f11 f10 f9 f8 f7 f6 f5 f4 f3 f2 f1 f0
theorem q_296_19 {q0 : Nat} {n0 n1 n2 n3 n4 n5 n6 n7 n8 n9 n10 n11 n12 n13 n14 n15 : Int} {H0 H1 : gH} (f0 : n0 ≤ 4) (f1 : 0 ≤ n0) (f2 : n1 ≤ 59) (f3 : 0 ≤ n1) (f4 : n2 ≤ 59) (f5 : 0 ≤ n2) (f6 : n3 ≤ 39) (f7 : 0 ≤ n3) (f8 : n4 ≤ 7) (f9 : 0 ≤ n4) (f10 : n5 = 285) (f11 : n6 ≤ 39) (f12 : 0 ≤ n6) (f13 : n7 ≤ 7) (f14 : 0 ≤ n7) (f15 : n8 = 285) (f16 : (hLe T0 H0 H1 ∧ hFr s_296.2.2.2.2 H0 H1 ∧ hWt T0 H1) ∧ (Ab_296_23 n8 n7 n6 n5 n4 n3 n2 n1 n0 H0 H1 ∧ preb_296 n8 n7 n6 H0) ∧ some q0 = some (mub_296_23 n8 n7 n6 n5 n4 n3 n2 n1 n0 H0 H1)) (f17 : n9 = 4) (f18 : n0 < n9) (f19 : n10 = 325) (f20 : n10 = hV H1 (n5).toNat 61) (f21 : n11 = 293) (f22 : n11 = hV H1 (n5).toNat 19) (f23 : n12 ≤ 5) (f24 : 0 ≤ n12) (f25 : n12 = hV H1 (n11).toNat (n4).toNat) (f26 : n13 ≤ 60) (f27 : 0 ≤ n13) (f28 : n13 = hV H1 (n10).toNat (n12).toNat) (f29 : n13 ≤ n1) (f30 : n14 = w32 (n2 + 1)) (f31 : n15 = w32 (n1 + 1)) : n15 ≤ 60 := by
  have g4 := f16.2.1.1
  unfold Ab_296_23 at g4
  have g3 := f16.2.1.2
  unfold preb_296 at g3
  have e1 : n12 = hV H0 293 (n4).toNat := (by rw [f21] at f25; exact f25 : n12 = hV H1 293 (n4).toNat).trans ((congrFun (fRow f16.1.2.1 293 kR_296_293) _))
  have e3 : n13 = hV H0 325 (n12).toNat := (by rw [f19] at f28; exact f28 : n13 = hV H1 325 (n12).toNat).trans ((congrFun (fRow f16.1.2.1 325 kR_296_325) _))
  have e6 : (0 : Int) ≤ hV H0 285 82 ∧ hV H0 285 82 ≤ 40 := bTo ((f16.1.2.1.1 285 82 kF_296_285_82)) (f16.1.2.2 285 82 _ _ kW_285_82)
  have k0 := g4.1
  have k1 := g4.2.1
  have y0 := g4.2.2
  have p0 := g3.1
  have p1 := g3.2.1
  have p2 := g3.2.2.1
  have p3 := g3.2.2.2
  clear g3
  clear g4
  clear f20 f22 f25 f28
  subst e1
  subst e3
  first
  | (have ix0 : n15 = n1 + 1 := Eq.trans f31 (w32_iv (Iad (Iat f3 f2) (IC 1)) (by decide)); subst ix0; clear f31)
  | (have ix0 : n15 = n1 + 1 := Eq.trans f31 (w32_id (by omega) (by omega)); subst ix0; clear f31)
  | (unfold w32 at f31; have ix0 : n15 = n1 + 1 := (by omega); subst ix0)
  | skip
  try unfold w32 at f30
  try unfold w32 at f31
  try subst k1
  try subst k0
  omega
theorem c_296_23_14 {q0 : Nat} : vOkm T0 (eP e_296 L_296 A_296 mu_296 (some q0)) 3 ([(10, [17, 7], [], 1), (10, [16, 6], [], 1), (43, [7, 13], [], 0), (22, [13, 10, 12], [1], 0), (90, [13], [], 0), (91, [13], [], 60), (22, [12, 11, 4], [1], 0), (90, [12], [], 0), (91, [12], [], 5), (20, [11, 3], [1], 19), (0, [11], [], 293), (20, [10, 3], [1], 61), (0, [10], [], 325), (42, [8, 9], [], 0), (0, [9], [], 4), (5000, [0, 1, 2, 3, 4, 5, 6, 7, 8], [0, 1], 23), (0, [0], [], 285), (90, [1], [], 0), (91, [1], [], 7), (90, [2], [], 0), (91, [2], [], 39), (0, [3], [], 285), (90, [4], [], 0), (91, [4], [], 7), (90, [5], [], 0), (91, [5], [], 39), (90, [6], [], 0), (91, [6], [], 59), (90, [7], [], 0), (91, [7], [], 59), (90, [8], [], 0), (91, [8], [], 4)], (91, [17], [], 60)) := vOk_inI fun ρ η f0 f1 f2 f3 f4 f5 f6 f7 f8 f9 f10 f11 f12 f13 f14 f15 f16 f17 f18 f19 f20 f21 f22 f23 f24 f25 f26 f27 f28 f29 f30 f31 => q_296_19 (q0 := q0) (n0 := ρ 8) (n1 := ρ 7) (n2 := ρ 6) (n3 := ρ 5) (n4 := ρ 4) (n5 := ρ 3) (n6 := ρ 2) (n7 := ρ 1) (n8 := ρ 0) (n9 := ρ 9) (n10 := ρ 10) (n11 := ρ 11) (n12 := ρ 12) (n13 := ρ 13) (n14 := ρ 16) (n15 := ρ 17) (H0 := η 0) (H1 := η 1) f31 f30 f29 f28 f27 f26 f25 f24 f23 f22 f21 f20 f19 f18 f17 f16 f15 f14 f13 f12 f11 f10 f9 f8 f7 f6 f5 f4 f3 f2 f1 f0
theorem q_296_20 {q0 : Nat} {n0 n1 n2 n3 n4 n5 n6 n7 n8 n9 n10 n11 n12 n13 n14 n15 : Int} {H0 H1 : gH} (f0 : n0 ≤ 4) (f1 : 0 ≤ n0) (f2 : n1 ≤ 59) (f3 : 0 ≤ n1) (f4 : n2 ≤ 59) (f5 : 0 ≤ n2) (f6 : n3 ≤ 39) (f7 : 0 ≤ n3) (f8 : n4 ≤ 7) (f9 : 0 ≤ n4) (f10 : n5 = 285) (f11 : n6 ≤ 39) (f12 : 0 ≤ n6) (f13 : n7 ≤ 7) (f14 : 0 ≤ n7) (f15 : n8 = 285) (f16 : (hLe T0 H0 H1 ∧ hFr s_296.2.2.2.2 H0 H1 ∧ hWt T0 H1) ∧ (Ab_296_23 n8 n7 n6 n5 n4 n3 n2 n1 n0 H0 H1 ∧ preb_296 n8 n7 n6 H0) ∧ some q0 = some (mub_296_23 n8 n7 n6 n5 n4 n3 n2 n1 n0 H0 H1)) (f17 : n9 = 4) (f18 : n0 < n9) (f19 : n10 = 325) (f20 : n10 = hV H1 (n5).toNat 61) (f21 : n11 = 293) (f22 : n11 = hV H1 (n5).toNat 19) (f23 : n12 ≤ 5) (f24 : 0 ≤ n12) (f25 : n12 = hV H1 (n11).toNat (n4).toNat) (f26 : n13 ≤ 60) (f27 : 0 ≤ n13) (f28 : n13 = hV H1 (n10).toNat (n12).toNat) (f29 : n13 ≤ n1) (f30 : n14 = w32 (n2 + 1)) (f31 : n15 = w32 (n1 + 1)) : Ab_296_5 n8 n7 n6 n5 n4 n3 n14 n15 H0 H1 ∧ ∀ q, some q0 = some q → mub_296_5 n8 n7 n6 n5 n4 n3 n14 n15 H0 H1 < q := by
  have g4 := f16.2.1.1
  unfold Ab_296_23 at g4
  have g3 := f16.2.1.2
  unfold preb_296 at g3
  have g5 := Option.some.inj f16.2.2
  unfold mub_296_23 at g5
  unfold Ab_296_5
  unfold mub_296_5
  have e1 : n12 = hV H0 293 (n4).toNat := (by rw [f21] at f25; exact f25 : n12 = hV H1 293 (n4).toNat).trans ((congrFun (fRow f16.1.2.1 293 kR_296_293) _))
  have e3 : n13 = hV H0 325 (n12).toNat := (by rw [f19] at f28; exact f28 : n13 = hV H1 325 (n12).toNat).trans ((congrFun (fRow f16.1.2.1 325 kR_296_325) _))
  have e6 : (0 : Int) ≤ hV H0 285 82 ∧ hV H0 285 82 ≤ 40 := bTo ((f16.1.2.1.1 285 82 kF_296_285_82)) (f16.1.2.2 285 82 _ _ kW_285_82)
  have k0 := g4.1
  have k1 := g4.2.1
  have y0 := g4.2.2
  have p0 := g3.1
  have p1 := g3.2.1
  have p2 := g3.2.2.1
  have p3 := g3.2.2.2
  clear g3
  clear g4
  clear f20 f22 f25 f28
  subst e1
  subst e3
  first
  | (have ix0 : n14 = n2 + 1 := Eq.trans f30 (w32_iv (Iad (Iat f5 f4) (IC 1)) (by decide)); subst ix0; clear f30)
  | (have ix0 : n14 = n2 + 1 := Eq.trans f30 (w32_id (by omega) (by omega)); subst ix0; clear f30)
  | (unfold w32 at f30; have ix0 : n14 = n2 + 1 := (by omega); subst ix0)
  | skip
  first
  | (have ix1 : n15 = n1 + 1 := Eq.trans f31 (w32_iv (Iad (Iat f3 f2) (IC 1)) (by decide)); subst ix1; clear f31)
  | (have ix1 : n15 = n1 + 1 := Eq.trans f31 (w32_id (by omega) (by omega)); subst ix1; clear f31)
  | (unfold w32 at f31; have ix1 : n15 = n1 + 1 := (by omega); subst ix1)
  | skip
  try unfold w32 at f30
  try unfold w32 at f31
  try subst k1
  try subst k0
  refine ⟨?_, fun q hq => ?_⟩
  · refine ⟨?_, ?_, ?_⟩ <;> first | assumption | omega | trivial
  · have g6 := Option.some.inj hq
    subst g6
    omega
theorem c_296_23_15 {q0 : Nat} : vOkm T0 (eP e_296 L_296 A_296 mu_296 (some q0)) 3 ([(10, [17, 7], [], 1), (10, [16, 6], [], 1), (43, [7, 13], [], 0), (22, [13, 10, 12], [1], 0), (90, [13], [], 0), (91, [13], [], 60), (22, [12, 11, 4], [1], 0), (90, [12], [], 0), (91, [12], [], 5), (20, [11, 3], [1], 19), (0, [11], [], 293), (20, [10, 3], [1], 61), (0, [10], [], 325), (42, [8, 9], [], 0), (0, [9], [], 4), (5000, [0, 1, 2, 3, 4, 5, 6, 7, 8], [0, 1], 23), (0, [0], [], 285), (90, [1], [], 0), (91, [1], [], 7), (90, [2], [], 0), (91, [2], [], 39), (0, [3], [], 285), (90, [4], [], 0), (91, [4], [], 7), (90, [5], [], 0), (91, [5], [], 39), (90, [6], [], 0), (91, [6], [], 59), (90, [7], [], 0), (91, [7], [], 59), (90, [8], [], 0), (91, [8], [], 4)], (4000, [3, 4, 5, 16, 17], [1], 5)) := vOk_inI fun ρ η f0 f1 f2 f3 f4 f5 f6 f7 f8 f9 f10 f11 f12 f13 f14 f15 f16 f17 f18 f19 f20 f21 f22 f23 f24 f25 f26 f27 f28 f29 f30 f31 => q_296_20 (q0 := q0) (n0 := ρ 8) (n1 := ρ 7) (n2 := ρ 6) (n3 := ρ 5) (n4 := ρ 4) (n5 := ρ 3) (n6 := ρ 2) (n7 := ρ 1) (n8 := ρ 0) (n9 := ρ 9) (n10 := ρ 10) (n11 := ρ 11) (n12 := ρ 12) (n13 := ρ 13) (n14 := ρ 16) (n15 := ρ 17) (H0 := η 0) (H1 := η 1) f31 f30 f29 f28 f27 f26 f25 f24 f23 f22 f21 f20 f19 f18 f17 f16 f15 f14 f13 f12 f11 f10 f9 f8 f7 f6 f5 f4 f3 f2 f1 f0
theorem kR_296_298 : vFreeR s_296.2.2.2.2 298 = true := by decide +kernel
theorem kR_296_344 : vFreeR s_296.2.2.2.2 344 = true := by decide +kernel
theorem q_296_21 {q0 : Nat} {n0 n1 n2 n3 n4 n5 n6 n7 n8 n9 n10 n11 n12 n13 n14 n15 n16 : Int} {H0 H1 : gH} (f0 : n0 ≤ 4) (f1 : 0 ≤ n0) (f2 : n1 ≤ 59) (f3 : 0 ≤ n1) (f4 : n2 ≤ 59) (f5 : 0 ≤ n2) (f6 : n3 ≤ 39) (f7 : 0 ≤ n3) (f8 : n4 ≤ 7) (f9 : 0 ≤ n4) (f10 : n5 = 285) (f11 : n6 ≤ 39) (f12 : 0 ≤ n6) (f13 : n7 ≤ 7) (f14 : 0 ≤ n7) (f15 : n8 = 285) (f16 : (hLe T0 H0 H1 ∧ hFr s_296.2.2.2.2 H0 H1 ∧ hWt T0 H1) ∧ (Ab_296_23 n8 n7 n6 n5 n4 n3 n2 n1 n0 H0 H1 ∧ preb_296 n8 n7 n6 H0) ∧ some q0 = some (mub_296_23 n8 n7 n6 n5 n4 n3 n2 n1 n0 H0 H1)) (f17 : n9 = 4) (f18 : n0 < n9) (f19 : n10 = 325) (f20 : n10 = hV H1 (n5).toNat 61) (f21 : n11 = 293) (f22 : n11 = hV H1 (n5).toNat 19) (f23 : n12 ≤ 5) (f24 : 0 ≤ n12) (f25 : n12 = hV H1 (n11).toNat (n4).toNat) (f26 : n13 ≤ 60) (f27 : 0 ≤ n13) (f28 : n13 = hV H1 (n10).toNat (n12).toNat) (f29 : n1 < n13) (f30 : n14 = 4) (f31 : n15 = w32 (n14 * n1)) (f32 : n16 = w32 (n15 + n0)) : preb_273 n5 n3 n16 H1 := by
  have g4 := f16.2.1.1
  unfold Ab_296_23 at g4
  have g3 := f16.2.1.2
  unfold preb_296 at g3
  unfold preb_273
  have e1 : n12 = hV H0 293 (n4).toNat := (by rw [f21] at f25; exact f25 : n12 = hV H1 293 (n4).toNat).trans ((congrFun (fRow f16.1.2.1 293 kR_296_293) _))
  have e3 : n13 = hV H0 325 (n12).toNat := (by rw [f19] at f28; exact f28 : n13 = hV H1 325 (n12).toNat).trans ((congrFun (fRow f16.1.2.1 325 kR_296_325) _))
  have e5 : hV H1 285 82 = hV H0 285 82 := (f16.1.2.1.1 285 82 kF_296_285_82)
  have e6 : hV H1 298 = hV H0 298 := fRow f16.1.2.1 298 kR_296_298
  have e7 : hV H1 344 = hV H0 344 := fRow f16.1.2.1 344 kR_296_344
  have e8 : SO H1 = SO H0 := SO_fr f16.1.2.1 (by decide +kernel)
  have e9 : XQ H1 = XQ H0 := XQ_fr f16.1.2.1 (by decide +kernel)
  have e10 : (0 : Int) ≤ hV H0 285 82 ∧ hV H0 285 82 ≤ 40 := bTo e5 (f16.1.2.2 285 82 _ _ kW_285_82)
  try simp only [e5, e6, e7, e8, e9]
  have k0 := g4.1
  have k1 := g4.2.1
  have y0 := g4.2.2
  have p0 := g3.1
  have p1 := g3.2.1
  have p2 := g3.2.2.1
  have p3 := g3.2.2.2
  clear g3
  clear g4
  clear f20 f22 f25 f28 e5 e6 e7 e8 e9
  subst e1
  subst e3
  rw [f30] at f31
  first
  | (have ix0 : n15 = 4 * n1 := Eq.trans f31 (w32_iv (Iml 4 rfl (Iat f3 f2)) (by decide)); subst ix0; clear f31)
  | (have ix0 : n15 = 4 * n1 := Eq.trans f31 (w32_id (by omega) (by omega)); subst ix0; clear f31)
  | (unfold w32 at f31; have ix0 : n15 = 4 * n1 := (by omega); subst ix0)
  | skip
  first
  | (have ix1 : n16 = (4 * n1) + n0 := Eq.trans f32 (w32_iv (Iad (Iml 4 rfl (Iat f3 f2)) (Iat f1 f0)) (by decide)); subst ix1; clear f32)
  | (have ix1 : n16 = (4 * n1) + n0 := Eq.trans f32 (w32_id (by omega) (by omega)); subst ix1; clear f32)
  | (unfold w32 at f32; have ix1 : n16 = (4 * n1) + n0 := (by omega); subst ix1)
  | skip
  try unfold w32 at f31
  try unfold w32 at f32
  try subst k1
  try subst k0
  refine ⟨?_, ?_, ?_, ?_⟩ <;> first | assumption | omega | trivial
theorem c_296_23_16 {q0 : Nat} : vOkm T0 (eP e_296 L_296 A_296 mu_296 (some q0)) 3 ([(1, [16, 15, 8], [], 0), (3, [15, 14, 7], [], 0), (0, [14], [], 4), (42, [7, 13], [], 0), (22, [13, 10, 12], [1], 0), (90, [13], [], 0), (91, [13], [], 60), (22, [12, 11, 4], [1], 0), (90, [12], [], 0), (91, [12], [], 5), (20, [11, 3], [1], 19), (0, [11], [], 293), (20, [10, 3], [1], 61), (0, [10], [], 325), (42, [8, 9], [], 0), (0, [9], [], 4), (5000, [0, 1, 2, 3, 4, 5, 6, 7, 8], [0, 1], 23), (0, [0], [], 285), (90, [1], [], 0), (91, [1], [], 7), (90, [2], [], 0), (91, [2], [], 39), (0, [3], [], 285), (90, [4], [], 0), (91, [4], [], 7), (90, [5], [], 0), (91, [5], [], 39), (90, [6], [], 0), (91, [6], [], 59), (90, [7], [], 0), (91, [7], [], 59), (90, [8], [], 0), (91, [8], [], 4)], (2273, [3, 5, 16], [1], 0)) := vOk_inI fun ρ η f0 f1 f2 f3 f4 f5 f6 f7 f8 f9 f10 f11 f12 f13 f14 f15 f16 f17 f18 f19 f20 f21 f22 f23 f24 f25 f26 f27 f28 f29 f30 f31 f32 => q_296_21 (q0 := q0) (n0 := ρ 8) (n1 := ρ 7) (n2 := ρ 6) (n3 := ρ 5) (n4 := ρ 4) (n5 := ρ 3) (n6 := ρ 2) (n7 := ρ 1) (n8 := ρ 0) (n9 := ρ 9) (n10 := ρ 10) (n11 := ρ 11) (n12 := ρ 12) (n13 := ρ 13) (n14 := ρ 14) (n15 := ρ 15) (n16 := ρ 16) (H0 := η 0) (H1 := η 1) f32 f31 f30 f29 f28 f27 f26 f25 f24 f23 f22 f21 f20 f19 f18 f17 f16 f15 f14 f13 f12 f11 f10 f9 f8 f7 f6 f5 f4 f3 f2 f1 f0
theorem kR_296_300 : vFreeR s_296.2.2.2.2 300 = true := by decide +kernel
theorem kF_296_285_64 : vFree s_296.2.2.2.2 285 64 = true := by decide +kernel
theorem q_296_22 {q0 : Nat} {n0 n1 n2 n3 n4 n5 n6 n7 n8 n9 n10 n11 n12 n13 n14 n15 n16 n17 n18 : Int} {H0 H1 H2 : gH} (f0 : n0 ≤ 4) (f1 : 0 ≤ n0) (f2 : n1 ≤ 59) (f3 : 0 ≤ n1) (f4 : n2 ≤ 59) (f5 : 0 ≤ n2) (f6 : n3 ≤ 39) (f7 : 0 ≤ n3) (f8 : n4 ≤ 7) (f9 : 0 ≤ n4) (f10 : n5 = 285) (f11 : n6 ≤ 39) (f12 : 0 ≤ n6) (f13 : n7 ≤ 7) (f14 : 0 ≤ n7) (f15 : n8 = 285) (f16 : (hLe T0 H0 H1 ∧ hFr s_296.2.2.2.2 H0 H1 ∧ hWt T0 H1) ∧ (Ab_296_23 n8 n7 n6 n5 n4 n3 n2 n1 n0 H0 H1 ∧ preb_296 n8 n7 n6 H0) ∧ some q0 = some (mub_296_23 n8 n7 n6 n5 n4 n3 n2 n1 n0 H0 H1)) (f17 : n9 = 4) (f18 : n0 < n9) (f19 : n10 = 325) (f20 : n10 = hV H1 (n5).toNat 61) (f21 : n11 = 293) (f22 : n11 = hV H1 (n5).toNat 19) (f23 : n12 ≤ 5) (f24 : 0 ≤ n12) (f25 : n12 = hV H1 (n11).toNat (n4).toNat) (f26 : n13 ≤ 60) (f27 : 0 ≤ n13) (f28 : n13 = hV H1 (n10).toNat (n12).toNat) (f29 : n1 < n13) (f30 : n14 = 4) (f31 : n15 = w32 (n14 * n1)) (f32 : n16 = w32 (n15 + n0)) (f33 : n17 ≤ 1) (f34 : 0 ≤ n17) (f35 : (hLe T0 H1 H2 ∧ hFr s_273.2.2.2.2 H1 H2 ∧ ((0 : Int) = 0 → H2.length = H1.length) ∧ hWt T0 H2) ∧ postb_273 n17 n5 n3 n16 H1 H2) (f36 : n17 = 0) (f37 : n18 = w32 (n0 + 1)) : 0 ≤ n18 := by
  have g4 := f16.2.1.1
  unfold Ab_296_23 at g4
  have g3 := f16.2.1.2
  unfold preb_296 at g3
  unfold postb_273 at f35
  have e1 : n12 = hV H0 293 (n4).toNat := (by rw [f21] at f25; exact f25 : n12 = hV H1 293 (n4).toNat).trans ((congrFun (fRow f16.1.2.1 293 kR_296_293) _))
  have e3 : n13 = hV H0 325 (n12).toNat := (by rw [f19] at f28; exact f28 : n13 = hV H1 325 (n12).toNat).trans ((congrFun (fRow f16.1.2.1 325 kR_296_325) _))
  have e9 : hV H2 285 64 = hV H0 285 64 := ((f35.1.2.1.1 285 64 kF_273_285_64)).trans (f16.1.2.1.1 285 64 kF_296_285_64)
  have e12 : hV H2 300 = hV H0 300 := (fRow f35.1.2.1 300 kR_273_300).trans (fRow f16.1.2.1 300 kR_296_300)
  have e15 : hV H2 344 = hV H0 344 := (fRow f35.1.2.1 344 kR_273_344).trans (fRow f16.1.2.1 344 kR_296_344)
  have e16 : (0 : Int) ≤ hV H0 285 64 ∧ hV H0 285 64 ≤ 20 := bTo ((f16.1.2.1.1 285 64 kF_296_285_64)) (f16.1.2.2 285 64 _ _ kW_285_64)
  have e17 : (0 : Int) ≤ hV H0 285 82 ∧ hV H0 285 82 ≤ 40 := bTo ((f16.1.2.1.1 285 82 kF_296_285_82)) (f16.1.2.2 285 82 _ _ kW_285_82)
  try simp only [e9, e12, e15] at f35
  have k0 := g4.1
  have k1 := g4.2.1
  have y0 := g4.2.2
  have p0 := g3.1
  have p1 := g3.2.1
  have p2 := g3.2.2.1
  have p3 := g3.2.2.2
  have r0_0 := f35.2
  clear g3
  clear g4
  clear f20 f22 f25 f28 e9 e12 e15
  subst e1
  subst e3
  rw [f30] at f31
  first
  | (have ix0 : n18 = n0 + 1 := Eq.trans f37 (w32_iv (Iad (Iat f1 f0) (IC 1)) (by decide)); subst ix0; clear f37)
  | (have ix0 : n18 = n0 + 1 := Eq.trans f37 (w32_id (by omega) (by omega)); subst ix0; clear f37)
  | (unfold w32 at f37; have ix0 : n18 = n0 + 1 := (by omega); subst ix0)
  | skip
  try unfold w32 at f31
  try unfold w32 at f32
  try unfold w32 at f37
  try subst k1
  try subst k0
  omega
theorem c_296_23_17 {q0 : Nat} : vOkm T0 (eP e_296 L_296 A_296 mu_296 (some q0)) 3 ([(10, [18, 8], [], 1), (30, [17], [], 0), (1273, [17, 3, 5, 16], [1, 2], 0), (90, [17], [], 0), (91, [17], [], 1), (1, [16, 15, 8], [], 0), (3, [15, 14, 7], [], 0), (0, [14], [], 4), (42, [7, 13], [], 0), (22, [13, 10, 12], [1], 0), (90, [13], [], 0), (91, [13], [], 60), (22, [12, 11, 4], [1], 0), (90, [12], [], 0), (91, [12], [], 5), (20, [11, 3], [1], 19), (0, [11], [], 293), (20, [10, 3], [1], 61), (0, [10], [], 325), (42, [8, 9], [], 0), (0, [9], [], 4), (5000, [0, 1, 2, 3, 4, 5, 6, 7, 8], [0, 1], 23), (0, [0], [], 285), (90, [1], [], 0), (91, [1], [], 7), (90, [2], [], 0), (91, [2], [], 39), (0, [3], [], 285), (90, [4], [], 0), (91, [4], [], 7), (90, [5], [], 0), (91, [5], [], 39), (90, [6], [], 0), (91, [6], [], 59), (90, [7], [], 0), (91, [7], [], 59), (90, [8], [], 0), (91, [8], [], 4)], (90, [18], [], 0)) := vOk_inI fun ρ η f0 f1 f2 f3 f4 f5 f6 f7 f8 f9 f10 f11 f12 f13 f14 f15 f16 f17 f18 f19 f20 f21 f22 f23 f24 f25 f26 f27 f28 f29 f30 f31 f32 f33 f34 f35 f36 f37 => q_296_22 (q0 := q0) (n0 := ρ 8) (n1 := ρ 7) (n2 := ρ 6) (n3 := ρ 5) (n4 := ρ 4) (n5 := ρ 3) (n6 := ρ 2) (n7 := ρ 1) (n8 := ρ 0) (n9 := ρ 9) (n10 := ρ 10) (n11 := ρ 11) (n12 := ρ 12) (n13 := ρ 13) (n14 := ρ 14) (n15 := ρ 15) (n16 := ρ 16) (n17 := ρ 17) (n18 := ρ 18) (H0 := η 0) (H1 := η 1) (H2 := η 2) f37 f36 f35 f34 f33 f32 f31 f30 f29 f28 f27 f26 f25 f24 f23 f22 f21 f20 f19 f18 f17 f16 f15 f14 f13 f12 f11 f10 f9 f8 f7 f6 f5 f4 f3 f2 f1 f0
theorem q_296_23 {q0 : Nat} {n0 n1 n2 n3 n4 n5 n6 n7 n8 n9 n10 n11 n12 n13 n14 n15 n16 n17 n18 : Int} {H0 H1 H2 : gH} (f0 : n0 ≤ 4) (f1 : 0 ≤ n0) (f2 : n1 ≤ 59) (f3 : 0 ≤ n1) (f4 : n2 ≤ 59) (f5 : 0 ≤ n2) (f6 : n3 ≤ 39) (f7 : 0 ≤ n3) (f8 : n4 ≤ 7) (f9 : 0 ≤ n4) (f10 : n5 = 285) (f11 : n6 ≤ 39) (f12 : 0 ≤ n6) (f13 : n7 ≤ 7) (f14 : 0 ≤ n7) (f15 : n8 = 285) (f16 : (hLe T0 H0 H1 ∧ hFr s_296.2.2.2.2 H0 H1 ∧ hWt T0 H1) ∧ (Ab_296_23 n8 n7 n6 n5 n4 n3 n2 n1 n0 H0 H1 ∧ preb_296 n8 n7 n6 H0) ∧ some q0 = some (mub_296_23 n8 n7 n6 n5 n4 n3 n2 n1 n0 H0 H1)) (f17 : n9 = 4) (f18 : n0 < n9) (f19 : n10 = 325) (f20 : n10 = hV H1 (n5).toNat 61) (f21 : n11 = 293) (f22 : n11 = hV H1 (n5).toNat 19) (f23 : n12 ≤ 5) (f24 : 0 ≤ n12) (f25 : n12 = hV H1 (n11).toNat (n4).toNat) (f26 : n13 ≤ 60) (f27 : 0 ≤ n13) (f28 : n13 = hV H1 (n10).toNat (n12).toNat) (f29 : n1 < n13) (f30 : n14 = 4) (f31 : n15 = w32 (n14 * n1)) (f32 : n16 = w32 (n15 + n0)) (f33 : n17 ≤ 1) (f34 : 0 ≤ n17) (f35 : (hLe T0 H1 H2 ∧ hFr s_273.2.2.2.2 H1 H2 ∧ ((0 : Int) = 0 → H2.length = H1.length) ∧ hWt T0 H2) ∧ postb_273 n17 n5 n3 n16 H1 H2) (f36 : n17 = 0) (f37 : n18 = w32 (n0 + 1)) : n18 ≤ 4 := by
  have g4 := f16.2.1.1
  unfold Ab_296_23 at g4
  have g3 := f16.2.1.2
  unfold preb_296 at g3
  unfold postb_273 at f35
  have e1 : n12 = hV H0 293 (n4).toNat := (by rw [f21] at f25; exact f25 : n12 = hV H1 293 (n4).toNat).trans ((congrFun (fRow f16.1.2.1 293 kR_296_293) _))
  have e3 : n13 = hV H0 325 (n12).toNat := (by rw [f19] at f28; exact f28 : n13 = hV H1 325 (n12).toNat).trans ((congrFun (fRow f16.1.2.1 325 kR_296_325) _))
  have e9 : hV H2 285 64 = hV H0 285 64 := ((f35.1.2.1.1 285 64 kF_273_285_64)).trans (f16.1.2.1.1 285 64 kF_296_285_64)
  have e12 : hV H2 300 = hV H0 300 := (fRow f35.1.2.1 300 kR_273_300).trans (fRow f16.1.2.1 300 kR_296_300)
  have e15 : hV H2 344 = hV H0 344 := (fRow f35.1.2.1 344 kR_273_344).trans (fRow f16.1.2.1 344 kR_296_344)
  have e16 : (0 : Int) ≤ hV H0 285 64 ∧ hV H0 285 64 ≤ 20 := bTo ((f16.1.2.1.1 285 64 kF_296_285_64)) (f16.1.2.2 285 64 _ _ kW_285_64)
  have e17 : (0 : Int) ≤ hV H0 285 82 ∧ hV H0 285 82 ≤ 40 := bTo ((f16.1.2.1.1 285 82 kF_296_285_82)) (f16.1.2.2 285 82 _ _ kW_285_82)
  try simp only [e9, e12, e15] at f35
  have k0 := g4.1
  have k1 := g4.2.1
  have y0 := g4.2.2
  have p0 := g3.1
  have p1 := g3.2.1
  have p2 := g3.2.2.1
  have p3 := g3.2.2.2
  have r0_0 := f35.2
  clear g3
  clear g4
  clear f20 f22 f25 f28 e9 e12 e15
  subst e1
  subst e3
  rw [f30] at f31
  first
  | (have ix0 : n18 = n0 + 1 := Eq.trans f37 (w32_iv (Iad (Iat f1 f0) (IC 1)) (by decide)); subst ix0; clear f37)
  | (have ix0 : n18 = n0 + 1 := Eq.trans f37 (w32_id (by omega) (by omega)); subst ix0; clear f37)
  | (unfold w32 at f37; have ix0 : n18 = n0 + 1 := (by omega); subst ix0)
  | skip
  try unfold w32 at f31
  try unfold w32 at f32
  try unfold w32 at f37
  try subst k1
  try subst k0
  omega
theorem c_296_23_18 {q0 : Nat} : vOkm T0 (eP e_296 L_296 A_296 mu_296 (some q0)) 3 ([(10, [18, 8], [], 1), (30, [17], [], 0), (1273, [17, 3, 5, 16], [1, 2], 0), (90, [17], [], 0), (91, [17], [], 1), (1, [16, 15, 8], [], 0), (3, [15, 14, 7], [], 0), (0, [14], [], 4), (42, [7, 13], [], 0), (22, [13, 10, 12], [1], 0), (90, [13], [], 0), (91, [13], [], 60), (22, [12, 11, 4], [1], 0), (90, [12], [], 0), (91, [12], [], 5), (20, [11, 3], [1], 19), (0, [11], [], 293), (20, [10, 3], [1], 61), (0, [10], [], 325), (42, [8, 9], [], 0), (0, [9], [], 4), (5000, [0, 1, 2, 3, 4, 5, 6, 7, 8], [0, 1], 23), (0, [0], [], 285), (90, [1], [], 0), (91, [1], [], 7), (90, [2], [], 0), (91, [2], [], 39), (0, [3], [], 285), (90, [4], [], 0), (91, [4], [], 7), (90, [5], [], 0), (91, [5], [], 39), (90, [6], [], 0), (91, [6], [], 59), (90, [7], [], 0), (91, [7], [], 59), (90, [8], [], 0), (91, [8], [], 4)], (91, [18], [], 4)) := vOk_inI fun ρ η f0 f1 f2 f3 f4 f5 f6 f7 f8 f9 f10 f11 f12 f13 f14 f15 f16 f17 f18 f19 f20 f21 f22 f23 f24 f25 f26 f27 f28 f29 f30 f31 f32 f33 f34 f35 f36 f37 => q_296_23 (q0 := q0) (n0 := ρ 8) (n1 := ρ 7) (n2 := ρ 6) (n3 := ρ 5) (n4 := ρ 4) (n5 := ρ 3) (n6 := ρ 2) (n7 := ρ 1) (n8 := ρ 0) (n9 := ρ 9) (n10 := ρ 10) (n11 := ρ 11) (n12 := ρ 12) (n13 := ρ 13) (n14 := ρ 14) (n15 := ρ 15) (n16 := ρ 16) (n17 := ρ 17) (n18 := ρ 18) (H0 := η 0) (H1 := η 1) (H2 := η 2) f37 f36 f35 f34 f33 f32 f31 f30 f29 f28 f27 f26 f25 f24 f23 f22 f21 f20 f19 f18 f17 f16 f15 f14 f13 f12 f11 f10 f9 f8 f7 f6 f5 f4 f3 f2 f1 f0
theorem q_296_24 {q0 : Nat} {n0 n1 n2 n3 n4 n5 n6 n7 n8 n9 n10 n11 n12 n13 n14 n15 n16 n17 n18 : Int} {H0 H1 H2 : gH} (f0 : n0 ≤ 4) (f1 : 0 ≤ n0) (f2 : n1 ≤ 59) (f3 : 0 ≤ n1) (f4 : n2 ≤ 59) (f5 : 0 ≤ n2) (f6 : n3 ≤ 39) (f7 : 0 ≤ n3) (f8 : n4 ≤ 7) (f9 : 0 ≤ n4) (f10 : n5 = 285) (f11 : n6 ≤ 39) (f12 : 0 ≤ n6) (f13 : n7 ≤ 7) (f14 : 0 ≤ n7) (f15 : n8 = 285) (f16 : (hLe T0 H0 H1 ∧ hFr s_296.2.2.2.2 H0 H1 ∧ hWt T0 H1) ∧ (Ab_296_23 n8 n7 n6 n5 n4 n3 n2 n1 n0 H0 H1 ∧ preb_296 n8 n7 n6 H0) ∧ some q0 = some (mub_296_23 n8 n7 n6 n5 n4 n3 n2 n1 n0 H0 H1)) (f17 : n9 = 4) (f18 : n0 < n9) (f19 : n10 = 325) (f20 : n10 = hV H1 (n5).toNat 61) (f21 : n11 = 293) (f22 : n11 = hV H1 (n5).toNat 19) (f23 : n12 ≤ 5) (f24 : 0 ≤ n12) (f25 : n12 = hV H1 (n11).toNat (n4).toNat) (f26 : n13 ≤ 60) (f27 : 0 ≤ n13) (f28 : n13 = hV H1 (n10).toNat (n12).toNat) (f29 : n1 < n13) (f30 : n14 = 4) (f31 : n15 = w32 (n14 * n1)) (f32 : n16 = w32 (n15 + n0)) (f33 : n17 ≤ 1) (f34 : 0 ≤ n17) (f35 : (hLe T0 H1 H2 ∧ hFr s_273.2.2.2.2 H1 H2 ∧ ((0 : Int) = 0 → H2.length = H1.length) ∧ hWt T0 H2) ∧ postb_273 n17 n5 n3 n16 H1 H2) (f36 : n17 = 0) (f37 : n18 = w32 (n0 + 1)) : Ab_296_23 n8 n7 n6 n5 n4 n3 n2 n1 n18 H0 H2 ∧ ∀ q, some q0 = some q → mub_296_23 n8 n7 n6 n5 n4 n3 n2 n1 n18 H0 H2 < q := by
  have g4 := f16.2.1.1
  unfold Ab_296_23 at g4
  have g3 := f16.2.1.2
  unfold preb_296 at g3
  have g5 := Option.some.inj f16.2.2
  unfold mub_296_23 at g5
  unfold postb_273 at f35
  unfold Ab_296_23
  unfold mub_296_23
  have e1 : n12 = hV H0 293 (n4).toNat := (by rw [f21] at f25; exact f25 : n12 = hV H1 293 (n4).toNat).trans ((congrFun (fRow f16.1.2.1 293 kR_296_293) _))
  have e3 : n13 = hV H0 325 (n12).toNat := (by rw [f19] at f28; exact f28 : n13 = hV H1 325 (n12).toNat).trans ((congrFun (fRow f16.1.2.1 325 kR_296_325) _))
  have e9 : hV H2 285 64 = hV H0 285 64 := ((f35.1.2.1.1 285 64 kF_273_285_64)).trans (f16.1.2.1.1 285 64 kF_296_285_64)
  have e12 : hV H2 300 = hV H0 300 := (fRow f35.1.2.1 300 kR_273_300).trans (fRow f16.1.2.1 300 kR_296_300)
  have e15 : hV H2 344 = hV H0 344 := (fRow f35.1.2.1 344 kR_273_344).trans (fRow f16.1.2.1 344 kR_296_344)
  have e16 : (0 : Int) ≤ hV H0 285 64 ∧ hV H0 285 64 ≤ 20 := bTo ((f16.1.2.1.1 285 64 kF_296_285_64)) (f16.1.2.2 285 64 _ _ kW_285_64)
  have e17 : (0 : Int) ≤ hV H0 285 82 ∧ hV H0 285 82 ≤ 40 := bTo ((f16.1.2.1.1 285 82 kF_296_285_82)) (f16.1.2.2 285 82 _ _ kW_285_82)
  try simp only [e9, e12, e15] at f35
  have k0 := g4.1
  have k1 := g4.2.1
  have y0 := g4.2.2
  have p0 := g3.1
  have p1 := g3.2.1
  have p2 := g3.2.2.1
  have p3 := g3.2.2.2
  have r0_0 := f35.2
  clear g3
  clear g4
  clear f20 f22 f25 f28 e9 e12 e15
  subst e1
  subst e3
  rw [f30] at f31
  first
  | (have ix0 : n18 = n0 + 1 := Eq.trans f37 (w32_iv (Iad (Iat f1 f0) (IC 1)) (by decide)); subst ix0; clear f37)
  | (have ix0 : n18 = n0 + 1 := Eq.trans f37 (w32_id (by omega) (by omega)); subst ix0; clear f37)
  | (unfold w32 at f37; have ix0 : n18 = n0 + 1 := (by omega); subst ix0)
  | skip
  try unfold w32 at f31
  try unfold w32 at f32
  try unfold w32 at f37
  try subst k1
  try subst k0
  refine ⟨?_, fun q hq => ?_⟩
  · refine ⟨?_, ?_, ?_⟩ <;> first | assumption | omega | trivial
  · have g6 := Option.some.inj hq
    subst g6
    omega
theorem c_296_23_19 {q0 : Nat} : vOkm T0 (eP e_296 L_296 A_296 mu_296 (some q0)) 3 ([(10, [18, 8], [], 1), (30, [17], [], 0), (1273, [17, 3, 5, 16], [1, 2], 0), (90, [17], [], 0), (91, [17], [], 1), (1, [16, 15, 8], [], 0), (3, [15, 14, 7], [], 0), (0, [14], [], 4), (42, [7, 13], [], 0), (22, [13, 10, 12], [1], 0), (90, [13], [], 0), (91, [13], [], 60), (22, [12, 11, 4], [1], 0), (90, [12], [], 0), (91, [12], [], 5), (20, [11, 3], [1], 19), (0, [11], [], 293), (20, [10, 3], [1], 61), (0, [10], [], 325), (42, [8, 9], [], 0), (0, [9], [], 4), (5000, [0, 1, 2, 3, 4, 5, 6, 7, 8], [0, 1], 23), (0, [0], [], 285), (90, [1], [], 0), (91, [1], [], 7), (90, [2], [], 0), (91, [2], [], 39), (0, [3], [], 285), (90, [4], [], 0), (91, [4], [], 7), (90, [5], [], 0), (91, [5], [], 39), (90, [6], [], 0), (91, [6], [], 59), (90, [7], [], 0), (91, [7], [], 59), (90, [8], [], 0), (91, [8], [], 4)], (4000, [3, 4, 5, 6, 7, 18], [2], 23)) := vOk_inI fun ρ η f0 f1 f2 f3 f4 f5 f6 f7 f8 f9 f10 f11 f12 f13 f14 f15 f16 f17 f18 f19 f20 f21 f22 f23 f24 f25 f26 f27 f28 f29 f30 f31 f32 f33 f34 f35 f36 f37 => q_296_24 (q0 := q0) (n0 := ρ 8) (n1 := ρ 7) (n2 := ρ 6) (n3 := ρ 5) (n4 := ρ 4) (n5 := ρ 3) (n6 := ρ 2) (n7 := ρ 1) (n8 := ρ 0) (n9 := ρ 9) (n10 := ρ 10) (n11 := ρ 11) (n12 := ρ 12) (n13 := ρ 13) (n14 := ρ 14) (n15 := ρ 15) (n16 := ρ 16) (n17 := ρ 17) (n18 := ρ 18) (H0 := η 0) (H1 := η 1) (H2 := η 2) f37 f36 f35 f34 f33 f32 f31 f30 f29 f28 f27 f26 f25 f24 f23 f22 f21 f20 f19 f18 f17 f16 f15 f14 f13 f12 f11 f10 f9 f8 f7 f6 f5 f4 f3 f2 f1 f0
theorem q_296_25 {q0 : Nat} {n0 n1 n2 n3 n4 n5 n6 n7 n8 n9 n10 n11 n12 n13 n14 n15 n16 n17 n18 : Int} {H0 H1 H2 : gH} (f0 : n0 ≤ 4) (f1 : 0 ≤ n0) (f2 : n1 ≤ 59) (f3 : 0 ≤ n1) (f4 : n2 ≤ 59) (f5 : 0 ≤ n2) (f6 : n3 ≤ 39) (f7 : 0 ≤ n3) (f8 : n4 ≤ 7) (f9 : 0 ≤ n4) (f10 : n5 = 285) (f11 : n6 ≤ 39) (f12 : 0 ≤ n6) (f13 : n7 ≤ 7) (f14 : 0 ≤ n7) (f15 : n8 = 285) (f16 : (hLe T0 H0 H1 ∧ hFr s_296.2.2.2.2 H0 H1 ∧ hWt T0 H1) ∧ (Ab_296_23 n8 n7 n6 n5 n4 n3 n2 n1 n0 H0 H1 ∧ preb_296 n8 n7 n6 H0) ∧ some q0 = some (mub_296_23 n8 n7 n6 n5 n4 n3 n2 n1 n0 H0 H1)) (f17 : n9 = 4) (f18 : n0 < n9) (f19 : n10 = 325) (f20 : n10 = hV H1 (n5).toNat 61) (f21 : n11 = 293) (f22 : n11 = hV H1 (n5).toNat 19) (f23 : n12 ≤ 5) (f24 : 0 ≤ n12) (f25 : n12 = hV H1 (n11).toNat (n4).toNat) (f26 : n13 ≤ 60) (f27 : 0 ≤ n13) (f28 : n13 = hV H1 (n10).toNat (n12).toNat) (f29 : n1 < n13) (f30 : n14 = 4) (f31 : n15 = w32 (n14 * n1)) (f32 : n16 = w32 (n15 + n0)) (f33 : n17 ≤ 1) (f34 : 0 ≤ n17) (f35 : (hLe T0 H1 H2 ∧ hFr s_273.2.2.2.2 H1 H2 ∧ ((0 : Int) = 0 → H2.length = H1.length) ∧ hWt T0 H2) ∧ postb_273 n17 n5 n3 n16 H1 H2) (f36 : n17 ≠ 0) (f37 : n18 = w32 (n0 + 1)) : 0 ≤ n18 := by
  have g4 := f16.2.1.1
  unfold Ab_296_23 at g4
  have g3 := f16.2.1.2
  unfold preb_296 at g3
  unfold postb_273 at f35
  have e1 : n12 = hV H0 293 (n4).toNat := (by rw [f21] at f25; exact f25 : n12 = hV H1 293 (n4).toNat).trans ((congrFun (fRow f16.1.2.1 293 kR_296_293) _))
  have e3 : n13 = hV H0 325 (n12).toNat := (by rw [f19] at f28; exact f28 : n13 = hV H1 325 (n12).toNat).trans ((congrFun (fRow f16.1.2.1 325 kR_296_325) _))
  have e9 : hV H2 285 64 = hV H0 285 64 := ((f35.1.2.1.1 285 64 kF_273_285_64)).trans (f16.1.2.1.1 285 64 kF_296_285_64)
  have e12 : hV H2 300 = hV H0 300 := (fRow f35.1.2.1 300 kR_273_300).trans (fRow f16.1.2.1 300 kR_296_300)
  have e15 : hV H2 344 = hV H0 344 := (fRow f35.1.2.1 344 kR_273_344).trans (fRow f16.1.2.1 344 kR_296_344)
  have e16 : (0 : Int) ≤ hV H0 285 64 ∧ hV H0 285 64 ≤ 20 := bTo ((f16.1.2.1.1 285 64 kF_296_285_64)) (f16.1.2.2 285 64 _ _ kW_285_64)
  have e17 : (0 : Int) ≤ hV H0 285 82 ∧ hV H0 285 82 ≤ 40 := bTo ((f16.1.2.1.1 285 82 kF_296_285_82)) (f16.1.2.2 285 82 _ _ kW_285_82)
  try simp only [e9, e12, e15] at f35
  have k0 := g4.1
  have k1 := g4.2.1
  have y0 := g4.2.2
  have p0 := g3.1
  have p1 := g3.2.1
  have p2 := g3.2.2.1
  have p3 := g3.2.2.2
  have r0_0 := f35.2
  clear g3
  clear g4
  clear f20 f22 f25 f28 e9 e12 e15
  subst e1
  subst e3
  rw [f30] at f31
  first
  | (have ix0 : n18 = n0 + 1 := Eq.trans f37 (w32_iv (Iad (Iat f1 f0) (IC 1)) (by decide)); subst ix0; clear f37)
  | (have ix0 : n18 = n0 + 1 := Eq.trans f37 (w32_id (by omega) (by omega)); subst ix0; clear f37)
  | (unfold w32 at f37; have ix0 : n18 = n0 + 1 := (by omega); subst ix0)
  | skip
  try unfold w32 at f31
  try unfold w32 at f32
  try unfold w32 at f37
  try subst k1
  try subst k0
  omega
theorem c_296_23_20 {q0 : Nat} : vOkm T0 (eP e_296 L_296 A_296 mu_296 (some q0)) 3 ([(10, [21, 8], [], 1), (31, [17], [], 0), (1273, [17, 3, 5, 16], [1, 2], 0), (90, [17], [], 0), (91, [17], [], 1), (1, [16, 15, 8], [], 0), (3, [15, 14, 7], [], 0), (0, [14], [], 4), (42, [7, 13], [], 0), (22, [13, 10, 12], [1], 0), (90, [13], [], 0), (91, [13], [], 60), (22, [12, 11, 4], [1], 0), (90, [12], [], 0), (91, [12], [], 5), (20, [11, 3], [1], 19), (0, [11], [], 293), (20, [10, 3], [1], 61), (0, [10], [], 325), (42, [8, 9], [], 0), (0, [9], [], 4), (5000, [0, 1, 2, 3, 4, 5, 6, 7, 8], [0, 1], 23), (0, [0], [], 285), (90, [1], [], 0), (91, [1], [], 7), (90, [2], [], 0), (91, [2], [], 39), (0, [3], [], 285), (90, [4], [], 0), (91, [4], [], 7), (90, [5], [], 0), (91, [5], [], 39), (90, [6], [], 0), (91, [6], [], 59), (90, [7], [], 0), (91, [7], [], 59), (90, [8], [], 0), (91, [8], [], 4)], (90, [21], [], 0)) := vOk_inI fun ρ η f0 f1 f2 f3 f4 f5 f6 f7 f8 f9 f10 f11 f12 f13 f14 f15 f16 f17 f18 f19 f20 f21 f22 f23 f24 f25 f26 f27 f28 f29 f30 f31 f32 f33 f34 f35 f36 f37 => q_296_25 (q0 := q0) (n0 := ρ 8) (n1 := ρ 7) (n2 := ρ 6) (n3 := ρ 5) (n4 := ρ 4) (n5 := ρ 3) (n6 := ρ 2) (n7 := ρ 1) (n8 := ρ 0) (n9 := ρ 9) (n10 := ρ 10) (n11 := ρ 11) (n12 := ρ 12) (n13 := ρ 13) (n14 := ρ 14) (n15 := ρ 15) (n16 := ρ 16) (n17 := ρ 17) (n18 := ρ 21) (H0 := η 0) (H1 := η 1) (H2 := η 2) f37 f36 f35 f34 f33 f32 f31 f30 f29 f28 f27 f26 f25 f24 f23 f22 f21 f20 f19 f18 f17 f16 f15 f14 f13 f12 f11 f10 f9 f8 f7 f6 f5 f4 f3 f2 f1 f0
theorem q_296_26 {q0 : Nat} {n0 n1 n2 n3 n4 n5 n6 n7 n8 n9 n10 n11 n12 n13 n14 n15 n16 n17 n18 : Int} {H0 H1 H2 : gH} (f0 : n0 ≤ 4) (f1 : 0 ≤ n0) (f2 : n1 ≤ 59) (f3 : 0 ≤ n1) (f4 : n2 ≤ 59) (f5 : 0 ≤ n2) (f6 : n3 ≤ 39) (f7 : 0 ≤ n3) (f8 : n4 ≤ 7) (f9 : 0 ≤ n4) (f10 : n5 = 285) (f11 : n6 ≤ 39) (f12 : 0 ≤ n6) (f13 : n7 ≤ 7) (f14 : 0 ≤ n7) (f15 : n8 = 285) (f16 : (hLe T0 H0 H1 ∧ hFr s_296.2.2.2.2 H0 H1 ∧ hWt T0 H1) ∧ (Ab_296_23 n8 n7 n6 n5 n4 n3 n2 n1 n0 H0 H1 ∧ preb_296 n8 n7 n6 H0) ∧ some q0 = some (mub_296_23 n8 n7 n6 n5 n4 n3 n2 n1 n0 H0 H1)) (f17 : n9 = 4) (f18 : n0 < n9) (f19 : n10 = 325) (f20 : n10 = hV H1 (n5).toNat 61) (f21 : n11 = 293) (f22 : n11 = hV H1 (n5).toNat 19) (f23 : n12 ≤ 5) (f24 : 0 ≤ n12) (f25 : n12 = hV H1 (n11).toNat (n4).toNat) (f26 : n13 ≤ 60) (f27 : 0 ≤ n13) (f28 : n13 = hV H1 (n10).toNat (n12).toNat) (f29 : n1 < n13) (f30 : n14 = 4) (f31 : n15 = w32 (n14 * n1)) (f32 : n16 = w32 (n15 + n0)) (f33 : n17 ≤ 1) (f34 : 0 ≤ n17) (f35 : (hLe T0 H1 H2 ∧ hFr s_273.2.2.2.2 H1 H2 ∧ ((0 : Int) = 0 → H2.length = H1.length) ∧ hWt T0 H2) ∧ postb_273 n17 n5 n3 n16 H1 H2) (f36 : n17 ≠ 0) (f37 : n18 = w32 (n0 + 1)) : n18 ≤ 4 := by
  have g4 := f16.2.1.1
  unfold Ab_296_23 at g4
  have g3 := f16.2.1.2
  unfold preb_296 at g3
  unfold postb_273 at f35
  have e1 : n12 = hV H0 293 (n4).toNat := (by rw [f21] at f25; exact f25 : n12 = hV H1 293 (n4).toNat).trans ((congrFun (fRow f16.1.2.1 293 kR_296_293) _))
  have e3 : n13 = hV H0 325 (n12).toNat := (by rw [f19] at f28; exact f28 : n13 = hV H1 325 (n12).toNat).trans ((congrFun (fRow f16.1.2.1 325 kR_296_325) _))
  have e9 : hV H2 285 64 = hV H0 285 64 := ((f35.1.2.1.1 285 64 kF_273_285_64)).trans (f16.1.2.1.1 285 64 kF_296_285_64)
  have e12 : hV H2 300 = hV H0 300 := (fRow f35.1.2.1 300 kR_273_300).trans (fRow f16.1.2.1 300 kR_296_300)
  have e15 : hV H2 344 = hV H0 344 := (fRow f35.1.2.1 344 kR_273_344).trans (fRow f16.1.2.1 344 kR_296_344)
  have e16 : (0 : Int) ≤ hV H0 285 64 ∧ hV H0 285 64 ≤ 20 := bTo ((f16.1.2.1.1 285 64 kF_296_285_64)) (f16.1.2.2 285 64 _ _ kW_285_64)
  have e17 : (0 : Int) ≤ hV H0 285 82 ∧ hV H0 285 82 ≤ 40 := bTo ((f16.1.2.1.1 285 82 kF_296_285_82)) (f16.1.2.2 285 82 _ _ kW_285_82)
  try simp only [e9, e12, e15] at f35
  have k0 := g4.1
  have k1 := g4.2.1
  have y0 := g4.2.2
  have p0 := g3.1
  have p1 := g3.2.1
  have p2 := g3.2.2.1
  have p3 := g3.2.2.2
  have r0_0 := f35.2
  clear g3
  clear g4
  clear f20 f22 f25 f28 e9 e12 e15
  subst e1
  subst e3
  rw [f30] at f31
  first
  | (have ix0 : n18 = n0 + 1 := Eq.trans f37 (w32_iv (Iad (Iat f1 f0) (IC 1)) (by decide)); subst ix0; clear f37)
  | (have ix0 : n18 = n0 + 1 := Eq.trans f37 (w32_id (by omega) (by omega)); subst ix0; clear f37)
  | (unfold w32 at f37; have ix0 : n18 = n0 + 1 := (by omega); subst ix0)
  | skip
  try unfold w32 at f31
  try unfold w32 at f32
  try unfold w32 at f37
  try subst k1
  try subst k0
  omega
theorem c_296_23_21 {q0 : Nat} : vOkm T0 (eP e_296 L_296 A_296 mu_296 (some q0)) 3 ([(10, [21, 8], [], 1), (31, [17], [], 0), (1273, [17, 3, 5, 16], [1, 2], 0), (90, [17], [], 0), (91, [17], [], 1), (1, [16, 15, 8], [], 0), (3, [15, 14, 7], [], 0), (0, [14], [], 4), (42, [7, 13], [], 0), (22, [13, 10, 12], [1], 0), (90, [13], [], 0), (91, [13], [], 60), (22, [12, 11, 4], [1], 0), (90, [12], [], 0), (91, [12], [], 5), (20, [11, 3], [1], 19), (0, [11], [], 293), (20, [10, 3], [1], 61), (0, [10], [], 325), (42, [8, 9], [], 0), (0, [9], [], 4), (5000, [0, 1, 2, 3, 4, 5, 6, 7, 8], [0, 1], 23), (0, [0], [], 285), (90, [1], [], 0), (91, [1], [], 7), (90, [2], [], 0), (91, [2], [], 39), (0, [3], [], 285), (90, [4], [], 0), (91, [4], [], 7), (90, [5], [], 0), (91, [5], [], 39), (90, [6], [], 0), (91, [6], [], 59), (90, [7], [], 0), (91, [7], [], 59), (90, [8], [], 0), (91, [8], [], 4)], (91, [21], [], 4)) := vOk_inI fun ρ η f0 f1 f2 f3 f4 f5 f6 f7 f8 f9 f10 f11 f12 f13 f14 f15 f16 f17 f18 f19 f20 f21 f22 f23 f24 f25 f26 f27 f28 f29 f30 f31 f32 f33 f34 f35 f36 f37 => q_296_26 (q0 := q0) (n0 := ρ 8) (n1 := ρ 7) (n2 := ρ 6) (n3 := ρ 5) (n4 := ρ 4) (n5 := ρ 3) (n6 := ρ 2) (n7 := ρ 1) (n8 := ρ 0) (n9 := ρ 9) (n10 := ρ 10) (n11 := ρ 11) (n12 := ρ 12) (n13 := ρ 13) (n14 := ρ 14) (n15 := ρ 15) (n16 := ρ 16) (n17 := ρ 17) (n18 := ρ 21) (H0 := η 0) (H1 := η 1) (H2 := η 2) f37 f36 f35 f34 f33 f32 f31 f30 f29 f28 f27 f26 f25 f24 f23 f22 f21 f20 f19 f18 f17 f16 f15 f14 f13 f12 f11 f10 f9 f8 f7 f6 f5 f4 f3 f2 f1 f0
theorem q_296_27 {q0 : Nat} {n0 n1 n2 n3 n4 n5 n6 n7 n8 n9 n10 n11 n12 n13 n14 n15 n16 n17 n18 n19 n20 n21 : Int} {H0 H1 H2 H3 : gH} (f0 : n0 ≤ 4) (f1 : 0 ≤ n0) (f2 : n1 ≤ 59) (f3 : 0 ≤ n1) (f4 : n2 ≤ 59) (f5 : 0 ≤ n2) (f6 : n3 ≤ 39) (f7 : 0 ≤ n3) (f8 : n4 ≤ 7) (f9 : 0 ≤ n4) (f10 : n5 = 285) (f11 : n6 ≤ 39) (f12 : 0 ≤ n6) (f13 : n7 ≤ 7) (f14 : 0 ≤ n7) (f15 : n8 = 285) (f16 : (hLe T0 H0 H1 ∧ hFr s_296.2.2.2.2 H0 H1 ∧ hWt T0 H1) ∧ (Ab_296_23 n8 n7 n6 n5 n4 n3 n2 n1 n0 H0 H1 ∧ preb_296 n8 n7 n6 H0) ∧ some q0 = some (mub_296_23 n8 n7 n6 n5 n4 n3 n2 n1 n0 H0 H1)) (f17 : n9 = 4) (f18 : n0 < n9) (f19 : n10 = 325) (f20 : n10 = hV H1 (n5).toNat 61) (f21 : n11 = 293) (f22 : n11 = hV H1 (n5).toNat 19) (f23 : n12 ≤ 5) (f24 : 0 ≤ n12) (f25 : n12 = hV H1 (n11).toNat (n4).toNat) (f26 : n13 ≤ 60) (f27 : 0 ≤ n13) (f28 : n13 = hV H1 (n10).toNat (n12).toNat) (f29 : n1 < n13) (f30 : n14 = 4) (f31 : n15 = w32 (n14 * n1)) (f32 : n16 = w32 (n15 + n0)) (f33 : n17 ≤ 1) (f34 : 0 ≤ n17) (f35 : (hLe T0 H1 H2 ∧ hFr s_273.2.2.2.2 H1 H2 ∧ ((0 : Int) = 0 → H2.length = H1.length) ∧ hWt T0 H2) ∧ postb_273 n17 n5 n3 n16 H1 H2) (f36 : n17 ≠ 0) (f37 : n18 = 356) (f38 : n18 = hV H2 (n5).toNat 98) (f39 : n19 = 1) (f40 : n20 = o32 (fun x _ => x &&& 1) n19 0) (f41 : hUpd H3 H2 n18 n1 n20) (f42 : n21 = w32 (n0 + 1)) : Ab_296_23 n8 n7 n6 n5 n4 n3 n2 n1 n21 H0 H3 ∧ ∀ q, some q0 = some q → mub_296_23 n8 n7 n6 n5 n4 n3 n2 n1 n21 H0 H3 < q := by
  have g4 := f16.2.1.1
  unfold Ab_296_23 at g4
  have g3 := f16.2.1.2
  unfold preb_296 at g3
  have g5 := Option.some.inj f16.2.2
  unfold mub_296_23 at g5
  unfold postb_273 at f35
  unfold Ab_296_23
  unfold mub_296_23
  have e1 : n12 = hV H0 293 (n4).toNat := (by rw [f21] at f25; exact f25 : n12 = hV H1 293 (n4).toNat).trans ((congrFun (fRow f16.1.2.1 293 kR_296_293) _))
  have e3 : n13 = hV H0 325 (n12).toNat := (by rw [f19] at f28; exact f28 : n13 = hV H1 325 (n12).toNat).trans ((congrFun (fRow f16.1.2.1 325 kR_296_325) _))
  have e9 : hV H2 285 64 = hV H0 285 64 := ((f35.1.2.1.1 285 64 kF_273_285_64)).trans (f16.1.2.1.1 285 64 kF_296_285_64)
  have e12 : hV H2 300 = hV H0 300 := (fRow f35.1.2.1 300 kR_273_300).trans (fRow f16.1.2.1 300 kR_296_300)
  have e15 : hV H2 344 = hV H0 344 := (fRow f35.1.2.1 344 kR_273_344).trans (fRow f16.1.2.1 344 kR_296_344)
  have e16 : (0 : Int) ≤ hV H0 285 64 ∧ hV H0 285 64 ≤ 20 := bTo ((f16.1.2.1.1 285 64 kF_296_285_64)) (f16.1.2.2 285 64 _ _ kW_285_64)
  have e17 : (0 : Int) ≤ hV H0 285 82 ∧ hV H0 285 82 ≤ 40 := bTo ((f16.1.2.1.1 285 82 kF_296_285_82)) (f16.1.2.2 285 82 _ _ kW_285_82)
  try simp only [e9, e12, e15] at f35
  have k0 := g4.1
  have k1 := g4.2.1
  have y0 := g4.2.2
  have p0 := g3.1
  have p1 := g3.2.1
  have p2 := g3.2.2.1
  have p3 := g3.2.2.2
  have r0_0 := f35.2
  clear g3
  clear g4
  clear f20 f22 f25 f28 f38 e9 e12 e15
  subst e1
  subst e3
  rw [f30] at f31
  first
  | (have ix0 : n21 = n0 + 1 := Eq.trans f42 (w32_iv (Iad (Iat f1 f0) (IC 1)) (by decide)); subst ix0; clear f42)
  | (have ix0 : n21 = n0 + 1 := Eq.trans f42 (w32_id (by omega) (by omega)); subst ix0; clear f42)
  | (unfold w32 at f42; have ix0 : n21 = n0 + 1 := (by omega); subst ix0)
  | skip
  try unfold w32 at f31
  try unfold w32 at f32
  try unfold w32 at f42
  try subst k1
  try subst k0
  refine ⟨?_, fun q hq => ?_⟩
  · refine ⟨?_, ?_, ?_⟩ <;> first | assumption | omega | trivial
  · have g6 := Option.some.inj hq
    subst g6
    omega
theorem c_296_23_22 {q0 : Nat} : vOkm T0 (eP e_296 L_296 A_296 mu_296 (some q0)) 3 ([(10, [21, 8], [], 1), (80, [18, 7, 20], [3, 2], 0), (16, [20, 19], [], 0), (0, [19], [], 1), (20, [18, 3], [2], 98), (0, [18], [], 356), (31, [17], [], 0), (1273, [17, 3, 5, 16], [1, 2], 0), (90, [17], [], 0), (91, [17], [], 1), (1, [16, 15, 8], [], 0), (3, [15, 14, 7], [], 0), (0, [14], [], 4), (42, [7, 13], [], 0), (22, [13, 10, 12], [1], 0), (90, [13], [], 0), (91, [13], [], 60), (22, [12, 11, 4], [1], 0), (90, [12], [], 0), (91, [12], [], 5), (20, [11, 3], [1], 19), (0, [11], [], 293), (20, [10, 3], [1], 61), (0, [10], [], 325), (42, [8, 9], [], 0), (0, [9], [], 4), (5000, [0, 1, 2, 3, 4, 5, 6, 7, 8], [0, 1], 23), (0, [0], [], 285), (90, [1], [], 0), (91, [1], [], 7), (90, [2], [], 0), (91, [2], [], 39), (0, [3], [], 285), (90, [4], [], 0), (91, [4], [], 7), (90, [5], [], 0), (91, [5], [], 39), (90, [6], [], 0), (91, [6], [], 59), (90, [7], [], 0), (91, [7], [], 59), (90, [8], [], 0), (91, [8], [], 4)], (4000, [3, 4, 5, 6, 7, 21], [3], 23)) := vOk_inI fun ρ η f0 f1 f2 f3 f4 f5 f6 f7 f8 f9 f10 f11 f12 f13 f14 f15 f16 f17 f18 f19 f20 f21 f22 f23 f24 f25 f26 f27 f28 f29 f30 f31 f32 f33 f34 f35 f36 f37 f38 f39 f40 f41 f42 => q_296_27 (q0 := q0) (n0 := ρ 8) (n1 := ρ 7) (n2 := ρ 6) (n3 := ρ 5) (n4 := ρ 4) (n5 := ρ 3) (n6 := ρ 2) (n7 := ρ 1) (n8 := ρ 0) (n9 := ρ 9) (n10 := ρ 10) (n11 := ρ 11) (n12 := ρ 12) (n13 := ρ 13) (n14 := ρ 14) (n15 := ρ 15) (n16 := ρ 16) (n17 := ρ 17) (n18 := ρ 18) (n19 := ρ 19) (n20 := ρ 20) (n21 := ρ 21) (H0 := η 0) (H1 := η 1) (H2 := η 2) (H3 := η 3) f42 f41 f40 f39 f38 f37 f36 f35 f34 f33 f32 f31 f30 f29 f28 f27 f26 f25 f24 f23 f22 f21 f20 f19 f18 f17 f16 f15 f14 f13 f12 f11 f10 f9 f8 f7 f6 f5 f4 f3 f2 f1 f0
def p_296_23 : List vG := [([(10, [12, 7], [], 1), (43, [8, 9], [], 0), (0, [9], [], 4), (5000, [0, 1, 2, 3, 4, 5, 6, 7, 8], [0, 1], 23), (0, [0], [], 285), (90, [1], [], 0), (91, [1], [], 7), (90, [2], [], 0), (91, [2], [], 39), (0, [3], [], 285), (90, [4], [], 0), (91, [4], [], 7), (90, [5], [], 0), (91, [5], [], 39), (90, [6], [], 0), (91, [6], [], 59), (90, [7], [], 0), (91, [7], [], 59), (90, [8], [], 0), (91, [8], [], 4)], (90, [12], [], 0)),
  ([(10, [12, 7], [], 1), (43, [8, 9], [], 0), (0, [9], [], 4), (5000, [0, 1, 2, 3, 4, 5, 6, 7, 8], [0, 1], 23), (0, [0], [], 285), (90, [1], [], 0), (91, [1], [], 7), (90, [2], [], 0), (91, [2], [], 39), (0, [3], [], 285), (90, [4], [], 0), (91, [4], [], 7), (90, [5], [], 0), (91, [5], [], 39), (90, [6], [], 0), (91, [6], [], 59), (90, [7], [], 0), (91, [7], [], 59), (90, [8], [], 0), (91, [8], [], 4)], (91, [12], [], 60)),
  ([(10, [12, 7], [], 1), (43, [8, 9], [], 0), (0, [9], [], 4), (5000, [0, 1, 2, 3, 4, 5, 6, 7, 8], [0, 1], 23), (0, [0], [], 285), (90, [1], [], 0), (91, [1], [], 7), (90, [2], [], 0), (91, [2], [], 39), (0, [3], [], 285), (90, [4], [], 0), (91, [4], [], 7), (90, [5], [], 0), (91, [5], [], 39), (90, [6], [], 0), (91, [6], [], 59), (90, [7], [], 0), (91, [7], [], 59), (90, [8], [], 0), (91, [8], [], 4)], (4000, [3, 4, 5, 6, 12], [1], 5)),
  ([(10, [13, 7], [], 1), (10, [12, 6], [], 1), (43, [8, 9], [], 0), (0, [9], [], 4), (5000, [0, 1, 2, 3, 4, 5, 6, 7, 8], [0, 1], 23), (0, [0], [], 285), (90, [1], [], 0), (91, [1], [], 7), (90, [2], [], 0), (91, [2], [], 39), (0, [3], [], 285), (90, [4], [], 0), (91, [4], [], 7), (90, [5], [], 0), (91, [5], [], 39), (90, [6], [], 0), (91, [6], [], 59), (90, [7], [], 0), (91, [7], [], 59), (90, [8], [], 0), (91, [8], [], 4)], (90, [12], [], 0)),
  ([(10, [13, 7], [], 1), (10, [12, 6], [], 1), (43, [8, 9], [], 0), (0, [9], [], 4), (5000, [0, 1, 2, 3, 4, 5, 6, 7, 8], [0, 1], 23), (0, [0], [], 285), (90, [1], [], 0), (91, [1], [], 7), (90, [2], [], 0), (91, [2], [], 39), (0, [3], [], 285), (90, [4], [], 0), (91, [4], [], 7), (90, [5], [], 0), (91, [5], [], 39), (90, [6], [], 0), (91, [6], [], 59), (90, [7], [], 0), (91, [7], [], 59), (90, [8], [], 0), (91, [8], [], 4)], (91, [12], [], 60)),
  ([(10, [13, 7], [], 1), (10, [12, 6], [], 1), (43, [8, 9], [], 0), (0, [9], [], 4), (5000, [0, 1, 2, 3, 4, 5, 6, 7, 8], [0, 1], 23), (0, [0], [], 285), (90, [1], [], 0), (91, [1], [], 7), (90, [2], [], 0), (91, [2], [], 39), (0, [3], [], 285), (90, [4], [], 0), (91, [4], [], 7), (90, [5], [], 0), (91, [5], [], 39), (90, [6], [], 0), (91, [6], [], 59), (90, [7], [], 0), (91, [7], [], 59), (90, [8], [], 0), (91, [8], [], 4)], (90, [13], [], 0)),
  ([(10, [13, 7], [], 1), (10, [12, 6], [], 1), (43, [8, 9], [], 0), (0, [9], [], 4), (5000, [0, 1, 2, 3, 4, 5, 6, 7, 8], [0, 1], 23), (0, [0], [], 285), (90, [1], [], 0), (91, [1], [], 7), (90, [2], [], 0), (91, [2], [], 39), (0, [3], [], 285), (90, [4], [], 0), (91, [4], [], 7), (90, [5], [], 0), (91, [5], [], 39), (90, [6], [], 0), (91, [6], [], 59), (90, [7], [], 0), (91, [7], [], 59), (90, [8], [], 0), (91, [8], [], 4)], (91, [13], [], 60)),
  ([(10, [13, 7], [], 1), (10, [12, 6], [], 1), (43, [8, 9], [], 0), (0, [9], [], 4), (5000, [0, 1, 2, 3, 4, 5, 6, 7, 8], [0, 1], 23), (0, [0], [], 285), (90, [1], [], 0), (91, [1], [], 7), (90, [2], [], 0), (91, [2], [], 39), (0, [3], [], 285), (90, [4], [], 0), (91, [4], [], 7), (90, [5], [], 0), (91, [5], [], 39), (90, [6], [], 0), (91, [6], [], 59), (90, [7], [], 0), (91, [7], [], 59), (90, [8], [], 0), (91, [8], [], 4)], (4000, [3, 4, 5, 12, 13], [1], 5)),
  ([(10, [16, 7], [], 1), (43, [7, 13], [], 0), (22, [13, 10, 12], [1], 0), (90, [13], [], 0), (91, [13], [], 60), (22, [12, 11, 4], [1], 0), (90, [12], [], 0), (91, [12], [], 5), (20, [11, 3], [1], 19), (0, [11], [], 293), (20, [10, 3], [1], 61), (0, [10], [], 325), (42, [8, 9], [], 0), (0, [9], [], 4), (5000, [0, 1, 2, 3, 4, 5, 6, 7, 8], [0, 1], 23), (0, [0], [], 285), (90, [1], [], 0), (91, [1], [], 7), (90, [2], [], 0), (91, [2], [], 39), (0, [3], [], 285), (90, [4], [], 0), (91, [4], [], 7), (90, [5], [], 0), (91, [5], [], 39), (90, [6], [], 0), (91, [6], [], 59), (90, [7], [], 0), (91, [7], [], 59), (90, [8], [], 0), (91, [8], [], 4)], (90, [16], [], 0)),
  ([(10, [16, 7], [], 1), (43, [7, 13], [], 0), (22, [13, 10, 12], [1], 0), (90, [13], [], 0), (91, [13], [], 60), (22, [12, 11, 4], [1], 0), (90, [12], [], 0), (91, [12], [], 5), (20, [11, 3], [1], 19), (0, [11], [], 293), (20, [10, 3], [1], 61), (0, [10], [], 325), (42, [8, 9], [], 0), (0, [9], [], 4), (5000, [0, 1, 2, 3, 4, 5, 6, 7, 8], [0, 1], 23), (0, [0], [], 285), (90, [1], [], 0), (91, [1], [], 7), (90, [2], [], 0), (91, [2], [], 39), (0, [3], [], 285), (90, [4], [], 0), (91, [4], [], 7), (90, [5], [], 0), (91, [5], [], 39), (90, [6], [], 0), (91, [6], [], 59), (90, [7], [], 0), (91, [7], [], 59), (90, [8], [], 0), (91, [8], [], 4)], (91, [16], [], 60)),
  ([(10, [16, 7], [], 1), (43, [7, 13], [], 0), (22, [13, 10, 12], [1], 0), (90, [13], [], 0), (91, [13], [], 60), (22, [12, 11, 4], [1], 0), (90, [12], [], 0), (91, [12], [], 5), (20, [11, 3], [1], 19), (0, [11], [], 293), (20, [10, 3], [1], 61), (0, [10], [], 325), (42, [8, 9], [], 0), (0, [9], [], 4), (5000, [0, 1, 2, 3, 4, 5, 6, 7, 8], [0, 1], 23), (0, [0], [], 285), (90, [1], [], 0), (91, [1], [], 7), (90, [2], [], 0), (91, [2], [], 39), (0, [3], [], 285), (90, [4], [], 0), (91, [4], [], 7), (90, [5], [], 0), (91, [5], [], 39), (90, [6], [], 0), (91, [6], [], 59), (90, [7], [], 0), (91, [7], [], 59), (90, [8], [], 0), (91, [8], [], 4)], (4000, [3, 4, 5, 6, 16], [1], 5)),
  ([(10, [17, 7], [], 1), (10, [16, 6], [], 1), (43, [7, 13], [], 0), (22, [13, 10, 12], [1], 0), (90, [13], [], 0), (91, [13], [], 60), (22, [12, 11, 4], [1], 0), (90, [12], [], 0), (91, [12], [], 5), (20, [11, 3], [1], 19), (0, [11], [], 293), (20, [10, 3], [1], 61), (0, [10], [], 325), (42, [8, 9], [], 0), (0, [9], [], 4), (5000, [0, 1, 2, 3, 4, 5, 6, 7, 8], [0, 1], 23), (0, [0], [], 285), (90, [1], [], 0), (91, [1], [], 7), (90, [2], [], 0), (91, [2], [], 39), (0, [3], [], 285), (90, [4], [], 0), (91, [4], [], 7), (90, [5], [], 0), (91, [5], [], 39), (90, [6], [], 0), (91, [6], [], 59), (90, [7], [], 0), (91, [7], [], 59), (90, [8], [], 0), (91, [8], [], 4)], (90, [16], [], 0)),
  ([(10, [17, 7], [], 1), (10, [16, 6], [], 1), (43, [7, 13], [], 0), (22, [13, 10, 12], [1], 0), (90, [13], [], 0), (91, [13], [], 60), (22, [12, 11, 4], [1], 0), (90, [12], [], 0), (91, [12], [], 5), (20, [11, 3], [1], 19), (0, [11], [], 293), (20, [10, 3], [1], 61), (0, [10], [], 325), (42, [8, 9], [], 0), (0, [9], [], 4), (5000, [0, 1, 2, 3, 4, 5, 6, 7, 8], [0, 1], 23), (0, [0], [], 285), (90, [1], [], 0), (91, [1], [], 7), (90, [2], [], 0), (91, [2], [], 39), (0, [3], [], 285), (90, [4], [], 0), (91, [4], [], 7), (90, [5], [], 0), (91, [5], [], 39), (90, [6], [], 0), (91, [6], [], 59), (90, [7], [], 0), (91, [7], [], 59), (90, [8], [], 0), (91, [8], [], 4)], (91, [16], [], 60)),
  ([(10, [17, 7], [], 1), (10, [16, 6], [], 1), (43, [7, 13], [], 0), (22, [13, 10, 12], [1], 0), (90, [13], [], 0), (91, [13], [], 60), (22, [12, 11, 4], [1], 0), (90, [12], [], 0), (91, [12], [], 5), (20, [11, 3], [1], 19), (0, [11], [], 293), (20, [10, 3], [1], 61), (0, [10], [], 325), (42, [8, 9], [], 0), (0, [9], [], 4), (5000, [0, 1, 2, 3, 4, 5, 6, 7, 8], [0, 1], 23), (0, [0], [], 285), (90, [1], [], 0), (91, [1], [], 7), (90, [2], [], 0), (91, [2], [], 39), (0, [3], [], 285), (90, [4], [], 0), (91, [4], [], 7), (90, [5], [], 0), (91, [5], [], 39), (90, [6], [], 0), (91, [6], [], 59), (90, [7], [], 0), (91, [7], [], 59), (90, [8], [], 0), (91, [8], [], 4)], (90, [17], [], 0)),
  ([(10, [17, 7], [], 1), (10, [16, 6], [], 1), (43, [7, 13], [], 0), (22, [13, 10, 12], [1], 0), (90, [13], [], 0), (91, [13], [], 60), (22, [12, 11, 4], [1], 0), (90, [12], [], 0), (91, [12], [], 5), (20, [11, 3], [1], 19), (0, [11], [], 293), (20, [10, 3], [1], 61), (0, [10], [], 325), (42, [8, 9], [], 0), (0, [9], [], 4), (5000, [0, 1, 2, 3, 4, 5, 6, 7, 8], [0, 1], 23), (0, [0], [], 285), (90, [1], [], 0), (91, [1], [], 7), (90, [2], [], 0), (91, [2], [], 39), (0, [3], [], 285), (90, [4], [], 0), (91, [4], [], 7), (90, [5], [], 0), (91, [5], [], 39), (90, [6], [], 0), (91, [6], [], 59), (90, [7], [], 0), (91, [7], [], 59), (90, [8], [], 0), (91, [8], [], 4)], (91, [17], [], 60)),
  ([(10, [17, 7], [], 1), (10, [16, 6], [], 1), (43, [7, 13], [], 0), (22, [13, 10, 12], [1], 0), (90, [13], [], 0), (91, [13], [], 60), (22, [12, 11, 4], [1], 0), (90, [12], [], 0), (91, [12], [], 5), (20, [11, 3], [1], 19), (0, [11], [], 293), (20, [10, 3], [1], 61), (0, [10], [], 325), (42, [8, 9], [], 0), (0, [9], [], 4), (5000, [0, 1, 2, 3, 4, 5, 6, 7, 8], [0, 1], 23), (0, [0], [], 285), (90, [1], [], 0), (91, [1], [], 7), (90, [2], [], 0), (91, [2], [], 39), (0, [3], [], 285), (90, [4], [], 0), (91, [4], [], 7), (90, [5], [], 0), (91, [5], [], 39), (90, [6], [], 0), (91, [6], [], 59), (90, [7], [], 0), (91, [7], [], 59), (90, [8], [], 0), (91, [8], [], 4)], (4000, [3, 4, 5, 16, 17], [1], 5)),
  ([(1, [16, 15, 8], [], 0), (3, [15, 14, 7], [], 0), (0, [14], [], 4), (42, [7, 13], [], 0), (22, [13, 10, 12], [1], 0), (90, [13], [], 0), (91, [13], [], 60), (22, [12, 11, 4], [1], 0), (90, [12], [], 0), (91, [12], [], 5), (20, [11, 3], [1], 19), (0, [11], [], 293), (20, [10, 3], [1], 61), (0, [10], [], 325), (42, [8, 9], [], 0), (0, [9], [], 4), (5000, [0, 1, 2, 3, 4, 5, 6, 7, 8], [0, 1], 23), (0, [0], [], 285), (90, [1], [], 0), (91, [1], [], 7), (90, [2], [], 0), (91, [2], [], 39), (0, [3], [], 285), (90, [4], [], 0), (91, [4], [], 7), (90, [5], [], 0), (91, [5], [], 39), (90, [6], [], 0), (91, [6], [], 59), (90, [7], [], 0), (91, [7], [], 59), (90, [8], [], 0), (91, [8], [], 4)], (2273, [3, 5, 16], [1], 0)),
  ([(10, [18, 8], [], 1), (30, [17], [], 0), (1273, [17, 3, 5, 16], [1, 2], 0), (90, [17], [], 0), (91, [17], [], 1), (1, [16, 15, 8], [], 0), (3, [15, 14, 7], [], 0), (0, [14], [], 4), (42, [7, 13], [], 0), (22, [13, 10, 12], [1], 0), (90, [13], [], 0), (91, [13], [], 60), (22, [12, 11, 4], [1], 0), (90, [12], [], 0), (91, [12], [], 5), (20, [11, 3], [1], 19), (0, [11], [], 293), (20, [10, 3], [1], 61), (0, [10], [], 325), (42, [8, 9], [], 0), (0, [9], [], 4), (5000, [0, 1, 2, 3, 4, 5, 6, 7, 8], [0, 1], 23), (0, [0], [], 285), (90, [1], [], 0), (91, [1], [], 7), (90, [2], [], 0), (91, [2], [], 39), (0, [3], [], 285), (90, [4], [], 0), (91, [4], [], 7), (90, [5], [], 0), (91, [5], [], 39), (90, [6], [], 0), (91, [6], [], 59), (90, [7], [], 0), (91, [7], [], 59), (90, [8], [], 0), (91, [8], [], 4)], (90, [18], [], 0)),
  ([(10, [18, 8], [], 1), (30, [17], [], 0), (1273, [17, 3, 5, 16], [1, 2], 0), (90, [17], [], 0), (91, [17], [], 1), (1, [16, 15, 8], [], 0), (3, [15, 14, 7], [], 0), (0, [14], [], 4), (42, [7, 13], [], 0), (22, [13, 10, 12], [1], 0), (90, [13], [], 0), (91, [13], [], 60), (22, [12, 11, 4], [1], 0), (90, [12], [], 0), (91, [12], [], 5), (20, [11, 3], [1], 19), (0, [11], [], 293), (20, [10, 3], [1], 61), (0, [10], [], 325), (42, [8, 9], [], 0), (0, [9], [], 4), (5000, [0, 1, 2, 3, 4, 5, 6, 7, 8], [0, 1], 23), (0, [0], [], 285), (90, [1], [], 0), (91, [1], [], 7), (90, [2], [], 0), (91, [2], [], 39), (0, [3], [], 285), (90, [4], [], 0), (91, [4], [], 7), (90, [5], [], 0), (91, [5], [], 39), (90, [6], [], 0), (91, [6], [], 59), (90, [7], [], 0), (91, [7], [], 59), (90, [8], [], 0), (91, [8], [], 4)], (91, [18], [], 4)),
  ([(10, [18, 8], [], 1), (30, [17], [], 0), (1273, [17, 3, 5, 16], [1, 2], 0), (90, [17], [], 0), (91, [17], [], 1), (1, [16, 15, 8], [], 0), (3, [15, 14, 7], [], 0), (0, [14], [], 4), (42, [7, 13], [], 0), (22, [13, 10, 12], [1], 0), (90, [13], [], 0), (91, [13], [], 60), (22, [12, 11, 4], [1], 0), (90, [12], [], 0), (91, [12], [], 5), (20, [11, 3], [1], 19), (0, [11], [], 293), (20, [10, 3], [1], 61), (0, [10], [], 325), (42, [8, 9], [], 0), (0, [9], [], 4), (5000, [0, 1, 2, 3, 4, 5, 6, 7, 8], [0, 1], 23), (0, [0], [], 285), (90, [1], [], 0), (91, [1], [], 7), (90, [2], [], 0), (91, [2], [], 39), (0, [3], [], 285), (90, [4], [], 0), (91, [4], [], 7), (90, [5], [], 0), (91, [5], [], 39), (90, [6], [], 0), (91, [6], [], 59), (90, [7], [], 0), (91, [7], [], 59), (90, [8], [], 0), (91, [8], [], 4)], (4000, [3, 4, 5, 6, 7, 18], [2], 23)),
  ([(10, [21, 8], [], 1), (31, [17], [], 0), (1273, [17, 3, 5, 16], [1, 2], 0), (90, [17], [], 0), (91, [17], [], 1), (1, [16, 15, 8], [], 0), (3, [15, 14, 7], [], 0), (0, [14], [], 4), (42, [7, 13], [], 0), (22, [13, 10, 12], [1], 0), (90, [13], [], 0), (91, [13], [], 60), (22, [12, 11, 4], [1], 0), (90, [12], [], 0), (91, [12], [], 5), (20, [11, 3], [1], 19), (0, [11], [], 293), (20, [10, 3], [1], 61), (0, [10], [], 325), (42, [8, 9], [], 0), (0, [9], [], 4), (5000, [0, 1, 2, 3, 4, 5, 6, 7, 8], [0, 1], 23), (0, [0], [], 285), (90, [1], [], 0), (91, [1], [], 7), (90, [2], [], 0), (91, [2], [], 39), (0, [3], [], 285), (90, [4], [], 0), (91, [4], [], 7), (90, [5], [], 0), (91, [5], [], 39), (90, [6], [], 0), (91, [6], [], 59), (90, [7], [], 0), (91, [7], [], 59), (90, [8], [], 0), (91, [8], [], 4)], (90, [21], [], 0)),
  ([(10, [21, 8], [], 1), (31, [17], [], 0), (1273, [17, 3, 5, 16], [1, 2], 0), (90, [17], [], 0), (91, [17], [], 1), (1, [16, 15, 8], [], 0), (3, [15, 14, 7], [], 0), (0, [14], [], 4), (42, [7, 13], [], 0), (22, [13, 10, 12], [1], 0), (90, [13], [], 0), (91, [13], [], 60), (22, [12, 11, 4], [1], 0), (90, [12], [], 0), (91, [12], [], 5), (20, [11, 3], [1], 19), (0, [11], [], 293), (20, [10, 3], [1], 61), (0, [10], [], 325), (42, [8, 9], [], 0), (0, [9], [], 4), (5000, [0, 1, 2, 3, 4, 5, 6, 7, 8], [0, 1], 23), (0, [0], [], 285), (90, [1], [], 0), (91, [1], [], 7), (90, [2], [], 0), (91, [2], [], 39), (0, [3], [], 285), (90, [4], [], 0), (91, [4], [], 7), (90, [5], [], 0), (91, [5], [], 39), (90, [6], [], 0), (91, [6], [], 59), (90, [7], [], 0), (91, [7], [], 59), (90, [8], [], 0), (91, [8], [], 4)], (91, [21], [], 4)),
  ([(10, [21, 8], [], 1), (80, [18, 7, 20], [3, 2], 0), (16, [20, 19], [], 0), (0, [19], [], 1), (20, [18, 3], [2], 98), (0, [18], [], 356), (31, [17], [], 0), (1273, [17, 3, 5, 16], [1, 2], 0), (90, [17], [], 0), (91, [17], [], 1), (1, [16, 15, 8], [], 0), (3, [15, 14, 7], [], 0), (0, [14], [], 4), (42, [7, 13], [], 0), (22, [13, 10, 12], [1], 0), (90, [13], [], 0), (91, [13], [], 60), (22, [12, 11, 4], [1], 0), (90, [12], [], 0), (91, [12], [], 5), (20, [11, 3], [1], 19), (0, [11], [], 293), (20, [10, 3], [1], 61), (0, [10], [], 325), (42, [8, 9], [], 0), (0, [9], [], 4), (5000, [0, 1, 2, 3, 4, 5, 6, 7, 8], [0, 1], 23), (0, [0], [], 285), (90, [1], [], 0), (91, [1], [], 7), (90, [2], [], 0), (91, [2], [], 39), (0, [3], [], 285), (90, [4], [], 0), (91, [4], [], 7), (90, [5], [], 0), (91, [5], [], 39), (90, [6], [], 0), (91, [6], [], 59), (90, [7], [], 0), (91, [7], [], 59), (90, [8], [], 0), (91, [8], [], 4)], (4000, [3, 4, 5, 6, 7, 21], [3], 23))]
theorem r_296_23 : vCovO true (eRc e_296 L_296 cs_296 2000 (23, [(0, (3, 12, 285, 0)), (1, (0, 0, 7, 0)), (2, (0, 0, 39, 0)), (3, (0, 0, 59, 0)), (4, (0, 0, 59, 0)), (5, (0, 0, 4, 0))])) p_296_23 = true := by decide +kernel
theorem m_296 (d : Nat) : eC e_296 (d + 4) := eC_ok (e := e_296) (L := L_296) (cs := cs_296) (n := 2000) (d := d + 3) (A := A_296) (μ := mu_296) (tp := true) (p0 := p_296_s) rfl ⟨m_273 d, trivial⟩ rfl (.inl rfl) (by decide +kernel) (fun _ => post0_ok) r_296_s (allC c_296_s_0 allN) (allC (.inl ⟨p_296_5, r_296_5, fun q0 => (allC c_296_5_0 (allC c_296_5_1 (allC c_296_5_2 (allC c_296_5_3 allN))))⟩) (allC (.inl ⟨p_296_23, r_296_23, fun q0 => (allC c_296_23_0 (allC c_296_23_1 (allC c_296_23_2 (allC c_296_23_3 (allC c_296_23_4 (allC c_296_23_5 (allC c_296_23_6 (allC c_296_23_7 (allC c_296_23_8 (allC c_296_23_9 (allC c_296_23_10 (allC c_296_23_11 (allC c_296_23_12 (allC c_296_23_13 (allC c_296_23_14 (allC c_296_23_15 (allC c_296_23_16 (allC c_296_23_17 (allC c_296_23_18 (allC c_296_23_19 (allC c_296_23_20 (allC c_296_23_21 (allC c_296_23_22 allN)))))))))))))))))))))))⟩) allN))
