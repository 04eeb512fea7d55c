/-! CONTRACTS of methods (printed by wip/gen/emit.py). -/
/- MixStageModel.quarrel (II)I -/
noncomputable def s_300 : vM := ([(3, 12, 285, 0), (0, -2147483648, 2147483647, 0), (0, -2147483648, 2147483647, 0)], (0, -2147483648, 2147483647, 0), 1, 0, [(12, 82), (580, 0), (588, 0), (596, 0), (604, 0), (612, 0)])
def preb_300 (a0 a1 a2 : Int) (h : gH) : Prop := PG h
def pre_300 : List Int → gH → Prop := fun xs h => match xs with
  | [a0, a1, a2] => preb_300 a0 a1 a2 h
  | _ => False
noncomputable def e_300 : vE := (300, s_300, pre_300, post0)
noncomputable def L_300 : List vE := [e_270, e_271, e_272, e_282]
def cs_300 : List vC := [(24, [(0, (3, 12, 285, 0)), (1, (0, -2147483648, 2147483647, 0)), (2, (0, -2147483648, 2147483647, 0)), (3, (0, -2147483648, 2147483647, 0)), (4, (0, 0, 40, 0))]), (39, [(0, (3, 12, 285, 0)), (1, (0, -2147483648, 2147483647, 0)), (2, (0, -2147483648, 2147483647, 0)), (3, (0, -2147483648, 2147483647, 0)), (4, (0, 0, 39, 0)), (5, (0, 0, 40, 0))])]
def Ab_300_24 (a0 a1 a2 x0 x1 x2 x3 x4 : Int) (h0 h : gH) : Prop := x1 = a1 ∧ x2 = a2 ∧ XQ h
def mub_300_24 (a0 a1 a2 x0 x1 x2 x3 x4 : Int) (h0 h : gH) : Nat := (8589934592 + (2147483648 - x4).toNat) * 1099511627776 + 1099511627775
def Ab_300_39 (a0 a1 a2 x0 x1 x2 x3 x4 x5 : Int) (h0 h : gH) : Prop := x1 = a1 ∧ x2 = a2 ∧ XQ h ∧ x4 < hV h 285 82
def mub_300_39 (a0 a1 a2 x0 x1 x2 x3 x4 x5 : Int) (h0 h : gH) : Nat := (8589934592 + (2147483648 - x4).toNat) * 1099511627776 + (8589934592 + (2147483648 - x5).toNat) * 1
def A_300 : Int → List Int → gH → gH → Prop := fun c xs h0 h => match c.toNat with
  | 24 => (match xs with
    | [a0, a1, a2, x0, x1, x2, x3, x4] => Ab_300_24 a0 a1 a2 x0 x1 x2 x3 x4 h0 h
    | _ => False)
  | 39 => (match xs with
    | [a0, a1, a2, x0, x1, x2, x3, x4, x5] => Ab_300_39 a0 a1 a2 x0 x1 x2 x3 x4 x5 h0 h
    | _ => False)
  | _ => True
def mu_300 : Int → List Int → gH → gH → Nat := fun c xs h0 h => match c.toNat with
  | 24 => (match xs with
    | [a0, a1, a2, x0, x1, x2, x3, x4] => mub_300_24 a0 a1 a2 x0 x1 x2 x3 x4 h0 h
    | _ => 0)
  | 39 => (match xs with
    | [a0, a1, a2, x0, x1, x2, x3, x4, x5] => mub_300_39 a0 a1 a2 x0 x1 x2 x3 x4 x5 h0 h
    | _ => 0)
  | _ => 0
theorem q_300_0 {n0 n1 n2 : Int} {H0 H1 : gH} (f0 : n0 = 285) (f1 : (hLe T0 H0 H1 ∧ hFr s_282.2.2.2.2 H0 H1 ∧ ((0 : Int) = 0 → H1.length = H0.length) ∧ hWt T0 H1) ∧ postb_282 n1 n0 n2 H0 H1) (f2 : n1 ≠ 0) : 0 ≤ n2 := by
  unfold postb_282 at f1
  have e1 : hV H1 285 18 = hV H0 285 18 := (f1.1.2.1.1 285 18 kF_282_285_18)
  have e2 : (0 : Int) ≤ hV H0 285 18 ∧ hV H0 285 18 ≤ 8 := bTo e1 (f1.1.2.2.2 285 18 _ _ kW_285_18)
  have r0_0 := f1.2
  try simp only [e1] at r0_0
  clear e1
  clear f1
  omega
def g_300_s_0 : vG := ([(31, [3], [], 0), (1282, [3, 0, 1], [0, 1], 0), (0, [0], [], 285)], (90, [1], [], 0))
theorem c_300_s_0 : vOkm T0 (eP e_300 L_300 A_300 mu_300 none) 3 g_300_s_0 := vOk_inI fun ρ η f0 f1 f2 => q_300_0 (n0 := ρ 0) (n1 := ρ 3) (n2 := ρ 1) (H0 := η 0) (H1 := η 1) f2 f1 f0
theorem q_300_1 {n0 n1 n2 n3 : Int} {H0 H1 : gH} (f0 : n0 = 285) (f1 : hWt T0 H0 ∧ preb_300 n0 n1 n2 H0) (f2 : (hLe T0 H0 H1 ∧ hFr s_282.2.2.2.2 H0 H1 ∧ ((0 : Int) = 0 → H1.length = H0.length) ∧ hWt T0 H1) ∧ postb_282 n3 n0 n1 H0 H1) (f3 : n3 ≠ 0) : n1 ≤ 7 := by
  unfold preb_300 at f1
  unfold postb_282 at f2
  have e1 : hV H1 285 18 = hV H0 285 18 := (f2.1.2.1.1 285 18 kF_282_285_18)
  have e2 : (0 : Int) ≤ hV H0 285 18 ∧ hV H0 285 18 ≤ 8 := bTo e1 (f2.1.2.2.2 285 18 _ _ kW_285_18)
  have p0 := f1.2
  have r0_0 := f2.2
  try simp only [e1] at r0_0
  clear e1
  clear f1 f2
  omega
def g_300_s_1 : vG := ([(31, [3], [], 0), (1282, [3, 0, 1], [0, 1], 0), (6000, [0, 1, 2], [0], 0), (0, [0], [], 285)], (91, [1], [], 7))
theorem c_300_s_1 : vOkm T0 (eP e_300 L_300 A_300 mu_300 none) 3 g_300_s_1 := vOk_inI fun ρ η f0 f1 f2 f3 => q_300_1 (n0 := ρ 0) (n1 := ρ 1) (n2 := ρ 2) (n3 := ρ 3) (H0 := η 0) (H1 := η 1) f3 f2 f1 f0
theorem q_300_2 {n0 n1 n2 n3 : Int} {H0 H1 : gH} (f0 : n0 ≤ 2147483647) (f1 : (-2147483648) ≤ n0) (f2 : n1 ≤ 2147483647) (f3 : (-2147483648) ≤ n1) (f4 : n2 = 285) (f5 : hWt T0 H0 ∧ preb_300 n2 n1 n0 H0) (f6 : n3 ≤ 1) (f7 : 0 ≤ n3) (f8 : (hLe T0 H0 H1 ∧ hFr s_282.2.2.2.2 H0 H1 ∧ ((0 : Int) = 0 → H1.length = H0.length) ∧ hWt T0 H1) ∧ postb_282 n3 n2 n1 H0 H1) (f9 : n3 ≠ 0) (f10 : 0 ≤ n0) : preb_270 n2 n1 H1 := by
  unfold preb_300 at f5
  unfold postb_282 at f8
  unfold preb_270
  have e1 : hV H1 285 18 = hV H0 285 18 := (f8.1.2.1.1 285 18 kF_282_285_18)
  have e2 : PG H1 = PG H0 := PG_fr f8.1.2.1 (by decide +kernel)
  have e3 : (0 : Int) ≤ hV H0 285 18 ∧ hV H0 285 18 ≤ 8 := bTo e1 (f8.1.2.2.2 285 18 _ _ kW_285_18)
  try simp only [e1, e2]
  have p0 := f5.2
  have r0_0 := f8.2
  try simp only [e1] at r0_0
  clear e1 e2
  clear f5 f8
  refine ⟨?_, ?_⟩ <;> first | assumption | omega | trivial
def g_300_s_2 : vG := ([(33, [2], [], 0), (31, [3], [], 0), (1282, [3, 0, 1], [0, 1], 0), (90, [3], [], 0), (91, [3], [], 1), (6000, [0, 1, 2], [0], 0), (0, [0], [], 285), (90, [1], [], -2147483648), (91, [1], [], 2147483647), (90, [2], [], -2147483648), (91, [2], [], 2147483647)], (2270, [0, 1], [1], 0))
theorem c_300_s_2 : vOkm T0 (eP e_300 L_300 A_300 mu_300 none) 3 g_300_s_2 := vOk_inI fun ρ η f0 f1 f2 f3 f4 f5 f6 f7 f8 f9 f10 => q_300_2 (n0 := ρ 2) (n1 := ρ 1) (n2 := ρ 0) (n3 := ρ 3) (H0 := η 0) (H1 := η 1) f10 f9 f8 f7 f6 f5 f4 f3 f2 f1 f0
theorem q_300_3 {n0 n1 n2 n3 n4 : Int} {H0 H1 H2 : gH} (f0 : n0 ≤ 2147483647) (f1 : (-2147483648) ≤ n0) (f2 : n1 ≤ 2147483647) (f3 : (-2147483648) ≤ n1) (f4 : n2 = 285) (f5 : hWt T0 H0 ∧ preb_300 n2 n1 n0 H0) (f6 : n3 ≤ 1) (f7 : 0 ≤ n3) (f8 : (hLe T0 H0 H1 ∧ hFr s_282.2.2.2.2 H0 H1 ∧ ((0 : Int) = 0 → H1.length = H0.length) ∧ hWt T0 H1) ∧ postb_282 n3 n2 n1 H0 H1) (f9 : n3 ≠ 0) (f10 : 0 ≤ n0) (f11 : (hLe T0 H1 H2 ∧ hFr s_270.2.2.2.2 H1 H2 ∧ ((0 : Int) = 0 → H2.length = H1.length) ∧ hWt T0 H2) ∧ postb_270 n2 n1 H1 H2) (f12 : n4 = 0) : Ab_300_24 n2 n1 n0 n2 n1 n0 n0 n4 H0 H2 ∧ ∀ q, none = some q → mub_300_24 n2 n1 n0 n2 n1 n0 n0 n4 H0 H2 < q := by
  unfold preb_300 at f5
  unfold postb_282 at f8
  unfold postb_270 at f11
  unfold Ab_300_24
  have e1 : hV H1 285 18 = hV H0 285 18 := (f8.1.2.1.1 285 18 kF_282_285_18)
  have e4 : hV H2 296 = hV H0 296 := (fRow f11.1.2.1 296 kR_270_296).trans (fRow f8.1.2.1 296 kR_282_296)
  have e7 : hV H2 298 = hV H0 298 := (fRow f11.1.2.1 298 kR_270_298).trans (fRow f8.1.2.1 298 kR_282_298)
  have e10 : hV H2 300 = hV H0 300 := (fRow f11.1.2.1 300 kR_270_300).trans (fRow f8.1.2.1 300 kR_282_300)
  have e11 : (0 : Int) ≤ hV H0 285 18 ∧ hV H0 285 18 ≤ 8 := bTo e1 (f8.1.2.2.2 285 18 _ _ kW_285_18)
  have e13 : (0 : Int) ≤ hV H2 285 82 ∧ hV H2 285 82 ≤ 40 := f11.1.2.2.2 285 82 _ _ kW_285_82
  have p0 := f5.2
  have r0_0 := f8.2
  have r1_0 := f11.2.1
  have r1_1 := f11.2.2
  try simp only [e1] at r0_0
  try simp only [e4, e7, e10] at r1_0
  clear e1 e4 e7 e10
  clear f5 f8 f11
  refine ⟨?_, fun q hq => ?_⟩
  · refine ⟨?_, ?_, ?_⟩ <;> first | assumption | omega | trivial
  · exact nomatch hq
def g_300_s_3 : vG := ([(0, [4], [], 0), (1270, [0, 1], [1, 2], 0), (33, [2], [], 0), (31, [3], [], 0), (1282, [3, 0, 1], [0, 1], 0), (90, [3], [], 0), (91, [3], [], 1), (6000, [0, 1, 2], [0], 0), (0, [0], [], 285), (90, [1], [], -2147483648), (91, [1], [], 2147483647), (90, [2], [], -2147483648), (91, [2], [], 2147483647)], (4000, [0, 1, 2, 2, 4], [2], 24))
theorem c_300_s_3 : vOkm T0 (eP e_300 L_300 A_300 mu_300 none) 3 g_300_s_3 := vOk_inI fun ρ η f0 f1 f2 f3 f4 f5 f6 f7 f8 f9 f10 f11 f12 => q_300_3 (n0 := ρ 2) (n1 := ρ 1) (n2 := ρ 0) (n3 := ρ 3) (n4 := ρ 4) (H0 := η 0) (H1 := η 1) (H2 := η 2) f12 f11 f10 f9 f8 f7 f6 f5 f4 f3 f2 f1 f0
def p_300_s : List vG := [g_300_s_0,
  g_300_s_1,
  g_300_s_2,
  g_300_s_3]
theorem r_300_s : vCovO true (eR0 e_300 L_300 cs_300 2000) p_300_s = true := by decide +kernel
theorem q_300_4 {q0 : Nat} {n0 n1 : Int} {H0 : gH} (f0 : n0 ≤ 40) (f1 : n1 < n0) : n1 ≤ 39 := by
  omega
def g_300_24_0 : vG := ([(42, [7, 8], [], 0), (91, [8], [], 40)], (91, [7], [], 39))
theorem c_300_24_0 {q0 : Nat} : vOkm T0 (eP e_300 L_300 A_300 mu_300 (some q0)) 3 g_300_24_0 := vOk_inI fun ρ η f0 f1 => q_300_4 (q0 := q0) (n0 := ρ 8) (n1 := ρ 7) (H0 := η 0) f1 f0
theorem q_300_5 {q0 : Nat} {n0 n1 n2 n3 : Int} {H0 : gH} (f0 : 0 ≤ n0) (f1 : n1 ≤ 40) (f2 : n0 < n1) (f3 : n2 = 1) (f4 : n3 = w32 (n0 + n2)) : 0 ≤ n3 := by
  first
  | (have ix0 : n3 = n0 + 1 := Eq.trans f4 (w32_id (by omega) (by omega)); subst ix0; clear f4)
  | (unfold w32 at f4; have ix0 : n3 = n0 + 1 := (by omega); subst ix0)
  | skip
  try unfold w32 at f4
  omega
def g_300_24_1 : vG := ([(1, [10, 7, 9], [], 0), (0, [9], [], 1), (42, [7, 8], [], 0), (91, [8], [], 40), (90, [7], [], 0)], (90, [10], [], 0))
theorem c_300_24_1 {q0 : Nat} : vOkm T0 (eP e_300 L_300 A_300 mu_300 (some q0)) 3 g_300_24_1 := vOk_inI fun ρ η f0 f1 f2 f3 f4 => q_300_5 (q0 := q0) (n0 := ρ 7) (n1 := ρ 8) (n2 := ρ 9) (n3 := ρ 10) (H0 := η 0) f4 f3 f2 f1 f0
theorem q_300_6 {q0 : Nat} {n0 n1 n2 n3 : Int} {H0 : gH} (f0 : 0 ≤ n0) (f1 : n1 ≤ 40) (f2 : n0 < n1) (f3 : n2 = 1) (f4 : n3 = w32 (n0 + n2)) : n3 ≤ 40 := by
  first
  | (have ix0 : n3 = n0 + 1 := Eq.trans f4 (w32_id (by omega) (by omega)); subst ix0; clear f4)
  | (unfold w32 at f4; have ix0 : n3 = n0 + 1 := (by omega); subst ix0)
  | skip
  try unfold w32 at f4
  omega
def g_300_24_2 : vG := ([(1, [10, 7, 9], [], 0), (0, [9], [], 1), (42, [7, 8], [], 0), (91, [8], [], 40), (90, [7], [], 0)], (91, [10], [], 40))
theorem c_300_24_2 {q0 : Nat} : vOkm T0 (eP e_300 L_300 A_300 mu_300 (some q0)) 3 g_300_24_2 := vOk_inI fun ρ η f0 f1 f2 f3 f4 => q_300_6 (q0 := q0) (n0 := ρ 7) (n1 := ρ 8) (n2 := ρ 9) (n3 := ρ 10) (H0 := η 0) f4 f3 f2 f1 f0
theorem q_300_7 {q0 : Nat} {n0 n1 n2 n3 n4 n5 n6 n7 n8 n9 n10 : Int} {H0 H1 : gH} (f0 : n0 ≤ 40) (f1 : 0 ≤ n0) (f2 : n1 ≤ 2147483647) (f3 : (-2147483648) ≤ n1) (f4 : n2 ≤ 2147483647) (f5 : (-2147483648) ≤ n2) (f6 : n3 ≤ 2147483647) (f7 : (-2147483648) ≤ n3) (f8 : n4 = 285) (f9 : n5 ≤ 2147483647) (f10 : (-2147483648) ≤ n5) (f11 : n6 ≤ 2147483647) (f12 : (-2147483648) ≤ n6) (f13 : n7 = 285) (f14 : (hLe T0 H0 H1 ∧ hFr s_300.2.2.2.2 H0 H1 ∧ hWt T0 H1) ∧ (Ab_300_24 n7 n6 n5 n4 n3 n2 n1 n0 H0 H1 ∧ preb_300 n7 n6 n5 H0) ∧ some q0 = some (mub_300_24 n7 n6 n5 n4 n3 n2 n1 n0 H0 H1)) (f15 : n8 ≤ 40) (f16 : 0 ≤ n8) (f17 : n8 = hV H1 (n4).toNat 82) (f18 : n0 < n8) (f19 : n9 = 1) (f20 : n10 = w32 (n0 + n9)) : Ab_300_39 n7 n6 n5 n4 n3 n2 n1 n0 n10 H0 H1 ∧ ∀ q, some q0 = some q → mub_300_39 n7 n6 n5 n4 n3 n2 n1 n0 n10 H0 H1 < q := by
  have g4 := f14.2.1.1
  unfold Ab_300_24 at g4
  have g3 := f14.2.1.2
  unfold preb_300 at g3
  have g5 := Option.some.inj f14.2.2
  unfold mub_300_24 at g5
  unfold Ab_300_39
  unfold mub_300_39
  have e0 : n8 = hV H1 285 82 := (by rw [f8] at f17; exact f17 : n8 = hV H1 285 82)
  have e1 : (0 : Int) ≤ hV H1 285 82 ∧ hV H1 285 82 ≤ 40 := f14.1.2.2 285 82 _ _ kW_285_82
  have k0 := g4.1
  have k1 := g4.2.1
  have y0 := g4.2.2
  have p0 := g3
  clear g3
  clear g4
  clear f17
  clear f14
  subst e0
  first
  | (have ix0 : n10 = n0 + 1 := Eq.trans f20 (w32_iv (Iad (Iat f1 f0) (IC 1)) (by decide)); subst ix0; clear f20)
  | (have ix0 : n10 = n0 + 1 := Eq.trans f20 (w32_id (by omega) (by omega)); subst ix0; clear f20)
  | (unfold w32 at f20; have ix0 : n10 = n0 + 1 := (by omega); subst ix0)
  | skip
  try unfold w32 at f20
  try subst k1
  try subst k0
  refine ⟨?_, fun q hq => ?_⟩
  · refine ⟨?_, ?_, ?_, ?_⟩ <;> first | assumption | omega | trivial
  · have g6 := Option.some.inj hq
    subst g6
    omega
def g_300_24_3 : vG := ([(1, [10, 7, 9], [], 0), (0, [9], [], 1), (42, [7, 8], [], 0), (20, [8, 3], [1], 82), (90, [8], [], 0), (91, [8], [], 40), (5000, [0, 1, 2, 3, 4, 5, 6, 7], [0, 1], 24), (0, [0], [], 285), (90, [1], [], -2147483648), (91, [1], [], 2147483647), (90, [2], [], -2147483648), (91, [2], [], 2147483647), (0, [3], [], 285), (90, [4], [], -2147483648), (91, [4], [], 2147483647), (90, [5], [], -2147483648), (91, [5], [], 2147483647), (90, [6], [], -2147483648), (91, [6], [], 2147483647), (90, [7], [], 0), (91, [7], [], 40)], (4000, [3, 4, 5, 6, 7, 10], [1], 39))
theorem c_300_24_3 {q0 : Nat} : vOkm T0 (eP e_300 L_300 A_300 mu_300 (some q0)) 3 g_300_24_3 := vOk_inI fun ρ η f0 f1 f2 f3 f4 f5 f6 f7 f8 f9 f10 f11 f12 f13 f14 f15 f16 f17 f18 f19 f20 => q_300_7 (q0 := q0) (n0 := ρ 7) (n1 := ρ 6) (n2 := ρ 5) (n3 := ρ 4) (n4 := ρ 3) (n5 := ρ 2) (n6 := ρ 1) (n7 := ρ 0) (n8 := ρ 8) (n9 := ρ 9) (n10 := ρ 10) (H0 := η 0) (H1 := η 1) f20 f19 f18 f17 f16 f15 f14 f13 f12 f11 f10 f9 f8 f7 f6 f5 f4 f3 f2 f1 f0
def p_300_24 : List vG := [g_300_24_0,
  g_300_24_1,
  g_300_24_2,
  g_300_24_3]
theorem r_300_24 : vCovO true (eRc e_300 L_300 cs_300 2000 (24, [(0, (3, 12, 285, 0)), (1, (0, -2147483648, 2147483647, 0)), (2, (0, -2147483648, 2147483647, 0)), (3, (0, -2147483648, 2147483647, 0)), (4, (0, 0, 40, 0))])) p_300_24 = true := by decide +kernel
theorem q_300_8 {q0 : Nat} {n0 n1 : Int} {H0 : gH} (f0 : n0 ≤ 39) (f1 : 0 ≤ n0) (f2 : n1 = w32 (n0 + 1)) : 0 ≤ n1 := by
  first
  | (have ix0 : n1 = n0 + 1 := Eq.trans f2 (w32_iv (Iad (Iat f1 f0) (IC 1)) (by decide)); subst ix0; clear f2)
  | (have ix0 : n1 = n0 + 1 := Eq.trans f2 (w32_id (by omega) (by omega)); subst ix0; clear f2)
  | (unfold w32 at f2; have ix0 : n1 = n0 + 1 := (by omega); subst ix0)
  | skip
  try unfold w32 at f2
  omega
def g_300_39_0 : vG := ([(10, [10, 7], [], 1), (90, [7], [], 0), (91, [7], [], 39)], (90, [10], [], 0))
theorem c_300_39_0 {q0 : Nat} : vOkm T0 (eP e_300 L_300 A_300 mu_300 (some q0)) 3 g_300_39_0 := vOk_inI fun ρ η f0 f1 f2 => q_300_8 (q0 := q0) (n0 := ρ 7) (n1 := ρ 10) (H0 := η 0) f2 f1 f0
theorem q_300_9 {q0 : Nat} {n0 n1 : Int} {H0 : gH} (f0 : n0 ≤ 39) (f1 : 0 ≤ n0) (f2 : n1 = w32 (n0 + 1)) : n1 ≤ 40 := by
  first
  | (have ix0 : n1 = n0 + 1 := Eq.trans f2 (w32_iv (Iad (Iat f1 f0) (IC 1)) (by decide)); subst ix0; clear f2)
  | (have ix0 : n1 = n0 + 1 := Eq.trans f2 (w32_id (by omega) (by omega)); subst ix0; clear f2)
  | (unfold w32 at f2; have ix0 : n1 = n0 + 1 := (by omega); subst ix0)
  | skip
  try unfold w32 at f2
  omega
def g_300_39_1 : vG := ([(10, [10, 7], [], 1), (90, [7], [], 0), (91, [7], [], 39)], (91, [10], [], 40))
theorem c_300_39_1 {q0 : Nat} : vOkm T0 (eP e_300 L_300 A_300 mu_300 (some q0)) 3 g_300_39_1 := vOk_inI fun ρ η f0 f1 f2 => q_300_9 (q0 := q0) (n0 := ρ 7) (n1 := ρ 10) (H0 := η 0) f2 f1 f0
theorem q_300_10 {q0 : Nat} {n0 n1 n2 n3 n4 n5 n6 n7 n8 n9 n10 : Int} {H0 H1 : gH} (f0 : n0 ≤ 40) (f1 : 0 ≤ n0) (f2 : n1 ≤ 39) (f3 : 0 ≤ n1) (f4 : n2 ≤ 2147483647) (f5 : (-2147483648) ≤ n2) (f6 : n3 ≤ 2147483647) (f7 : (-2147483648) ≤ n3) (f8 : n4 ≤ 2147483647) (f9 : (-2147483648) ≤ n4) (f10 : n5 = 285) (f11 : n6 ≤ 2147483647) (f12 : (-2147483648) ≤ n6) (f13 : n7 ≤ 2147483647) (f14 : (-2147483648) ≤ n7) (f15 : n8 = 285) (f16 : (hLe T0 H0 H1 ∧ hFr s_300.2.2.2.2 H0 H1 ∧ hWt T0 H1) ∧ (Ab_300_39 n8 n7 n6 n5 n4 n3 n2 n1 n0 H0 H1 ∧ preb_300 n8 n7 n6 H0) ∧ some q0 = some (mub_300_39 n8 n7 n6 n5 n4 n3 n2 n1 n0 H0 H1)) (f17 : n9 ≤ 40) (f18 : 0 ≤ n9) (f19 : n9 = hV H1 (n5).toNat 82) (f20 : n9 ≤ n0) (f21 : n10 = w32 (n1 + 1)) : Ab_300_24 n8 n7 n6 n5 n4 n3 n2 n10 H0 H1 ∧ ∀ q, some q0 = some q → mub_300_24 n8 n7 n6 n5 n4 n3 n2 n10 H0 H1 < q := by
  have g4 := f16.2.1.1
  unfold Ab_300_39 at g4
  have g3 := f16.2.1.2
  unfold preb_300 at g3
  have g5 := Option.some.inj f16.2.2
  unfold mub_300_39 at g5
  unfold Ab_300_24
  unfold mub_300_24
  have e0 : n9 = hV H1 285 82 := (by rw [f10] at f19; exact f19 : n9 = hV H1 285 82)
  have e1 : (0 : Int) ≤ hV H1 285 82 ∧ hV H1 285 82 ≤ 40 := f16.1.2.2 285 82 _ _ kW_285_82
  have k0 := g4.1
  have k1 := g4.2.1
  have y0 := g4.2.2.1
  have y1 := g4.2.2.2
  have p0 := g3
  clear g3
  clear g4
  clear f19
  clear f16
  subst e0
  first
  | (have ix0 : n10 = n1 + 1 := Eq.trans f21 (w32_iv (Iad (Iat f3 f2) (IC 1)) (by decide)); subst ix0; clear f21)
  | (have ix0 : n10 = n1 + 1 := Eq.trans f21 (w32_id (by omega) (by omega)); subst ix0; clear f21)
  | (unfold w32 at f21; have ix0 : n10 = n1 + 1 := (by omega); subst ix0)
  | skip
  try unfold w32 at f21
  try subst k1
  try subst k0
  refine ⟨?_, fun q hq => ?_⟩
  · refine ⟨?_, ?_, ?_⟩ <;> first | assumption | omega | trivial
  · have g6 := Option.some.inj hq
    subst g6
    omega
def g_300_39_2 : vG := ([(10, [10, 7], [], 1), (43, [8, 9], [], 0), (20, [9, 3], [1], 82), (90, [9], [], 0), (91, [9], [], 40), (5000, [0, 1, 2, 3, 4, 5, 6, 7, 8], [0, 1], 39), (0, [0], [], 285), (90, [1], [], -2147483648), (91, [1], [], 2147483647), (90, [2], [], -2147483648), (91, [2], [], 2147483647), (0, [3], [], 285), (90, [4], [], -2147483648), (91, [4], [], 2147483647), (90, [5], [], -2147483648), (91, [5], [], 2147483647), (90, [6], [], -2147483648), (91, [6], [], 2147483647), (90, [7], [], 0), (91, [7], [], 39), (90, [8], [], 0), (91, [8], [], 40)], (4000, [3, 4, 5, 6, 10], [1], 24))
theorem c_300_39_2 {q0 : Nat} : vOkm T0 (eP e_300 L_300 A_300 mu_300 (some q0)) 3 g_300_39_2 := vOk_inI fun ρ η f0 f1 f2 f3 f4 f5 f6 f7 f8 f9 f10 f11 f12 f13 f14 f15 f16 f17 f18 f19 f20 f21 => q_300_10 (q0 := q0) (n0 := ρ 8) (n1 := ρ 7) (n2 := ρ 6) (n3 := ρ 5) (n4 := ρ 4) (n5 := ρ 3) (n6 := ρ 2) (n7 := ρ 1) (n8 := ρ 0) (n9 := ρ 9) (n10 := ρ 10) (H0 := η 0) (H1 := η 1) f21 f20 f19 f18 f17 f16 f15 f14 f13 f12 f11 f10 f9 f8 f7 f6 f5 f4 f3 f2 f1 f0
theorem q_300_11 {q0 : Nat} {n0 n1 n2 : Int} {H0 : gH} (f0 : 0 ≤ n0) (f1 : n1 ≤ 40) (f2 : n0 < n1) (f3 : n2 = w32 (n0 + 1)) : 0 ≤ n2 := by
  first
  | (have ix0 : n2 = n0 + 1 := Eq.trans f3 (w32_id (by omega) (by omega)); subst ix0; clear f3)
  | (unfold w32 at f3; have ix0 : n2 = n0 + 1 := (by omega); subst ix0)
  | skip
  try unfold w32 at f3
  omega
def g_300_39_3 : vG := ([(10, [15, 8], [], 1), (42, [8, 9], [], 0), (91, [9], [], 40), (90, [8], [], 0)], (90, [15], [], 0))
theorem c_300_39_3 {q0 : Nat} : vOkm T0 (eP e_300 L_300 A_300 mu_300 (some q0)) 3 g_300_39_3 := vOk_inI fun ρ η f0 f1 f2 f3 => q_300_11 (q0 := q0) (n0 := ρ 8) (n1 := ρ 9) (n2 := ρ 15) (H0 := η 0) f3 f2 f1 f0
theorem q_300_12 {q0 : Nat} {n0 n1 n2 : Int} {H0 : gH} (f0 : 0 ≤ n0) (f1 : n1 ≤ 40) (f2 : n0 < n1) (f3 : n2 = w32 (n0 + 1)) : n2 ≤ 40 := by
  first
  | (have ix0 : n2 = n0 + 1 := Eq.trans f3 (w32_id (by omega) (by omega)); subst ix0; clear f3)
  | (unfold w32 at f3; have ix0 : n2 = n0 + 1 := (by omega); subst ix0)
  | skip
  try unfold w32 at f3
  omega
def g_300_39_4 : vG := ([(10, [15, 8], [], 1), (42, [8, 9], [], 0), (91, [9], [], 40), (90, [8], [], 0)], (91, [15], [], 40))
theorem c_300_39_4 {q0 : Nat} : vOkm T0 (eP e_300 L_300 A_300 mu_300 (some q0)) 3 g_300_39_4 := vOk_inI fun ρ η f0 f1 f2 f3 => q_300_12 (q0 := q0) (n0 := ρ 8) (n1 := ρ 9) (n2 := ρ 15) (H0 := η 0) f3 f2 f1 f0
theorem kR_300_298 : vFreeR s_300.2.2.2.2 298 = true := by decide +kernel
theorem q_300_13 {q0 : Nat} {n0 n1 n2 n3 n4 n5 n6 n7 n8 n9 n10 n11 n12 n13 n14 n15 : Int} {H0 H1 : gH} (f0 : n0 ≤ 40) (f1 : 0 ≤ n0) (f2 : n1 ≤ 39) (f3 : 0 ≤ n1) (f4 : n2 ≤ 2147483647) (f5 : (-2147483648) ≤ n2) (f6 : n3 ≤ 2147483647) (f7 : (-2147483648) ≤ n3) (f8 : n4 ≤ 2147483647) (f9 : (-2147483648) ≤ n4) (f10 : n5 = 285) (f11 : n6 ≤ 2147483647) (f12 : (-2147483648) ≤ n6) (f13 : n7 ≤ 2147483647) (f14 : (-2147483648) ≤ n7) (f15 : n8 = 285) (f16 : (hLe T0 H0 H1 ∧ hFr s_300.2.2.2.2 H0 H1 ∧ hWt T0 H1) ∧ (Ab_300_39 n8 n7 n6 n5 n4 n3 n2 n1 n0 H0 H1 ∧ preb_300 n8 n7 n6 H0) ∧ some q0 = some (mub_300_39 n8 n7 n6 n5 n4 n3 n2 n1 n0 H0 H1)) (f17 : n9 ≤ 40) (f18 : 0 ≤ n9) (f19 : n9 = hV H1 (n5).toNat 82) (f20 : n0 < n9) (f21 : n10 = 298) (f22 : n10 = hV H1 (n5).toNat 24) (f23 : n11 = 344) (f24 : n11 = hV H1 (n5).toNat 83) (f25 : n12 ≤ 1007) (f26 : 0 ≤ n12) (f27 : n12 = hV H1 (n11).toNat (n1).toNat) (f28 : n13 ≤ 5) (f29 : 0 ≤ n13) (f30 : n13 = hV H1 (n10).toNat (n12).toNat) (f31 : n14 = 1) (f32 : n13 ≠ n14) (f33 : n15 = w32 (n0 + 1)) : Ab_300_39 n8 n7 n6 n5 n4 n3 n2 n1 n15 H0 H1 ∧ ∀ q, some q0 = some q → mub_300_39 n8 n7 n6 n5 n4 n3 n2 n1 n15 H0 H1 < q := by
  have g4 := f16.2.1.1
  unfold Ab_300_39 at g4
  have g3 := f16.2.1.2
  unfold preb_300 at g3
  have g5 := Option.some.inj f16.2.2
  unfold mub_300_39 at g5
  unfold Ab_300_39
  unfold mub_300_39
  have e0 : n9 = hV H1 285 82 := (by rw [f10] at f19; exact f19 : n9 = hV H1 285 82)
  have e1 : n12 = hV H1 344 (n1).toNat := (by rw [f23] at f27; exact f27 : n12 = hV H1 344 (n1).toNat)
  have e3 : n13 = hV H0 298 (n12).toNat := (by rw [f21] at f30; exact f30 : n13 = hV H1 298 (n12).toNat).trans ((congrFun (fRow f16.1.2.1 298 kR_300_298) _))
  have e4 : (0 : Int) ≤ hV H1 285 82 ∧ hV H1 285 82 ≤ 40 := f16.1.2.2 285 82 _ _ kW_285_82
  have k0 := g4.1
  have k1 := g4.2.1
  have y0 := g4.2.2.1
  have y1 := g4.2.2.2
  have p0 := g3
  clear g3
  clear g4
  clear f19 f22 f24 f27 f30
  clear f16
  subst e0
  subst e1
  subst e3
  first
  | (have ix0 : n15 = n0 + 1 := Eq.trans f33 (w32_iv (Iad (Iat f1 f0) (IC 1)) (by decide)); subst ix0; clear f33)
  | (have ix0 : n15 = n0 + 1 := Eq.trans f33 (w32_id (by omega) (by omega)); subst ix0; clear f33)
  | (unfold w32 at f33; have ix0 : n15 = n0 + 1 := (by omega); subst ix0)
  | skip
  try unfold w32 at f33
  try subst k1
  try subst k0
  refine ⟨?_, fun q hq => ?_⟩
  · refine ⟨?_, ?_, ?_, ?_⟩ <;> first | assumption | omega | trivial
  · have g6 := Option.some.inj hq
    subst g6
    omega
def g_300_39_5 : vG := ([(10, [15, 8], [], 1), (41, [13, 14], [], 0), (0, [14], [], 1), (22, [13, 10, 12], [1], 0), (90, [13], [], 0), (91, [13], [], 5), (22, [12, 11, 7], [1], 0), (90, [12], [], 0), (91, [12], [], 1007), (20, [11, 3], [1], 83), (0, [11], [], 344), (20, [10, 3], [1], 24), (0, [10], [], 298), (42, [8, 9], [], 0), (20, [9, 3], [1], 82), (90, [9], [], 0), (91, [9], [], 40), (5000, [0, 1, 2, 3, 4, 5, 6, 7, 8], [0, 1], 39), (0, [0], [], 285), (90, [1], [], -2147483648), (91, [1], [], 2147483647), (90, [2], [], -2147483648), (91, [2], [], 2147483647), (0, [3], [], 285), (90, [4], [], -2147483648), (91, [4], [], 2147483647), (90, [5], [], -2147483648), (91, [5], [], 2147483647), (90, [6], [], -2147483648), (91, [6], [], 2147483647), (90, [7], [], 0), (91, [7], [], 39), (90, [8], [], 0), (91, [8], [], 40)], (4000, [3, 4, 5, 6, 7, 15], [1], 39))
theorem c_300_39_5 {q0 : Nat} : vOkm T0 (eP e_300 L_300 A_300 mu_300 (some q0)) 3 g_300_39_5 := vOk_inI fun ρ η f0 f1 f2 f3 f4 f5 f6 f7 f8 f9 f10 f11 f12 f13 f14 f15 f16 f17 f18 f19 f20 f21 f22 f23 f24 f25 f26 f27 f28 f29 f30 f31 f32 f33 => q_300_13 (q0 := q0) (n0 := ρ 8) (n1 := ρ 7) (n2 := ρ 6) (n3 := ρ 5) (n4 := ρ 4) (n5 := ρ 3) (n6 := ρ 2) (n7 := ρ 1) (n8 := ρ 0) (n9 := ρ 9) (n10 := ρ 10) (n11 := ρ 11) (n12 := ρ 12) (n13 := ρ 13) (n14 := ρ 14) (n15 := ρ 15) (H0 := η 0) (H1 := η 1) f33 f32 f31 f30 f29 f28 f27 f26 f25 f24 f23 f22 f21 f20 f19 f18 f17 f16 f15 f14 f13 f12 f11 f10 f9 f8 f7 f6 f5 f4 f3 f2 f1 f0
theorem q_300_14 {q0 : Nat} {n0 n1 : Int} {H0 : gH} (f0 : 0 ≤ n0) (f1 : n1 ≤ 40) (f2 : n0 < n1) : 0 ≤ n0 ∧ n0 < 40 := by
  omega
def g_300_39_6 : vG := ([(42, [8, 9], [], 0), (91, [9], [], 40), (90, [8], [], 0)], (70, [8], [], 40))
theorem c_300_39_6 {q0 : Nat} : vOkm T0 (eP e_300 L_300 A_300 mu_300 (some q0)) 3 g_300_39_6 := vOk_inI fun ρ η f0 f1 f2 => q_300_14 (q0 := q0) (n0 := ρ 8) (n1 := ρ 9) (H0 := η 0) f2 f1 f0
def g_300_39_7 : vG := ([(10, [20, 8], [], 1), (42, [8, 9], [], 0), (91, [9], [], 40), (90, [8], [], 0)], (90, [20], [], 0))
theorem c_300_39_7 {q0 : Nat} : vOkm T0 (eP e_300 L_300 A_300 mu_300 (some q0)) 3 g_300_39_7 := vOk_inI fun ρ η f0 f1 f2 f3 => q_300_11 (q0 := q0) (n0 := ρ 8) (n1 := ρ 9) (n2 := ρ 20) (H0 := η 0) f3 f2 f1 f0
def g_300_39_8 : vG := ([(10, [20, 8], [], 1), (42, [8, 9], [], 0), (91, [9], [], 40), (90, [8], [], 0)], (91, [20], [], 40))
theorem c_300_39_8 {q0 : Nat} : vOkm T0 (eP e_300 L_300 A_300 mu_300 (some q0)) 3 g_300_39_8 := vOk_inI fun ρ η f0 f1 f2 f3 => q_300_12 (q0 := q0) (n0 := ρ 8) (n1 := ρ 9) (n2 := ρ 20) (H0 := η 0) f3 f2 f1 f0
theorem q_300_15 {q0 : Nat} {n0 n1 n2 n3 n4 n5 n6 n7 n8 n9 n10 n11 n12 n13 n14 n15 n16 n17 n18 n19 n20 : Int} {H0 H1 : gH} (f0 : n0 ≤ 40) (f1 : 0 ≤ n0) (f2 : n1 ≤ 39) (f3 : 0 ≤ n1) (f4 : n2 ≤ 2147483647) (f5 : (-2147483648) ≤ n2) (f6 : n3 ≤ 2147483647) (f7 : (-2147483648) ≤ n3) (f8 : n4 ≤ 2147483647) (f9 : (-2147483648) ≤ n4) (f10 : n5 = 285) (f11 : n6 ≤ 2147483647) (f12 : (-2147483648) ≤ n6) (f13 : n7 ≤ 2147483647) (f14 : (-2147483648) ≤ n7) (f15 : n8 = 285) (f16 : (hLe T0 H0 H1 ∧ hFr s_300.2.2.2.2 H0 H1 ∧ hWt T0 H1) ∧ (Ab_300_39 n8 n7 n6 n5 n4 n3 n2 n1 n0 H0 H1 ∧ preb_300 n8 n7 n6 H0) ∧ some q0 = some (mub_300_39 n8 n7 n6 n5 n4 n3 n2 n1 n0 H0 H1)) (f17 : n9 ≤ 40) (f18 : 0 ≤ n9) (f19 : n9 = hV H1 (n5).toNat 82) (f20 : n0 < n9) (f21 : n10 = 298) (f22 : n10 = hV H1 (n5).toNat 24) (f23 : n11 = 344) (f24 : n11 = hV H1 (n5).toNat 83) (f25 : n12 ≤ 1007) (f26 : 0 ≤ n12) (f27 : n12 = hV H1 (n11).toNat (n1).toNat) (f28 : n13 ≤ 5) (f29 : 0 ≤ n13) (f30 : n13 = hV H1 (n10).toNat (n12).toNat) (f31 : n14 = 1) (f32 : n13 = n14) (f33 : n15 = 298) (f34 : n15 = hV H1 (n5).toNat 24) (f35 : n16 = 344) (f36 : n16 = hV H1 (n5).toNat 83) (f37 : n17 ≤ 1007) (f38 : 0 ≤ n17) (f39 : n17 = hV H1 (n16).toNat (n0).toNat) (f40 : n18 ≤ 5) (f41 : 0 ≤ n18) (f42 : n18 = hV H1 (n15).toNat (n17).toNat) (f43 : n19 = 1) (f44 : n18 ≠ n19) (f45 : n20 = w32 (n0 + 1)) : Ab_300_39 n8 n7 n6 n5 n4 n3 n2 n1 n20 H0 H1 ∧ ∀ q, some q0 = some q → mub_300_39 n8 n7 n6 n5 n4 n3 n2 n1 n20 H0 H1 < q := by
  have g4 := f16.2.1.1
  unfold Ab_300_39 at g4
  have g3 := f16.2.1.2
  unfold preb_300 at g3
  have g5 := Option.some.inj f16.2.2
  unfold mub_300_39 at g5
  unfold Ab_300_39
  unfold mub_300_39
  have e0 : n9 = hV H1 285 82 := (by rw [f10] at f19; exact f19 : n9 = hV H1 285 82)
  have e1 : n12 = hV H1 344 (n1).toNat := (by rw [f23] at f27; exact f27 : n12 = hV H1 344 (n1).toNat)
  have e3 : n13 = hV H0 298 (n12).toNat := (by rw [f21] at f30; exact f30 : n13 = hV H1 298 (n12).toNat).trans ((congrFun (fRow f16.1.2.1 298 kR_300_298) _))
  have e4 : n17 = hV H1 344 (n0).toNat := (by rw [f35] at f39; exact f39 : n17 = hV H1 344 (n0).toNat)
  have e5 : n18 = hV H0 298 (n17).toNat := (by rw [f33] at f42; exact f42 : n18 = hV H1 298 (n17).toNat).trans ((congrFun (fRow f16.1.2.1 298 kR_300_298) _))
  have e6 : (0 : Int) ≤ hV H1 285 82 ∧ hV H1 285 82 ≤ 40 := f16.1.2.2 285 82 _ _ kW_285_82
  have k0 := g4.1
  have k1 := g4.2.1
  have y0 := g4.2.2.1
  have y1 := g4.2.2.2
  have p0 := g3
  clear g3
  clear g4
  clear f19 f22 f24 f27 f30 f34 f36 f39 f42
  clear f16
  subst e0
  subst e1
  subst e3
  subst e4
  subst e5
  first
  | (have ix0 : n20 = n0 + 1 := Eq.trans f45 (w32_iv (Iad (Iat f1 f0) (IC 1)) (by decide)); subst ix0; clear f45)
  | (have ix0 : n20 = n0 + 1 := Eq.trans f45 (w32_id (by omega) (by omega)); subst ix0; clear f45)
  | (unfold w32 at f45; have ix0 : n20 = n0 + 1 := (by omega); subst ix0)
  | skip
  try unfold w32 at f45
  try subst k1
  try subst k0
  refine ⟨?_, fun q hq => ?_⟩
  · refine ⟨?_, ?_, ?_, ?_⟩ <;> first | assumption | omega | trivial
  · have g6 := Option.some.inj hq
    subst g6
    omega
def g_300_39_9 : vG := ([(10, [20, 8], [], 1), (41, [18, 19], [], 0), (0, [19], [], 1), (22, [18, 15, 17], [1], 0), (90, [18], [], 0), (91, [18], [], 5), (22, [17, 16, 8], [1], 0), (90, [17], [], 0), (91, [17], [], 1007), (20, [16, 3], [1], 83), (0, [16], [], 344), (20, [15, 3], [1], 24), (0, [15], [], 298), (40, [13, 14], [], 0), (0, [14], [], 1), (22, [13, 10, 12], [1], 0), (90, [13], [], 0), (91, [13], [], 5), (22, [12, 11, 7], [1], 0), (90, [12], [], 0), (91, [12], [], 1007), (20, [11, 3], [1], 83), (0, [11], [], 344), (20, [10, 3], [1], 24), (0, [10], [], 298), (42, [8, 9], [], 0), (20, [9, 3], [1], 82), (90, [9], [], 0), (91, [9], [], 40), (5000, [0, 1, 2, 3, 4, 5, 6, 7, 8], [0, 1], 39), (0, [0], [], 285), (90, [1], [], -2147483648), (91, [1], [], 2147483647), (90, [2], [], -2147483648), (91, [2], [], 2147483647), (0, [3], [], 285), (90, [4], [], -2147483648), (91, [4], [], 2147483647), (90, [5], [], -2147483648), (91, [5], [], 2147483647), (90, [6], [], -2147483648), (91, [6], [], 2147483647), (90, [7], [], 0), (91, [7], [], 39), (90, [8], [], 0), (91, [8], [], 40)], (4000, [3, 4, 5, 6, 7, 20], [1], 39))
theorem c_300_39_9 {q0 : Nat} : vOkm T0 (eP e_300 L_300 A_300 mu_300 (some q0)) 3 g_300_39_9 := vOk_inI fun ρ η f0 f1 f2 f3 f4 f5 f6 f7 f8 f9 f10 f11 f12 f13 f14 f15 f16 f17 f18 f19 f20 f21 f22 f23 f24 f25 f26 f27 f28 f29 f30 f31 f32 f33 f34 f35 f36 f37 f38 f39 f40 f41 f42 f43 f44 f45 => q_300_15 (q0 := q0) (n0 := ρ 8) (n1 := ρ 7) (n2 := ρ 6) (n3 := ρ 5) (n4 := ρ 4) (n5 := ρ 3) (n6 := ρ 2) (n7 := ρ 1) (n8 := ρ 0) (n9 := ρ 9) (n10 := ρ 10) (n11 := ρ 11) (n12 := ρ 12) (n13 := ρ 13) (n14 := ρ 14) (n15 := ρ 15) (n16 := ρ 16) (n17 := ρ 17) (n18 := ρ 18) (n19 := ρ 19) (n20 := ρ 20) (H0 := η 0) (H1 := η 1) f45 f44 f43 f42 f41 f40 f39 f38 f37 f36 f35 f34 f33 f32 f31 f30 f29 f28 f27 f26 f25 f24 f23 f22 f21 f20 f19 f18 f17 f16 f15 f14 f13 f12 f11 f10 f9 f8 f7 f6 f5 f4 f3 f2 f1 f0
def g_300_39_10 : vG := ([(42, [8, 9], [], 0), (91, [9], [], 40), (90, [8], [], 0)], (70, [8], [], 40))
theorem c_300_39_10 {q0 : Nat} : vOkm T0 (eP e_300 L_300 A_300 mu_300 (some q0)) 3 g_300_39_10 := vOk_inI fun ρ η f0 f1 f2 => q_300_14 (q0 := q0) (n0 := ρ 8) (n1 := ρ 9) (H0 := η 0) f2 f1 f0
def g_300_39_11 : vG := ([(42, [8, 9], [], 0), (91, [9], [], 40)], (91, [8], [], 39))
theorem c_300_39_11 {q0 : Nat} : vOkm T0 (eP e_300 L_300 A_300 mu_300 (some q0)) 3 g_300_39_11 := vOk_inI fun ρ η f0 f1 => q_300_4 (q0 := q0) (n0 := ρ 9) (n1 := ρ 8) (H0 := η 0) f1 f0
theorem kR_300_300 : vFreeR s_300.2.2.2.2 300 = true := by decide +kernel
theorem q_300_16 {q0 : Nat} {n0 n1 n2 n3 n4 n5 n6 n7 n8 n9 n10 n11 n12 n13 n14 n15 n16 n17 n18 n19 n20 n21 n22 n23 n24 n25 n26 n27 : Int} {H0 H1 : gH} (f0 : n0 ≤ 40) (f1 : 0 ≤ n0) (f2 : n1 ≤ 39) (f3 : 0 ≤ n1) (f4 : n2 ≤ 2147483647) (f5 : (-2147483648) ≤ n2) (f6 : n3 ≤ 2147483647) (f7 : (-2147483648) ≤ n3) (f8 : n4 ≤ 2147483647) (f9 : (-2147483648) ≤ n4) (f10 : n5 = 285) (f11 : n6 ≤ 2147483647) (f12 : (-2147483648) ≤ n6) (f13 : n7 ≤ 2147483647) (f14 : (-2147483648) ≤ n7) (f15 : n8 = 285) (f16 : (hLe T0 H0 H1 ∧ hFr s_300.2.2.2.2 H0 H1 ∧ hWt T0 H1) ∧ (Ab_300_39 n8 n7 n6 n5 n4 n3 n2 n1 n0 H0 H1 ∧ preb_300 n8 n7 n6 H0) ∧ some q0 = some (mub_300_39 n8 n7 n6 n5 n4 n3 n2 n1 n0 H0 H1)) (f17 : n9 ≤ 40) (f18 : 0 ≤ n9) (f19 : n9 = hV H1 (n5).toNat 82) (f20 : n0 < n9) (f21 : n10 = 298) (f22 : n10 = hV H1 (n5).toNat 24) (f23 : n11 = 344) (f24 : n11 = hV H1 (n5).toNat 83) (f25 : n12 ≤ 1007) (f26 : 0 ≤ n12) (f27 : n12 = hV H1 (n11).toNat (n1).toNat) (f28 : n13 ≤ 5) (f29 : 0 ≤ n13) (f30 : n13 = hV H1 (n10).toNat (n12).toNat) (f31 : n14 = 1) (f32 : n13 = n14) (f33 : n15 = 298) (f34 : n15 = hV H1 (n5).toNat 24) (f35 : n16 = 344) (f36 : n16 = hV H1 (n5).toNat 83) (f37 : n17 ≤ 1007) (f38 : 0 ≤ n17) (f39 : n17 = hV H1 (n16).toNat (n0).toNat) (f40 : n18 ≤ 5) (f41 : 0 ≤ n18) (f42 : n18 = hV H1 (n15).toNat (n17).toNat) (f43 : n19 = 1) (f44 : n18 = n19) (f45 : n20 = 300) (f46 : n20 = hV H1 (n5).toNat 26) (f47 : n21 = 344) (f48 : n21 = hV H1 (n5).toNat 83) (f49 : n22 ≤ 1007) (f50 : 0 ≤ n22) (f51 : n22 = hV H1 (n21).toNat (n1).toNat) (f52 : n23 ≤ 9999) (f53 : (-1) ≤ n23) (f54 : n23 = hV H1 (n20).toNat (n22).toNat) (f55 : n24 = 300) (f56 : n24 = hV H1 (n5).toNat 26) (f57 : n25 = 344) (f58 : n25 = hV H1 (n5).toNat 83) (f59 : n26 ≤ 1007) (f60 : 0 ≤ n26) (f61 : n26 = hV H1 (n25).toNat (n0).toNat) (f62 : n27 ≤ 9999) (f63 : (-1) ≤ n27) (f64 : n27 = hV H1 (n24).toNat (n26).toNat) (f65 : n23 = n27) : preb_271 n5 n0 H1 := by
  have g4 := f16.2.1.1
  unfold Ab_300_39 at g4
  have g3 := f16.2.1.2
  unfold preb_300 at g3
  unfold preb_271
  have e0 : n9 = hV H1 285 82 := (by rw [f10] at f19; exact f19 : n9 = hV H1 285 82)
  have e1 : n12 = hV H1 344 (n1).toNat := (by rw [f23] at f27; exact f27 : n12 = hV H1 344 (n1).toNat)
  have e2 : hV H1 298 = hV H0 298 := fRow f16.1.2.1 298 kR_300_298
  have e3 : n13 = hV H0 298 (n12).toNat := (by rw [f21] at f30; exact f30 : n13 = hV H1 298 (n12).toNat).trans ((congrFun e2 _))
  have e4 : n17 = hV H1 344 (n0).toNat := (by rw [f35] at f39; exact f39 : n17 = hV H1 344 (n0).toNat)
  have e5 : n18 = hV H0 298 (n17).toNat := (by rw [f33] at f42; exact f42 : n18 = hV H1 298 (n17).toNat).trans ((congrFun e2 _))
  have e6 : n22 = hV H1 344 (n1).toNat := (by rw [f47] at f51; exact f51 : n22 = hV H1 344 (n1).toNat)
  have e8 : n23 = hV H0 300 (n22).toNat := (by rw [f45] at f54; exact f54 : n23 = hV H1 300 (n22).toNat).trans ((congrFun (fRow f16.1.2.1 300 kR_300_300) _))
  have e9 : n26 = hV H1 344 (n0).toNat := (by rw [f57] at f61; exact f61 : n26 = hV H1 344 (n0).toNat)
  have e10 : n27 = hV H0 300 (n26).toNat := (by rw [f55] at f64; exact f64 : n27 = hV H1 300 (n26).toNat).trans ((congrFun (fRow f16.1.2.1 300 kR_300_300) _))
  have e11 : (0 : Int) ≤ hV H1 285 82 ∧ hV H1 285 82 ≤ 40 := f16.1.2.2 285 82 _ _ kW_285_82
  try simp only [e2]
  have k0 := g4.1
  have k1 := g4.2.1
  have y0 := g4.2.2.1
  have y1 := g4.2.2.2
  have p0 := g3
  clear g3
  clear g4
  clear f19 f22 f24 f27 f30 f34 f36 f39 f42 f46 f48 f51 f54 f56 f58 f61 f64 e2
  clear f16
  subst e0
  subst e1
  subst e3
  subst e4
  subst e5
  subst e6
  subst e8
  subst e9
  subst e10
  try subst k1
  try subst k0
  refine ⟨?_, ?_, ?_⟩ <;> first | assumption | omega | trivial
def g_300_39_12 : vG := ([(40, [23, 27], [], 0), (22, [27, 24, 26], [1], 0), (90, [27], [], -1), (91, [27], [], 9999), (22, [26, 25, 8], [1], 0), (90, [26], [], 0), (91, [26], [], 1007), (20, [25, 3], [1], 83), (0, [25], [], 344), (20, [24, 3], [1], 26), (0, [24], [], 300), (22, [23, 20, 22], [1], 0), (90, [23], [], -1), (91, [23], [], 9999), (22, [22, 21, 7], [1], 0), (90, [22], [], 0), (91, [22], [], 1007), (20, [21, 3], [1], 83), (0, [21], [], 344), (20, [20, 3], [1], 26), (0, [20], [], 300), (40, [18, 19], [], 0), (0, [19], [], 1), (22, [18, 15, 17], [1], 0), (90, [18], [], 0), (91, [18], [], 5), (22, [17, 16, 8], [1], 0), (90, [17], [], 0), (91, [17], [], 1007), (20, [16, 3], [1], 83), (0, [16], [], 344), (20, [15, 3], [1], 24), (0, [15], [], 298), (40, [13, 14], [], 0), (0, [14], [], 1), (22, [13, 10, 12], [1], 0), (90, [13], [], 0), (91, [13], [], 5), (22, [12, 11, 7], [1], 0), (90, [12], [], 0), (91, [12], [], 1007), (20, [11, 3], [1], 83), (0, [11], [], 344), (20, [10, 3], [1], 24), (0, [10], [], 298), (42, [8, 9], [], 0), (20, [9, 3], [1], 82), (90, [9], [], 0), (91, [9], [], 40), (5000, [0, 1, 2, 3, 4, 5, 6, 7, 8], [0, 1], 39), (0, [0], [], 285), (90, [1], [], -2147483648), (91, [1], [], 2147483647), (90, [2], [], -2147483648), (91, [2], [], 2147483647), (0, [3], [], 285), (90, [4], [], -2147483648), (91, [4], [], 2147483647), (90, [5], [], -2147483648), (91, [5], [], 2147483647), (90, [6], [], -2147483648), (91, [6], [], 2147483647), (90, [7], [], 0), (91, [7], [], 39), (90, [8], [], 0), (91, [8], [], 40)], (2271, [3, 8], [1], 0))
theorem c_300_39_12 {q0 : Nat} : vOkm T0 (eP e_300 L_300 A_300 mu_300 (some q0)) 3 g_300_39_12 := vOk_inI fun ρ η f0 f1 f2 f3 f4 f5 f6 f7 f8 f9 f10 f11 f12 f13 f14 f15 f16 f17 f18 f19 f20 f21 f22 f23 f24 f25 f26 f27 f28 f29 f30 f31 f32 f33 f34 f35 f36 f37 f38 f39 f40 f41 f42 f43 f44 f45 f46 f47 f48 f49 f50 f51 f52 f53 f54 f55 f56 f57 f58 f59 f60 f61 f62 f63 f64 f65 => q_300_16 (q0 := q0) (n0 := ρ 8) (n1 := ρ 7) (n2 := ρ 6) (n3 := ρ 5) (n4 := ρ 4) (n5 := ρ 3) (n6 := ρ 2) (n7 := ρ 1) (n8 := ρ 0) (n9 := ρ 9) (n10 := ρ 10) (n11 := ρ 11) (n12 := ρ 12) (n13 := ρ 13) (n14 := ρ 14) (n15 := ρ 15) (n16 := ρ 16) (n17 := ρ 17) (n18 := ρ 18) (n19 := ρ 19) (n20 := ρ 20) (n21 := ρ 21) (n22 := ρ 22) (n23 := ρ 23) (n24 := ρ 24) (n25 := ρ 25) (n26 := ρ 26) (n27 := ρ 27) (H0 := η 0) (H1 := η 1) f65 f64 f63 f62 f61 f60 f59 f58 f57 f56 f55 f54 f53 f52 f51 f50 f49 f48 f47 f46 f45 f44 f43 f42 f41 f40 f39 f38 f37 f36 f35 f34 f33 f32 f31 f30 f29 f28 f27 f26 f25 f24 f23 f22 f21 f20 f19 f18 f17 f16 f15 f14 f13 f12 f11 f10 f9 f8 f7 f6 f5 f4 f3 f2 f1 f0
theorem q_300_17 {q0 : Nat} {n0 n1 n2 n3 n4 n5 n6 n7 n8 n9 n10 n11 n12 n13 n14 n15 n16 n17 n18 n19 n20 n21 n22 n23 n24 n25 n26 n27 n28 : Int} {H0 H1 H2 : gH} (f0 : n0 ≤ 40) (f1 : 0 ≤ n0) (f2 : n1 ≤ 39) (f3 : 0 ≤ n1) (f4 : n2 ≤ 2147483647) (f5 : (-2147483648) ≤ n2) (f6 : n3 ≤ 2147483647) (f7 : (-2147483648) ≤ n3) (f8 : n4 ≤ 2147483647) (f9 : (-2147483648) ≤ n4) (f10 : n5 = 285) (f11 : n6 ≤ 2147483647) (f12 : (-2147483648) ≤ n6) (f13 : n7 ≤ 2147483647) (f14 : (-2147483648) ≤ n7) (f15 : n8 = 285) (f16 : (hLe T0 H0 H1 ∧ hFr s_300.2.2.2.2 H0 H1 ∧ hWt T0 H1) ∧ (Ab_300_39 n8 n7 n6 n5 n4 n3 n2 n1 n0 H0 H1 ∧ preb_300 n8 n7 n6 H0) ∧ some q0 = some (mub_300_39 n8 n7 n6 n5 n4 n3 n2 n1 n0 H0 H1)) (f17 : n9 ≤ 40) (f18 : 0 ≤ n9) (f19 : n9 = hV H1 (n5).toNat 82) (f20 : n0 < n9) (f21 : n10 = 298) (f22 : n10 = hV H1 (n5).toNat 24) (f23 : n11 = 344) (f24 : n11 = hV H1 (n5).toNat 83) (f25 : n12 ≤ 1007) (f26 : 0 ≤ n12) (f27 : n12 = hV H1 (n11).toNat (n1).toNat) (f28 : n13 ≤ 5) (f29 : 0 ≤ n13) (f30 : n13 = hV H1 (n10).toNat (n12).toNat) (f31 : n14 = 1) (f32 : n13 = n14) (f33 : n15 = 298) (f34 : n15 = hV H1 (n5).toNat 24) (f35 : n16 = 344) (f36 : n16 = hV H1 (n5).toNat 83) (f37 : n17 ≤ 1007) (f38 : 0 ≤ n17) (f39 : n17 = hV H1 (n16).toNat (n0).toNat) (f40 : n18 ≤ 5) (f41 : 0 ≤ n18) (f42 : n18 = hV H1 (n15).toNat (n17).toNat) (f43 : n19 = 1) (f44 : n18 = n19) (f45 : n20 = 300) (f46 : n20 = hV H1 (n5).toNat 26) (f47 : n21 = 344) (f48 : n21 = hV H1 (n5).toNat 83) (f49 : n22 ≤ 1007) (f50 : 0 ≤ n22) (f51 : n22 = hV H1 (n21).toNat (n1).toNat) (f52 : n23 ≤ 9999) (f53 : (-1) ≤ n23) (f54 : n23 = hV H1 (n20).toNat (n22).toNat) (f55 : n24 = 300) (f56 : n24 = hV H1 (n5).toNat 26) (f57 : n25 = 344) (f58 : n25 = hV H1 (n5).toNat 83) (f59 : n26 ≤ 1007) (f60 : 0 ≤ n26) (f61 : n26 = hV H1 (n25).toNat (n0).toNat) (f62 : n27 ≤ 9999) (f63 : (-1) ≤ n27) (f64 : n27 = hV H1 (n24).toNat (n26).toNat) (f65 : n23 = n27) (f66 : n28 ≤ 10999) (f67 : (-10999) ≤ n28) (f68 : (hLe T0 H1 H2 ∧ hFr s_271.2.2.2.2 H1 H2 ∧ ((0 : Int) = 0 → H2.length = H1.length) ∧ hWt T0 H2) ∧ True) : preb_271 n5 n1 H2 := by
  have g4 := f16.2.1.1
  unfold Ab_300_39 at g4
  have g3 := f16.2.1.2
  unfold preb_300 at g3
  unfold preb_271
  have e0 : n9 = hV H1 285 82 := (by rw [f10] at f19; exact f19 : n9 = hV H1 285 82)
  have e1 : n12 = hV H1 344 (n1).toNat := (by rw [f23] at f27; exact f27 : n12 = hV H1 344 (n1).toNat)
  have e3 : n13 = hV H0 298 (n12).toNat := (by rw [f21] at f30; exact f30 : n13 = hV H1 298 (n12).toNat).trans ((congrFun (fRow f16.1.2.1 298 kR_300_298) _))
  have e4 : n17 = hV H1 344 (n0).toNat := (by rw [f35] at f39; exact f39 : n17 = hV H1 344 (n0).toNat)
  have e5 : n18 = hV H0 298 (n17).toNat := (by rw [f33] at f42; exact f42 : n18 = hV H1 298 (n17).toNat).trans ((congrFun (fRow f16.1.2.1 298 kR_300_298) _))
  have e6 : n22 = hV H1 344 (n1).toNat := (by rw [f47] at f51; exact f51 : n22 = hV H1 344 (n1).toNat)
  have e8 : n23 = hV H0 300 (n22).toNat := (by rw [f45] at f54; exact f54 : n23 = hV H1 300 (n22).toNat).trans ((congrFun (fRow f16.1.2.1 300 kR_300_300) _))
  have e9 : n26 = hV H1 344 (n0).toNat := (by rw [f57] at f61; exact f61 : n26 = hV H1 344 (n0).toNat)
  have e10 : n27 = hV H0 300 (n26).toNat := (by rw [f55] at f64; exact f64 : n27 = hV H1 300 (n26).toNat).trans ((congrFun (fRow f16.1.2.1 300 kR_300_300) _))
  have e12 : hV H2 285 82 = hV H1 285 82 := (f68.1.2.1.1 285 82 kF_271_285_82)
  have e14 : hV H2 298 = hV H0 298 := (fRow f68.1.2.1 298 kR_271_298).trans (fRow f16.1.2.1 298 kR_300_298)
  have e15 : hV H2 344 = hV H1 344 := fRow f68.1.2.1 344 kR_271_344
  have e16 : XQ H2 = XQ H1 := XQ_fr f68.1.2.1 (by decide +kernel)
  have e17 : (0 : Int) ≤ hV H1 285 82 ∧ hV H1 285 82 ≤ 40 := f16.1.2.2 285 82 _ _ kW_285_82
  try simp only [e12, e14, e15, e16]
  have k0 := g4.1
  have k1 := g4.2.1
  have y0 := g4.2.2.1
  have y1 := g4.2.2.2
  have p0 := g3
  clear g3
  clear g4
  clear f19 f22 f24 f27 f30 f34 f36 f39 f42 f46 f48 f51 f54 f56 f58 f61 f64 e12 e14 e15 e16
  clear f16 f68
  subst e0
  subst e1
  subst e3
  subst e4
  subst e5
  subst e6
  subst e8
  subst e9
  subst e10
  try subst k1
  try subst k0
  refine ⟨?_, ?_, ?_⟩ <;> first | assumption | omega | trivial
def g_300_39_13 : vG := ([(1271, [28, 3, 8], [1, 2], 0), (90, [28], [], -10999), (91, [28], [], 10999), (40, [23, 27], [], 0), (22, [27, 24, 26], [1], 0), (90, [27], [], -1), (91, [27], [], 9999), (22, [26, 25, 8], [1], 0), (90, [26], [], 0), (91, [26], [], 1007), (20, [25, 3], [1], 83), (0, [25], [], 344), (20, [24, 3], [1], 26), (0, [24], [], 300), (22, [23, 20, 22], [1], 0), (90, [23], [], -1), (91, [23], [], 9999), (22, [22, 21, 7], [1], 0), (90, [22], [], 0), (91, [22], [], 1007), (20, [21, 3], [1], 83), (0, [21], [], 344), (20, [20, 3], [1], 26), (0, [20], [], 300), (40, [18, 19], [], 0), (0, [19], [], 1), (22, [18, 15, 17], [1], 0), (90, [18], [], 0), (91, [18], [], 5), (22, [17, 16, 8], [1], 0), (90, [17], [], 0), (91, [17], [], 1007), (20, [16, 3], [1], 83), (0, [16], [], 344), (20, [15, 3], [1], 24), (0, [15], [], 298), (40, [13, 14], [], 0), (0, [14], [], 1), (22, [13, 10, 12], [1], 0), (90, [13], [], 0), (91, [13], [], 5), (22, [12, 11, 7], [1], 0), (90, [12], [], 0), (91, [12], [], 1007), (20, [11, 3], [1], 83), (0, [11], [], 344), (20, [10, 3], [1], 24), (0, [10], [], 298), (42, [8, 9], [], 0), (20, [9, 3], [1], 82), (90, [9], [], 0), (91, [9], [], 40), (5000, [0, 1, 2, 3, 4, 5, 6, 7, 8], [0, 1], 39), (0, [0], [], 285), (90, [1], [], -2147483648), (91, [1], [], 2147483647), (90, [2], [], -2147483648), (91, [2], [], 2147483647), (0, [3], [], 285), (90, [4], [], -2147483648), (91, [4], [], 2147483647), (90, [5], [], -2147483648), (91, [5], [], 2147483647), (90, [6], [], -2147483648), (91, [6], [], 2147483647), (90, [7], [], 0), (91, [7], [], 39), (90, [8], [], 0), (91, [8], [], 40)], (2271, [3, 7], [2], 0))
theorem c_300_39_13 {q0 : Nat} : vOkm T0 (eP e_300 L_300 A_300 mu_300 (some q0)) 3 g_300_39_13 := vOk_inI fun ρ η f0 f1 f2 f3 f4 f5 f6 f7 f8 f9 f10 f11 f12 f13 f14 f15 f16 f17 f18 f19 f20 f21 f22 f23 f24 f25 f26 f27 f28 f29 f30 f31 f32 f33 f34 f35 f36 f37 f38 f39 f40 f41 f42 f43 f44 f45 f46 f47 f48 f49 f50 f51 f52 f53 f54 f55 f56 f57 f58 f59 f60 f61 f62 f63 f64 f65 f66 f67 f68 => q_300_17 (q0 := q0) (n0 := ρ 8) (n1 := ρ 7) (n2 := ρ 6) (n3 := ρ 5) (n4 := ρ 4) (n5 := ρ 3) (n6 := ρ 2) (n7 := ρ 1) (n8 := ρ 0) (n9 := ρ 9) (n10 := ρ 10) (n11 := ρ 11) (n12 := ρ 12) (n13 := ρ 13) (n14 := ρ 14) (n15 := ρ 15) (n16 := ρ 16) (n17 := ρ 17) (n18 := ρ 18) (n19 := ρ 19) (n20 := ρ 20) (n21 := ρ 21) (n22 := ρ 22) (n23 := ρ 23) (n24 := ρ 24) (n25 := ρ 25) (n26 := ρ 26) (n27 := ρ 27) (n28 := ρ 28) (H0 := η 0) (H1 := η 1) (H2 := η 2) f68 f67 f66 f65 f64 f63 f62 f61 f60 f59 f58 f57 f56 f55 f54 f53 f52 f51 f50 f49 f48 f47 f46 f45 f44 f43 f42 f41 f40 f39 f38 f37 f36 f35 f34 f33 f32 f31 f30 f29 f28 f27 f26 f25 f24 f23 f22 f21 f20 f19 f18 f17 f16 f15 f14 f13 f12 f11 f10 f9 f8 f7 f6 f5 f4 f3 f2 f1 f0
theorem q_300_18 {q0 : Nat} {n0 n1 n2 n3 n4 n5 n6 n7 n8 n9 n10 n11 n12 n13 n14 n15 n16 n17 n18 n19 n20 n21 n22 n23 n24 n25 n26 n27 n28 n29 : Int} {H0 H1 H2 H3 : gH} (f0 : n0 ≤ 40) (f1 : 0 ≤ n0) (f2 : n1 ≤ 39) (f3 : 0 ≤ n1) (f4 : n2 ≤ 2147483647) (f5 : (-2147483648) ≤ n2) (f6 : n3 ≤ 2147483647) (f7 : (-2147483648) ≤ n3) (f8 : n4 ≤ 2147483647) (f9 : (-2147483648) ≤ n4) (f10 : n5 = 285) (f11 : n6 ≤ 2147483647) (f12 : (-2147483648) ≤ n6) (f13 : n7 ≤ 2147483647) (f14 : (-2147483648) ≤ n7) (f15 : n8 = 285) (f16 : (hLe T0 H0 H1 ∧ hFr s_300.2.2.2.2 H0 H1 ∧ hWt T0 H1) ∧ (Ab_300_39 n8 n7 n6 n5 n4 n3 n2 n1 n0 H0 H1 ∧ preb_300 n8 n7 n6 H0) ∧ some q0 = some (mub_300_39 n8 n7 n6 n5 n4 n3 n2 n1 n0 H0 H1)) (f17 : n9 ≤ 40) (f18 : 0 ≤ n9) (f19 : n9 = hV H1 (n5).toNat 82) (f20 : n0 < n9) (f21 : n10 = 298) (f22 : n10 = hV H1 (n5).toNat 24) (f23 : n11 = 344) (f24 : n11 = hV H1 (n5).toNat 83) (f25 : n12 ≤ 1007) (f26 : 0 ≤ n12) (f27 : n12 = hV H1 (n11).toNat (n1).toNat) (f28 : n13 ≤ 5) (f29 : 0 ≤ n13) (f30 : n13 = hV H1 (n10).toNat (n12).toNat) (f31 : n14 = 1) (f32 : n13 = n14) (f33 : n15 = 298) (f34 : n15 = hV H1 (n5).toNat 24) (f35 : n16 = 344) (f36 : n16 = hV H1 (n5).toNat 83) (f37 : n17 ≤ 1007) (f38 : 0 ≤ n17) (f39 : n17 = hV H1 (n16).toNat (n0).toNat) (f40 : n18 ≤ 5) (f41 : 0 ≤ n18) (f42 : n18 = hV H1 (n15).toNat (n17).toNat) (f43 : n19 = 1) (f44 : n18 = n19) (f45 : n20 = 300) (f46 : n20 = hV H1 (n5).toNat 26) (f47 : n21 = 344) (f48 : n21 = hV H1 (n5).toNat 83) (f49 : n22 ≤ 1007) (f50 : 0 ≤ n22) (f51 : n22 = hV H1 (n21).toNat (n1).toNat) (f52 : n23 ≤ 9999) (f53 : (-1) ≤ n23) (f54 : n23 = hV H1 (n20).toNat (n22).toNat) (f55 : n24 = 300) (f56 : n24 = hV H1 (n5).toNat 26) (f57 : n25 = 344) (f58 : n25 = hV H1 (n5).toNat 83) (f59 : n26 ≤ 1007) (f60 : 0 ≤ n26) (f61 : n26 = hV H1 (n25).toNat (n0).toNat) (f62 : n27 ≤ 9999) (f63 : (-1) ≤ n27) (f64 : n27 = hV H1 (n24).toNat (n26).toNat) (f65 : n23 = n27) (f66 : n28 ≤ 10999) (f67 : (-10999) ≤ n28) (f68 : (hLe T0 H1 H2 ∧ hFr s_271.2.2.2.2 H1 H2 ∧ ((0 : Int) = 0 → H2.length = H1.length) ∧ hWt T0 H2) ∧ True) (f69 : n29 ≤ 10999) (f70 : (-10999) ≤ n29) (f71 : (hLe T0 H2 H3 ∧ hFr s_271.2.2.2.2 H2 H3 ∧ ((0 : Int) = 0 → H3.length = H2.length) ∧ hWt T0 H3) ∧ True) (f72 : n29 ≤ n28) (f73 : n1 ≠ n1) : preb_271 n5 n1 H3 := by
  have g4 := f16.2.1.1
  unfold Ab_300_39 at g4
  have g3 := f16.2.1.2
  unfold preb_300 at g3
  unfold preb_271
  have e0 : n9 = hV H1 285 82 := (by rw [f10] at f19; exact f19 : n9 = hV H1 285 82)
  have e1 : n12 = hV H1 344 (n1).toNat := (by rw [f23] at f27; exact f27 : n12 = hV H1 344 (n1).toNat)
  have e3 : n13 = hV H0 298 (n12).toNat := (by rw [f21] at f30; exact f30 : n13 = hV H1 298 (n12).toNat).trans ((congrFun (fRow f16.1.2.1 298 kR_300_298) _))
  have e4 : n17 = hV H1 344 (n0).toNat := (by rw [f35] at f39; exact f39 : n17 = hV H1 344 (n0).toNat)
  have e5 : n18 = hV H0 298 (n17).toNat := (by rw [f33] at f42; exact f42 : n18 = hV H1 298 (n17).toNat).trans ((congrFun (fRow f16.1.2.1 298 kR_300_298) _))
  have e6 : n22 = hV H1 344 (n1).toNat := (by rw [f47] at f51; exact f51 : n22 = hV H1 344 (n1).toNat)
  have e8 : n23 = hV H0 300 (n22).toNat := (by rw [f45] at f54; exact f54 : n23 = hV H1 300 (n22).toNat).trans ((congrFun (fRow f16.1.2.1 300 kR_300_300) _))
  have e9 : n26 = hV H1 344 (n0).toNat := (by rw [f57] at f61; exact f61 : n26 = hV H1 344 (n0).toNat)
  have e10 : n27 = hV H0 300 (n26).toNat := (by rw [f55] at f64; exact f64 : n27 = hV H1 300 (n26).toNat).trans ((congrFun (fRow f16.1.2.1 300 kR_300_300) _))
  have e13 : hV H3 285 82 = hV H1 285 82 := ((f71.1.2.1.1 285 82 kF_271_285_82)).trans (f68.1.2.1.1 285 82 kF_271_285_82)
  have e17 : hV H3 298 = hV H0 298 := (fRow f71.1.2.1 298 kR_271_298).trans ((fRow f68.1.2.1 298 kR_271_298).trans (fRow f16.1.2.1 298 kR_300_298))
  have e20 : hV H3 344 = hV H1 344 := (fRow f71.1.2.1 344 kR_271_344).trans (fRow f68.1.2.1 344 kR_271_344)
  have e21 : XQ H2 = XQ H1 := XQ_fr f68.1.2.1 (by decide +kernel)
  have e22 : XQ H3 = XQ H2 := XQ_fr f71.1.2.1 (by decide +kernel)
  have e23 : XQ H3 = XQ H1 := e22.trans e21
  have e24 : (0 : Int) ≤ hV H1 285 82 ∧ hV H1 285 82 ≤ 40 := f16.1.2.2 285 82 _ _ kW_285_82
  try simp only [e13, e17, e20, e23]
  have k0 := g4.1
  have k1 := g4.2.1
  have y0 := g4.2.2.1
  have y1 := g4.2.2.2
  have p0 := g3
  clear g3
  clear g4
  clear f19 f22 f24 f27 f30 f34 f36 f39 f42 f46 f48 f51 f54 f56 f58 f61 f64 e13 e17 e20 e21 e22 e23
  clear f16 f68 f71
  subst e0
  subst e1
  subst e3
  subst e4
  subst e5
  subst e6
  subst e8
  subst e9
  subst e10
  try subst k1
  try subst k0
  refine ⟨?_, ?_, ?_⟩ <;> first | assumption | omega | trivial
def g_300_39_14 : vG := ([(41, [7, 7], [], 0), (43, [28, 29], [], 0), (1271, [29, 3, 7], [2, 3], 0), (90, [29], [], -10999), (91, [29], [], 10999), (1271, [28, 3, 8], [1, 2], 0), (90, [28], [], -10999), (91, [28], [], 10999), (40, [23, 27], [], 0), (22, [27, 24, 26], [1], 0), (90, [27], [], -1), (91, [27], [], 9999), (22, [26, 25, 8], [1], 0), (90, [26], [], 0), (91, [26], [], 1007), (20, [25, 3], [1], 83), (0, [25], [], 344), (20, [24, 3], [1], 26), (0, [24], [], 300), (22, [23, 20, 22], [1], 0), (90, [23], [], -1), (91, [23], [], 9999), (22, [22, 21, 7], [1], 0), (90, [22], [], 0), (91, [22], [], 1007), (20, [21, 3], [1], 83), (0, [21], [], 344), (20, [20, 3], [1], 26), (0, [20], [], 300), (40, [18, 19], [], 0), (0, [19], [], 1), (22, [18, 15, 17], [1], 0), (90, [18], [], 0), (91, [18], [], 5), (22, [17, 16, 8], [1], 0), (90, [17], [], 0), (91, [17], [], 1007), (20, [16, 3], [1], 83), (0, [16], [], 344), (20, [15, 3], [1], 24), (0, [15], [], 298), (40, [13, 14], [], 0), (0, [14], [], 1), (22, [13, 10, 12], [1], 0), (90, [13], [], 0), (91, [13], [], 5), (22, [12, 11, 7], [1], 0), (90, [12], [], 0), (91, [12], [], 1007), (20, [11, 3], [1], 83), (0, [11], [], 344), (20, [10, 3], [1], 24), (0, [10], [], 298), (42, [8, 9], [], 0), (20, [9, 3], [1], 82), (90, [9], [], 0), (91, [9], [], 40), (5000, [0, 1, 2, 3, 4, 5, 6, 7, 8], [0, 1], 39), (0, [0], [], 285), (90, [1], [], -2147483648), (91, [1], [], 2147483647), (90, [2], [], -2147483648), (91, [2], [], 2147483647), (0, [3], [], 285), (90, [4], [], -2147483648), (91, [4], [], 2147483647), (90, [5], [], -2147483648), (91, [5], [], 2147483647), (90, [6], [], -2147483648), (91, [6], [], 2147483647), (90, [7], [], 0), (91, [7], [], 39), (90, [8], [], 0), (91, [8], [], 40)], (2271, [3, 7], [3], 0))
theorem c_300_39_14 {q0 : Nat} : vOkm T0 (eP e_300 L_300 A_300 mu_300 (some q0)) 3 g_300_39_14 := vOk_inI fun ρ η f0 f1 f2 f3 f4 f5 f6 f7 f8 f9 f10 f11 f12 f13 f14 f15 f16 f17 f18 f19 f20 f21 f22 f23 f24 f25 f26 f27 f28 f29 f30 f31 f32 f33 f34 f35 f36 f37 f38 f39 f40 f41 f42 f43 f44 f45 f46 f47 f48 f49 f50 f51 f52 f53 f54 f55 f56 f57 f58 f59 f60 f61 f62 f63 f64 f65 f66 f67 f68 f69 f70 f71 f72 f73 => q_300_18 (q0 := q0) (n0 := ρ 8) (n1 := ρ 7) (n2 := ρ 6) (n3 := ρ 5) (n4 := ρ 4) (n5 := ρ 3) (n6 := ρ 2) (n7 := ρ 1) (n8 := ρ 0) (n9 := ρ 9) (n10 := ρ 10) (n11 := ρ 11) (n12 := ρ 12) (n13 := ρ 13) (n14 := ρ 14) (n15 := ρ 15) (n16 := ρ 16) (n17 := ρ 17) (n18 := ρ 18) (n19 := ρ 19) (n20 := ρ 20) (n21 := ρ 21) (n22 := ρ 22) (n23 := ρ 23) (n24 := ρ 24) (n25 := ρ 25) (n26 := ρ 26) (n27 := ρ 27) (n28 := ρ 28) (n29 := ρ 29) (H0 := η 0) (H1 := η 1) (H2 := η 2) (H3 := η 3) f73 f72 f71 f70 f69 f68 f67 f66 f65 f64 f63 f62 f61 f60 f59 f58 f57 f56 f55 f54 f53 f52 f51 f50 f49 f48 f47 f46 f45 f44 f43 f42 f41 f40 f39 f38 f37 f36 f35 f34 f33 f32 f31 f30 f29 f28 f27 f26 f25 f24 f23 f22 f21 f20 f19 f18 f17 f16 f15 f14 f13 f12 f11 f10 f9 f8 f7 f6 f5 f4 f3 f2 f1 f0
theorem q_300_19 {q0 : Nat} {n0 n1 n2 n3 n4 n5 n6 n7 n8 n9 n10 n11 n12 n13 n14 n15 n16 n17 n18 n19 n20 n21 n22 n23 n24 n25 n26 n27 n28 n29 n30 : Int} {H0 H1 H2 H3 H4 : gH} (f0 : n0 ≤ 40) (f1 : 0 ≤ n0) (f2 : n1 ≤ 39) (f3 : 0 ≤ n1) (f4 : n2 ≤ 2147483647) (f5 : (-2147483648) ≤ n2) (f6 : n3 ≤ 2147483647) (f7 : (-2147483648) ≤ n3) (f8 : n4 ≤ 2147483647) (f9 : (-2147483648) ≤ n4) (f10 : n5 = 285) (f11 : n6 ≤ 2147483647) (f12 : (-2147483648) ≤ n6) (f13 : n7 ≤ 2147483647) (f14 : (-2147483648) ≤ n7) (f15 : n8 = 285) (f16 : (hLe T0 H0 H1 ∧ hFr s_300.2.2.2.2 H0 H1 ∧ hWt T0 H1) ∧ (Ab_300_39 n8 n7 n6 n5 n4 n3 n2 n1 n0 H0 H1 ∧ preb_300 n8 n7 n6 H0) ∧ some q0 = some (mub_300_39 n8 n7 n6 n5 n4 n3 n2 n1 n0 H0 H1)) (f17 : n9 ≤ 40) (f18 : 0 ≤ n9) (f19 : n9 = hV H1 (n5).toNat 82) (f20 : n0 < n9) (f21 : n10 = 298) (f22 : n10 = hV H1 (n5).toNat 24) (f23 : n11 = 344) (f24 : n11 = hV H1 (n5).toNat 83) (f25 : n12 ≤ 1007) (f26 : 0 ≤ n12) (f27 : n12 = hV H1 (n11).toNat (n1).toNat) (f28 : n13 ≤ 5) (f29 : 0 ≤ n13) (f30 : n13 = hV H1 (n10).toNat (n12).toNat) (f31 : n14 = 1) (f32 : n13 = n14) (f33 : n15 = 298) (f34 : n15 = hV H1 (n5).toNat 24) (f35 : n16 = 344) (f36 : n16 = hV H1 (n5).toNat 83) (f37 : n17 ≤ 1007) (f38 : 0 ≤ n17) (f39 : n17 = hV H1 (n16).toNat (n0).toNat) (f40 : n18 ≤ 5) (f41 : 0 ≤ n18) (f42 : n18 = hV H1 (n15).toNat (n17).toNat) (f43 : n19 = 1) (f44 : n18 = n19) (f45 : n20 = 300) (f46 : n20 = hV H1 (n5).toNat 26) (f47 : n21 = 344) (f48 : n21 = hV H1 (n5).toNat 83) (f49 : n22 ≤ 1007) (f50 : 0 ≤ n22) (f51 : n22 = hV H1 (n21).toNat (n1).toNat) (f52 : n23 ≤ 9999) (f53 : (-1) ≤ n23) (f54 : n23 = hV H1 (n20).toNat (n22).toNat) (f55 : n24 = 300) (f56 : n24 = hV H1 (n5).toNat 26) (f57 : n25 = 344) (f58 : n25 = hV H1 (n5).toNat 83) (f59 : n26 ≤ 1007) (f60 : 0 ≤ n26) (f61 : n26 = hV H1 (n25).toNat (n0).toNat) (f62 : n27 ≤ 9999) (f63 : (-1) ≤ n27) (f64 : n27 = hV H1 (n24).toNat (n26).toNat) (f65 : n23 = n27) (f66 : n28 ≤ 10999) (f67 : (-10999) ≤ n28) (f68 : (hLe T0 H1 H2 ∧ hFr s_271.2.2.2.2 H1 H2 ∧ ((0 : Int) = 0 → H2.length = H1.length) ∧ hWt T0 H2) ∧ True) (f69 : n29 ≤ 10999) (f70 : (-10999) ≤ n29) (f71 : (hLe T0 H2 H3 ∧ hFr s_271.2.2.2.2 H2 H3 ∧ ((0 : Int) = 0 → H3.length = H2.length) ∧ hWt T0 H3) ∧ True) (f72 : n29 ≤ n28) (f73 : n1 ≠ n1) (f74 : n30 ≤ 10999) (f75 : (-10999) ≤ n30) (f76 : (hLe T0 H3 H4 ∧ hFr s_271.2.2.2.2 H3 H4 ∧ ((0 : Int) = 0 → H4.length = H3.length) ∧ hWt T0 H4) ∧ True) : preb_272 n5 n1 H4 := by
  have g4 := f16.2.1.1
  unfold Ab_300_39 at g4
  have g3 := f16.2.1.2
  unfold preb_300 at g3
  unfold preb_272
  have e0 : n9 = hV H1 285 82 := (by rw [f10] at f19; exact f19 : n9 = hV H1 285 82)
  have e1 : n12 = hV H1 344 (n1).toNat := (by rw [f23] at f27; exact f27 : n12 = hV H1 344 (n1).toNat)
  have e3 : n13 = hV H0 298 (n12).toNat := (by rw [f21] at f30; exact f30 : n13 = hV H1 298 (n12).toNat).trans ((congrFun (fRow f16.1.2.1 298 kR_300_298) _))
  have e4 : n17 = hV H1 344 (n0).toNat := (by rw [f35] at f39; exact f39 : n17 = hV H1 344 (n0).toNat)
  have e5 : n18 = hV H0 298 (n17).toNat := (by rw [f33] at f42; exact f42 : n18 = hV H1 298 (n17).toNat).trans ((congrFun (fRow f16.1.2.1 298 kR_300_298) _))
  have e6 : n22 = hV H1 344 (n1).toNat := (by rw [f47] at f51; exact f51 : n22 = hV H1 344 (n1).toNat)
  have e8 : n23 = hV H0 300 (n22).toNat := (by rw [f45] at f54; exact f54 : n23 = hV H1 300 (n22).toNat).trans ((congrFun (fRow f16.1.2.1 300 kR_300_300) _))
  have e9 : n26 = hV H1 344 (n0).toNat := (by rw [f57] at f61; exact f61 : n26 = hV H1 344 (n0).toNat)
  have e10 : n27 = hV H0 300 (n26).toNat := (by rw [f55] at f64; exact f64 : n27 = hV H1 300 (n26).toNat).trans ((congrFun (fRow f16.1.2.1 300 kR_300_300) _))
  have e14 : hV H4 285 82 = hV H1 285 82 := ((f76.1.2.1.1 285 82 kF_271_285_82)).trans (((f71.1.2.1.1 285 82 kF_271_285_82)).trans (f68.1.2.1.1 285 82 kF_271_285_82))
  have e20 : hV H4 298 = hV H0 298 := (fRow f76.1.2.1 298 kR_271_298).trans ((fRow f71.1.2.1 298 kR_271_298).trans ((fRow f68.1.2.1 298 kR_271_298).trans (fRow f16.1.2.1 298 kR_300_298)))
  have e25 : hV H4 344 = hV H1 344 := (fRow f76.1.2.1 344 kR_271_344).trans ((fRow f71.1.2.1 344 kR_271_344).trans (fRow f68.1.2.1 344 kR_271_344))
  have e26 : XQ H2 = XQ H1 := XQ_fr f68.1.2.1 (by decide +kernel)
  have e27 : XQ H3 = XQ H2 := XQ_fr f71.1.2.1 (by decide +kernel)
  have e28 : XQ H3 = XQ H1 := e27.trans e26
  have e29 : XQ H4 = XQ H3 := XQ_fr f76.1.2.1 (by decide +kernel)
  have e30 : XQ H4 = XQ H1 := e29.trans e28
  have e31 : (0 : Int) ≤ hV H1 285 82 ∧ hV H1 285 82 ≤ 40 := f16.1.2.2 285 82 _ _ kW_285_82
  try simp only [e14, e20, e25, e30]
  have k0 := g4.1
  have k1 := g4.2.1
  have y0 := g4.2.2.1
  have y1 := g4.2.2.2
  have p0 := g3
  clear g3
  clear g4
  clear f19 f22 f24 f27 f30 f34 f36 f39 f42 f46 f48 f51 f54 f56 f58 f61 f64 e14 e20 e25 e26 e27 e28 e29 e30
  clear f16 f68 f71 f76
  subst e0
  subst e1
  subst e3
  subst e4
  subst e5
  subst e6
  subst e8
  subst e9
  subst e10
  try subst k1
  try subst k0
  refine ⟨?_, ?_, ?_⟩ <;> first | assumption | omega | trivial
def g_300_39_15 : vG := ([(1271, [30, 3, 7], [3, 4], 0), (90, [30], [], -10999), (91, [30], [], 10999), (41, [7, 7], [], 0), (43, [28, 29], [], 0), (1271, [29, 3, 7], [2, 3], 0), (90, [29], [], -10999), (91, [29], [], 10999), (1271, [28, 3, 8], [1, 2], 0), (90, [28], [], -10999), (91, [28], [], 10999), (40, [23, 27], [], 0), (22, [27, 24, 26], [1], 0), (90, [27], [], -1), (91, [27], [], 9999), (22, [26, 25, 8], [1], 0), (90, [26], [], 0), (91, [26], [], 1007), (20, [25, 3], [1], 83), (0, [25], [], 344), (20, [24, 3], [1], 26), (0, [24], [], 300), (22, [23, 20, 22], [1], 0), (90, [23], [], -1), (91, [23], [], 9999), (22, [22, 21, 7], [1], 0), (90, [22], [], 0), (91, [22], [], 1007), (20, [21, 3], [1], 83), (0, [21], [], 344), (20, [20, 3], [1], 26), (0, [20], [], 300), (40, [18, 19], [], 0), (0, [19], [], 1), (22, [18, 15, 17], [1], 0), (90, [18], [], 0), (91, [18], [], 5), (22, [17, 16, 8], [1], 0), (90, [17], [], 0), (91, [17], [], 1007), (20, [16, 3], [1], 83), (0, [16], [], 344), (20, [15, 3], [1], 24), (0, [15], [], 298), (40, [13, 14], [], 0), (0, [14], [], 1), (22, [13, 10, 12], [1], 0), (90, [13], [], 0), (91, [13], [], 5), (22, [12, 11, 7], [1], 0), (90, [12], [], 0), (91, [12], [], 1007), (20, [11, 3], [1], 83), (0, [11], [], 344), (20, [10, 3], [1], 24), (0, [10], [], 298), (42, [8, 9], [], 0), (20, [9, 3], [1], 82), (90, [9], [], 0), (91, [9], [], 40), (5000, [0, 1, 2, 3, 4, 5, 6, 7, 8], [0, 1], 39), (0, [0], [], 285), (90, [1], [], -2147483648), (91, [1], [], 2147483647), (90, [2], [], -2147483648), (91, [2], [], 2147483647), (0, [3], [], 285), (90, [4], [], -2147483648), (91, [4], [], 2147483647), (90, [5], [], -2147483648), (91, [5], [], 2147483647), (90, [6], [], -2147483648), (91, [6], [], 2147483647), (90, [7], [], 0), (91, [7], [], 39), (90, [8], [], 0), (91, [8], [], 40)], (2272, [3, 7], [4], 0))
theorem c_300_39_15 {q0 : Nat} : vOkm T0 (eP e_300 L_300 A_300 mu_300 (some q0)) 3 g_300_39_15 := vOk_inI fun ρ η f0 f1 f2 f3 f4 f5 f6 f7 f8 f9 f10 f11 f12 f13 f14 f15 f16 f17 f18 f19 f20 f21 f22 f23 f24 f25 f26 f27 f28 f29 f30 f31 f32 f33 f34 f35 f36 f37 f38 f39 f40 f41 f42 f43 f44 f45 f46 f47 f48 f49 f50 f51 f52 f53 f54 f55 f56 f57 f58 f59 f60 f61 f62 f63 f64 f65 f66 f67 f68 f69 f70 f71 f72 f73 f74 f75 f76 => q_300_19 (q0 := q0) (n0 := ρ 8) (n1 := ρ 7) (n2 := ρ 6) (n3 := ρ 5) (n4 := ρ 4) (n5 := ρ 3) (n6 := ρ 2) (n7 := ρ 1) (n8 := ρ 0) (n9 := ρ 9) (n10 := ρ 10) (n11 := ρ 11) (n12 := ρ 12) (n13 := ρ 13) (n14 := ρ 14) (n15 := ρ 15) (n16 := ρ 16) (n17 := ρ 17) (n18 := ρ 18) (n19 := ρ 19) (n20 := ρ 20) (n21 := ρ 21) (n22 := ρ 22) (n23 := ρ 23) (n24 := ρ 24) (n25 := ρ 25) (n26 := ρ 26) (n27 := ρ 27) (n28 := ρ 28) (n29 := ρ 29) (n30 := ρ 30) (H0 := η 0) (H1 := η 1) (H2 := η 2) (H3 := η 3) (H4 := η 4) f76 f75 f74 f73 f72 f71 f70 f69 f68 f67 f66 f65 f64 f63 f62 f61 f60 f59 f58 f57 f56 f55 f54 f53 f52 f51 f50 f49 f48 f47 f46 f45 f44 f43 f42 f41 f40 f39 f38 f37 f36 f35 f34 f33 f32 f31 f30 f29 f28 f27 f26 f25 f24 f23 f22 f21 f20 f19 f18 f17 f16 f15 f14 f13 f12 f11 f10 f9 f8 f7 f6 f5 f4 f3 f2 f1 f0
theorem q_300_20 {q0 : Nat} {n0 n1 : Int} {H0 : gH} (f0 : n0 ≠ n0) : 0 ≤ n1 := by
  omega
def g_300_39_16 : vG := ([(41, [7, 7], [], 0)], (90, [33], [], 0))
theorem c_300_39_16 {q0 : Nat} : vOkm T0 (eP e_300 L_300 A_300 mu_300 (some q0)) 3 g_300_39_16 := vOk_inI fun ρ η f0 => q_300_20 (q0 := q0) (n0 := ρ 7) (n1 := ρ 33) (H0 := η 0) f0
theorem q_300_21 {q0 : Nat} {n0 n1 : Int} {H0 : gH} (f0 : n0 ≠ n0) : n1 ≤ 40 := by
  omega
def g_300_39_17 : vG := ([(41, [7, 7], [], 0)], (91, [33], [], 40))
theorem c_300_39_17 {q0 : Nat} : vOkm T0 (eP e_300 L_300 A_300 mu_300 (some q0)) 3 g_300_39_17 := vOk_inI fun ρ η f0 => q_300_21 (q0 := q0) (n0 := ρ 7) (n1 := ρ 33) (H0 := η 0) f0
theorem kF_272_285_82 : vFree s_272.2.2.2.2 285 82 = true := by decide +kernel
theorem q_300_22 {q0 : Nat} {n0 n1 n2 n3 n4 n5 n6 n7 n8 n9 n10 n11 n12 n13 n14 n15 n16 n17 n18 n19 n20 n21 n22 n23 n24 n25 n26 n27 n28 n29 n30 n31 n32 n33 : Int} {H0 H1 H2 H3 H4 H5 : gH} (f0 : n0 ≤ 40) (f1 : 0 ≤ n0) (f2 : n1 ≤ 39) (f3 : 0 ≤ n1) (f4 : n2 ≤ 2147483647) (f5 : (-2147483648) ≤ n2) (f6 : n3 ≤ 2147483647) (f7 : (-2147483648) ≤ n3) (f8 : n4 ≤ 2147483647) (f9 : (-2147483648) ≤ n4) (f10 : n5 = 285) (f11 : n6 ≤ 2147483647) (f12 : (-2147483648) ≤ n6) (f13 : n7 ≤ 2147483647) (f14 : (-2147483648) ≤ n7) (f15 : n8 = 285) (f16 : (hLe T0 H0 H1 ∧ hFr s_300.2.2.2.2 H0 H1 ∧ hWt T0 H1) ∧ (Ab_300_39 n8 n7 n6 n5 n4 n3 n2 n1 n0 H0 H1 ∧ preb_300 n8 n7 n6 H0) ∧ some q0 = some (mub_300_39 n8 n7 n6 n5 n4 n3 n2 n1 n0 H0 H1)) (f17 : n9 ≤ 40) (f18 : 0 ≤ n9) (f19 : n9 = hV H1 (n5).toNat 82) (f20 : n0 < n9) (f21 : n10 = 298) (f22 : n10 = hV H1 (n5).toNat 24) (f23 : n11 = 344) (f24 : n11 = hV H1 (n5).toNat 83) (f25 : n12 ≤ 1007) (f26 : 0 ≤ n12) (f27 : n12 = hV H1 (n11).toNat (n1).toNat) (f28 : n13 ≤ 5) (f29 : 0 ≤ n13) (f30 : n13 = hV H1 (n10).toNat (n12).toNat) (f31 : n14 = 1) (f32 : n13 = n14) (f33 : n15 = 298) (f34 : n15 = hV H1 (n5).toNat 24) (f35 : n16 = 344) (f36 : n16 = hV H1 (n5).toNat 83) (f37 : n17 ≤ 1007) (f38 : 0 ≤ n17) (f39 : n17 = hV H1 (n16).toNat (n0).toNat) (f40 : n18 ≤ 5) (f41 : 0 ≤ n18) (f42 : n18 = hV H1 (n15).toNat (n17).toNat) (f43 : n19 = 1) (f44 : n18 = n19) (f45 : n20 = 300) (f46 : n20 = hV H1 (n5).toNat 26) (f47 : n21 = 344) (f48 : n21 = hV H1 (n5).toNat 83) (f49 : n22 ≤ 1007) (f50 : 0 ≤ n22) (f51 : n22 = hV H1 (n21).toNat (n1).toNat) (f52 : n23 ≤ 9999) (f53 : (-1) ≤ n23) (f54 : n23 = hV H1 (n20).toNat (n22).toNat) (f55 : n24 = 300) (f56 : n24 = hV H1 (n5).toNat 26) (f57 : n25 = 344) (f58 : n25 = hV H1 (n5).toNat 83) (f59 : n26 ≤ 1007) (f60 : 0 ≤ n26) (f61 : n26 = hV H1 (n25).toNat (n0).toNat) (f62 : n27 ≤ 9999) (f63 : (-1) ≤ n27) (f64 : n27 = hV H1 (n24).toNat (n26).toNat) (f65 : n23 = n27) (f66 : n28 ≤ 10999) (f67 : (-10999) ≤ n28) (f68 : (hLe T0 H1 H2 ∧ hFr s_271.2.2.2.2 H1 H2 ∧ ((0 : Int) = 0 → H2.length = H1.length) ∧ hWt T0 H2) ∧ True) (f69 : n29 ≤ 10999) (f70 : (-10999) ≤ n29) (f71 : (hLe T0 H2 H3 ∧ hFr s_271.2.2.2.2 H2 H3 ∧ ((0 : Int) = 0 → H3.length = H2.length) ∧ hWt T0 H3) ∧ True) (f72 : n29 ≤ n28) (f73 : n1 ≠ n1) (f74 : n30 ≤ 10999) (f75 : (-10999) ≤ n30) (f76 : (hLe T0 H3 H4 ∧ hFr s_271.2.2.2.2 H3 H4 ∧ ((0 : Int) = 0 → H4.length = H3.length) ∧ hWt T0 H4) ∧ True) (f77 : n31 ≤ 10999) (f78 : (-10999) ≤ n31) (f79 : (hLe T0 H4 H5 ∧ hFr s_272.2.2.2.2 H4 H5 ∧ ((0 : Int) = 0 → H5.length = H4.length) ∧ hWt T0 H5) ∧ True) (f80 : n30 < n31) (f81 : n2 ≠ 0) (f82 : n32 = w32 (n2 + (-1))) (f83 : n33 = w32 (n0 + 1)) : Ab_300_39 n8 n7 n6 n5 n4 n3 n32 n1 n33 H0 H5 ∧ ∀ q, some q0 = some q → mub_300_39 n8 n7 n6 n5 n4 n3 n32 n1 n33 H0 H5 < q := by
  have g4 := f16.2.1.1
  unfold Ab_300_39 at g4
  have g3 := f16.2.1.2
  unfold preb_300 at g3
  have g5 := Option.some.inj f16.2.2
  unfold mub_300_39 at g5
  unfold Ab_300_39
  unfold mub_300_39
  have e0 : n9 = hV H1 285 82 := (by rw [f10] at f19; exact f19 : n9 = hV H1 285 82)
  have e1 : n12 = hV H1 344 (n1).toNat := (by rw [f23] at f27; exact f27 : n12 = hV H1 344 (n1).toNat)
  have e3 : n13 = hV H0 298 (n12).toNat := (by rw [f21] at f30; exact f30 : n13 = hV H1 298 (n12).toNat).trans ((congrFun (fRow f16.1.2.1 298 kR_300_298) _))
  have e4 : n17 = hV H1 344 (n0).toNat := (by rw [f35] at f39; exact f39 : n17 = hV H1 344 (n0).toNat)
  have e5 : n18 = hV H0 298 (n17).toNat := (by rw [f33] at f42; exact f42 : n18 = hV H1 298 (n17).toNat).trans ((congrFun (fRow f16.1.2.1 298 kR_300_298) _))
  have e6 : n22 = hV H1 344 (n1).toNat := (by rw [f47] at f51; exact f51 : n22 = hV H1 344 (n1).toNat)
  have e8 : n23 = hV H0 300 (n22).toNat := (by rw [f45] at f54; exact f54 : n23 = hV H1 300 (n22).toNat).trans ((congrFun (fRow f16.1.2.1 300 kR_300_300) _))
  have e9 : n26 = hV H1 344 (n0).toNat := (by rw [f57] at f61; exact f61 : n26 = hV H1 344 (n0).toNat)
  have e10 : n27 = hV H0 300 (n26).toNat := (by rw [f55] at f64; exact f64 : n27 = hV H1 300 (n26).toNat).trans ((congrFun (fRow f16.1.2.1 300 kR_300_300) _))
  have e15 : hV H5 285 82 = hV H1 285 82 := ((f79.1.2.1.1 285 82 kF_272_285_82)).trans (((f76.1.2.1.1 285 82 kF_271_285_82)).trans (((f71.1.2.1.1 285 82 kF_271_285_82)).trans (f68.1.2.1.1 285 82 kF_271_285_82)))
  have e16 : XQ H2 = XQ H1 := XQ_fr f68.1.2.1 (by decide +kernel)
  have e17 : XQ H3 = XQ H2 := XQ_fr f71.1.2.1 (by decide +kernel)
  have e18 : XQ H3 = XQ H1 := e17.trans e16
  have e19 : XQ H4 = XQ H3 := XQ_fr f76.1.2.1 (by decide +kernel)
  have e20 : XQ H4 = XQ H1 := e19.trans e18
  have e21 : XQ H5 = XQ H4 := XQ_fr f79.1.2.1 (by decide +kernel)
  have e22 : XQ H5 = XQ H1 := e21.trans e20
  have e23 : (0 : Int) ≤ hV H1 285 82 ∧ hV H1 285 82 ≤ 40 := f16.1.2.2 285 82 _ _ kW_285_82
  try simp only [e15, e22]
  have k0 := g4.1
  have k1 := g4.2.1
  have y0 := g4.2.2.1
  have y1 := g4.2.2.2
  have p0 := g3
  clear g3
  clear g4
  clear f19 f22 f24 f27 f30 f34 f36 f39 f42 f46 f48 f51 f54 f56 f58 f61 f64 e15 e16 e17 e18 e19 e20 e21 e22
  clear f16 f68 f71 f76 f79
  subst e0
  subst e1
  subst e3
  subst e4
  subst e5
  subst e6
  subst e8
  subst e9
  subst e10
  first
  | (have ix0 : n32 = n2 + -1 := Eq.trans f82 (w32_id (by omega) (by omega)); subst ix0; clear f82)
  | (unfold w32 at f82; have ix0 : n32 = n2 + -1 := (by omega); subst ix0)
  | skip
  first
  | (have ix1 : n33 = n0 + 1 := Eq.trans f83 (w32_iv (Iad (Iat f1 f0) (IC 1)) (by decide)); subst ix1; clear f83)
  | (have ix1 : n33 = n0 + 1 := Eq.trans f83 (w32_id (by omega) (by omega)); subst ix1; clear f83)
  | (unfold w32 at f83; have ix1 : n33 = n0 + 1 := (by omega); subst ix1)
  | skip
  try unfold w32 at f82
  try unfold w32 at f83
  try subst k1
  try subst k0
  refine ⟨?_, fun q hq => ?_⟩
  · refine ⟨?_, ?_, ?_, ?_⟩ <;> first | assumption | omega | trivial
  · have g6 := Option.some.inj hq
    subst g6
    omega
def g_300_39_18 : vG := ([(10, [33, 8], [], 1), (10, [32, 6], [], -1), (31, [6], [], 0), (42, [30, 31], [], 0), (1272, [31, 3, 7], [4, 5], 0), (90, [31], [], -10999), (91, [31], [], 10999), (1271, [30, 3, 7], [3, 4], 0), (90, [30], [], -10999), (91, [30], [], 10999), (41, [7, 7], [], 0), (43, [28, 29], [], 0), (1271, [29, 3, 7], [2, 3], 0), (90, [29], [], -10999), (91, [29], [], 10999), (1271, [28, 3, 8], [1, 2], 0), (90, [28], [], -10999), (91, [28], [], 10999), (40, [23, 27], [], 0), (22, [27, 24, 26], [1], 0), (90, [27], [], -1), (91, [27], [], 9999), (22, [26, 25, 8], [1], 0), (90, [26], [], 0), (91, [26], [], 1007), (20, [25, 3], [1], 83), (0, [25], [], 344), (20, [24, 3], [1], 26), (0, [24], [], 300), (22, [23, 20, 22], [1], 0), (90, [23], [], -1), (91, [23], [], 9999), (22, [22, 21, 7], [1], 0), (90, [22], [], 0), (91, [22], [], 1007), (20, [21, 3], [1], 83), (0, [21], [], 344), (20, [20, 3], [1], 26), (0, [20], [], 300), (40, [18, 19], [], 0), (0, [19], [], 1), (22, [18, 15, 17], [1], 0), (90, [18], [], 0), (91, [18], [], 5), (22, [17, 16, 8], [1], 0), (90, [17], [], 0), (91, [17], [], 1007), (20, [16, 3], [1], 83), (0, [16], [], 344), (20, [15, 3], [1], 24), (0, [15], [], 298), (40, [13, 14], [], 0), (0, [14], [], 1), (22, [13, 10, 12], [1], 0), (90, [13], [], 0), (91, [13], [], 5), (22, [12, 11, 7], [1], 0), (90, [12], [], 0), (91, [12], [], 1007), (20, [11, 3], [1], 83), (0, [11], [], 344), (20, [10, 3], [1], 24), (0, [10], [], 298), (42, [8, 9], [], 0), (20, [9, 3], [1], 82), (90, [9], [], 0), (91, [9], [], 40), (5000, [0, 1, 2, 3, 4, 5, 6, 7, 8], [0, 1], 39), (0, [0], [], 285), (90, [1], [], -2147483648), (91, [1], [], 2147483647), (90, [2], [], -2147483648), (91, [2], [], 2147483647), (0, [3], [], 285), (90, [4], [], -2147483648), (91, [4], [], 2147483647), (90, [5], [], -2147483648), (91, [5], [], 2147483647), (90, [6], [], -2147483648), (91, [6], [], 2147483647), (90, [7], [], 0), (91, [7], [], 39), (90, [8], [], 0), (91, [8], [], 40)], (4000, [3, 4, 5, 32, 7, 33], [5], 39))
theorem c_300_39_18 {q0 : Nat} : vOkm T0 (eP e_300 L_300 A_300 mu_300 (some q0)) 3 g_300_39_18 := vOk_inI fun ρ η f0 f1 f2 f3 f4 f5 f6 f7 f8 f9 f10 f11 f12 f13 f14 f15 f16 f17 f18 f19 f20 f21 f22 f23 f24 f25 f26 f27 f28 f29 f30 f31 f32 f33 f34 f35 f36 f37 f38 f39 f40 f41 f42 f43 f44 f45 f46 f47 f48 f49 f50 f51 f52 f53 f54 f55 f56 f57 f58 f59 f60 f61 f62 f63 f64 f65 f66 f67 f68 f69 f70 f71 f72 f73 f74 f75 f76 f77 f78 f79 f80 f81 f82 f83 => q_300_22 (q0 := q0) (n0 := ρ 8) (n1 := ρ 7) (n2 := ρ 6) (n3 := ρ 5) (n4 := ρ 4) (n5 := ρ 3) (n6 := ρ 2) (n7 := ρ 1) (n8 := ρ 0) (n9 := ρ 9) (n10 := ρ 10) (n11 := ρ 11) (n12 := ρ 12) (n13 := ρ 13) (n14 := ρ 14) (n15 := ρ 15) (n16 := ρ 16) (n17 := ρ 17) (n18 := ρ 18) (n19 := ρ 19) (n20 := ρ 20) (n21 := ρ 21) (n22 := ρ 22) (n23 := ρ 23) (n24 := ρ 24) (n25 := ρ 25) (n26 := ρ 26) (n27 := ρ 27) (n28 := ρ 28) (n29 := ρ 29) (n30 := ρ 30) (n31 := ρ 31) (n32 := ρ 32) (n33 := ρ 33) (H0 := η 0) (H1 := η 1) (H2 := η 2) (H3 := η 3) (H4 := η 4) (H5 := η 5) f83 f82 f81 f80 f79 f78 f77 f76 f75 f74 f73 f72 f71 f70 f69 f68 f67 f66 f65 f64 f63 f62 f61 f60 f59 f58 f57 f56 f55 f54 f53 f52 f51 f50 f49 f48 f47 f46 f45 f44 f43 f42 f41 f40 f39 f38 f37 f36 f35 f34 f33 f32 f31 f30 f29 f28 f27 f26 f25 f24 f23 f22 f21 f20 f19 f18 f17 f16 f15 f14 f13 f12 f11 f10 f9 f8 f7 f6 f5 f4 f3 f2 f1 f0
def g_300_39_19 : vG := ([(41, [7, 7], [], 0)], (90, [32], [], 0))
theorem c_300_39_19 {q0 : Nat} : vOkm T0 (eP e_300 L_300 A_300 mu_300 (some q0)) 3 g_300_39_19 := vOk_inI fun ρ η f0 => q_300_20 (q0 := q0) (n0 := ρ 7) (n1 := ρ 32) (H0 := η 0) f0
def g_300_39_20 : vG := ([(41, [7, 7], [], 0)], (91, [32], [], 40))
theorem c_300_39_20 {q0 : Nat} : vOkm T0 (eP e_300 L_300 A_300 mu_300 (some q0)) 3 g_300_39_20 := vOk_inI fun ρ η f0 => q_300_21 (q0 := q0) (n0 := ρ 7) (n1 := ρ 32) (H0 := η 0) f0
theorem q_300_23 {q0 : Nat} {n0 n1 n2 n3 n4 n5 n6 n7 n8 n9 n10 n11 n12 n13 n14 n15 n16 n17 n18 n19 n20 n21 n22 n23 n24 n25 n26 n27 n28 n29 n30 n31 n32 : Int} {H0 H1 H2 H3 H4 H5 : gH} (f0 : n0 ≤ 40) (f1 : 0 ≤ n0) (f2 : n1 ≤ 39) (f3 : 0 ≤ n1) (f4 : n2 ≤ 2147483647) (f5 : (-2147483648) ≤ n2) (f6 : n3 ≤ 2147483647) (f7 : (-2147483648) ≤ n3) (f8 : n4 ≤ 2147483647) (f9 : (-2147483648) ≤ n4) (f10 : n5 = 285) (f11 : n6 ≤ 2147483647) (f12 : (-2147483648) ≤ n6) (f13 : n7 ≤ 2147483647) (f14 : (-2147483648) ≤ n7) (f15 : n8 = 285) (f16 : (hLe T0 H0 H1 ∧ hFr s_300.2.2.2.2 H0 H1 ∧ hWt T0 H1) ∧ (Ab_300_39 n8 n7 n6 n5 n4 n3 n2 n1 n0 H0 H1 ∧ preb_300 n8 n7 n6 H0) ∧ some q0 = some (mub_300_39 n8 n7 n6 n5 n4 n3 n2 n1 n0 H0 H1)) (f17 : n9 ≤ 40) (f18 : 0 ≤ n9) (f19 : n9 = hV H1 (n5).toNat 82) (f20 : n0 < n9) (f21 : n10 = 298) (f22 : n10 = hV H1 (n5).toNat 24) (f23 : n11 = 344) (f24 : n11 = hV H1 (n5).toNat 83) (f25 : n12 ≤ 1007) (f26 : 0 ≤ n12) (f27 : n12 = hV H1 (n11).toNat (n1).toNat) (f28 : n13 ≤ 5) (f29 : 0 ≤ n13) (f30 : n13 = hV H1 (n10).toNat (n12).toNat) (f31 : n14 = 1) (f32 : n13 = n14) (f33 : n15 = 298) (f34 : n15 = hV H1 (n5).toNat 24) (f35 : n16 = 344) (f36 : n16 = hV H1 (n5).toNat 83) (f37 : n17 ≤ 1007) (f38 : 0 ≤ n17) (f39 : n17 = hV H1 (n16).toNat (n0).toNat) (f40 : n18 ≤ 5) (f41 : 0 ≤ n18) (f42 : n18 = hV H1 (n15).toNat (n17).toNat) (f43 : n19 = 1) (f44 : n18 = n19) (f45 : n20 = 300) (f46 : n20 = hV H1 (n5).toNat 26) (f47 : n21 = 344) (f48 : n21 = hV H1 (n5).toNat 83) (f49 : n22 ≤ 1007) (f50 : 0 ≤ n22) (f51 : n22 = hV H1 (n21).toNat (n1).toNat) (f52 : n23 ≤ 9999) (f53 : (-1) ≤ n23) (f54 : n23 = hV H1 (n20).toNat (n22).toNat) (f55 : n24 = 300) (f56 : n24 = hV H1 (n5).toNat 26) (f57 : n25 = 344) (f58 : n25 = hV H1 (n5).toNat 83) (f59 : n26 ≤ 1007) (f60 : 0 ≤ n26) (f61 : n26 = hV H1 (n25).toNat (n0).toNat) (f62 : n27 ≤ 9999) (f63 : (-1) ≤ n27) (f64 : n27 = hV H1 (n24).toNat (n26).toNat) (f65 : n23 = n27) (f66 : n28 ≤ 10999) (f67 : (-10999) ≤ n28) (f68 : (hLe T0 H1 H2 ∧ hFr s_271.2.2.2.2 H1 H2 ∧ ((0 : Int) = 0 → H2.length = H1.length) ∧ hWt T0 H2) ∧ True) (f69 : n29 ≤ 10999) (f70 : (-10999) ≤ n29) (f71 : (hLe T0 H2 H3 ∧ hFr s_271.2.2.2.2 H2 H3 ∧ ((0 : Int) = 0 → H3.length = H2.length) ∧ hWt T0 H3) ∧ True) (f72 : n29 ≤ n28) (f73 : n1 ≠ n1) (f74 : n30 ≤ 10999) (f75 : (-10999) ≤ n30) (f76 : (hLe T0 H3 H4 ∧ hFr s_271.2.2.2.2 H3 H4 ∧ ((0 : Int) = 0 → H4.length = H3.length) ∧ hWt T0 H4) ∧ True) (f77 : n31 ≤ 10999) (f78 : (-10999) ≤ n31) (f79 : (hLe T0 H4 H5 ∧ hFr s_272.2.2.2.2 H4 H5 ∧ ((0 : Int) = 0 → H5.length = H4.length) ∧ hWt T0 H5) ∧ True) (f80 : n31 ≤ n30) (f81 : n32 = w32 (n0 + 1)) : Ab_300_39 n8 n7 n6 n5 n4 n3 n2 n1 n32 H0 H5 ∧ ∀ q, some q0 = some q → mub_300_39 n8 n7 n6 n5 n4 n3 n2 n1 n32 H0 H5 < q := by
  have g4 := f16.2.1.1
  unfold Ab_300_39 at g4
  have g3 := f16.2.1.2
  unfold preb_300 at g3
  have g5 := Option.some.inj f16.2.2
  unfold mub_300_39 at g5
  unfold Ab_300_39
  unfold mub_300_39
  have e0 : n9 = hV H1 285 82 := (by rw [f10] at f19; exact f19 : n9 = hV H1 285 82)
  have e1 : n12 = hV H1 344 (n1).toNat := (by rw [f23] at f27; exact f27 : n12 = hV H1 344 (n1).toNat)
  have e3 : n13 = hV H0 298 (n12).toNat := (by rw [f21] at f30; exact f30 : n13 = hV H1 298 (n12).toNat).trans ((congrFun (fRow f16.1.2.1 298 kR_300_298) _))
  have e4 : n17 = hV H1 344 (n0).toNat := (by rw [f35] at f39; exact f39 : n17 = hV H1 344 (n0).toNat)
  have e5 : n18 = hV H0 298 (n17).toNat := (by rw [f33] at f42; exact f42 : n18 = hV H1 298 (n17).toNat).trans ((congrFun (fRow f16.1.2.1 298 kR_300_298) _))
  have e6 : n22 = hV H1 344 (n1).toNat := (by rw [f47] at f51; exact f51 : n22 = hV H1 344 (n1).toNat)
  have e8 : n23 = hV H0 300 (n22).toNat := (by rw [f45] at f54; exact f54 : n23 = hV H1 300 (n22).toNat).trans ((congrFun (fRow f16.1.2.1 300 kR_300_300) _))
  have e9 : n26 = hV H1 344 (n0).toNat := (by rw [f57] at f61; exact f61 : n26 = hV H1 344 (n0).toNat)
  have e10 : n27 = hV H0 300 (n26).toNat := (by rw [f55] at f64; exact f64 : n27 = hV H1 300 (n26).toNat).trans ((congrFun (fRow f16.1.2.1 300 kR_300_300) _))
  have e15 : hV H5 285 82 = hV H1 285 82 := ((f79.1.2.1.1 285 82 kF_272_285_82)).trans (((f76.1.2.1.1 285 82 kF_271_285_82)).trans (((f71.1.2.1.1 285 82 kF_271_285_82)).trans (f68.1.2.1.1 285 82 kF_271_285_82)))
  have e16 : XQ H2 = XQ H1 := XQ_fr f68.1.2.1 (by decide +kernel)
  have e17 : XQ H3 = XQ H2 := XQ_fr f71.1.2.1 (by decide +kernel)
  have e18 : XQ H3 = XQ H1 := e17.trans e16
  have e19 : XQ H4 = XQ H3 := XQ_fr f76.1.2.1 (by decide +kernel)
  have e20 : XQ H4 = XQ H1 := e19.trans e18
  have e21 : XQ H5 = XQ H4 := XQ_fr f79.1.2.1 (by decide +kernel)
  have e22 : XQ H5 = XQ H1 := e21.trans e20
  have e23 : (0 : Int) ≤ hV H1 285 82 ∧ hV H1 285 82 ≤ 40 := f16.1.2.2 285 82 _ _ kW_285_82
  try simp only [e15, e22]
  have k0 := g4.1
  have k1 := g4.2.1
  have y0 := g4.2.2.1
  have y1 := g4.2.2.2
  have p0 := g3
  clear g3
  clear g4
  clear f19 f22 f24 f27 f30 f34 f36 f39 f42 f46 f48 f51 f54 f56 f58 f61 f64 e15 e16 e17 e18 e19 e20 e21 e22
  clear f16 f68 f71 f76 f79
  subst e0
  subst e1
  subst e3
  subst e4
  subst e5
  subst e6
  subst e8
  subst e9
  subst e10
  first
  | (have ix0 : n32 = n0 + 1 := Eq.trans f81 (w32_iv (Iad (Iat f1 f0) (IC 1)) (by decide)); subst ix0; clear f81)
  | (have ix0 : n32 = n0 + 1 := Eq.trans f81 (w32_id (by omega) (by omega)); subst ix0; clear f81)
  | (unfold w32 at f81; have ix0 : n32 = n0 + 1 := (by omega); subst ix0)
  | skip
  try unfold w32 at f81
  try subst k1
  try subst k0
  refine ⟨?_, fun q hq => ?_⟩
  · refine ⟨?_, ?_, ?_, ?_⟩ <;> first | assumption | omega | trivial
  · have g6 := Option.some.inj hq
    subst g6
    omega
def g_300_39_21 : vG := ([(10, [32, 8], [], 1), (43, [30, 31], [], 0), (1272, [31, 3, 7], [4, 5], 0), (90, [31], [], -10999), (91, [31], [], 10999), (1271, [30, 3, 7], [3, 4], 0), (90, [30], [], -10999), (91, [30], [], 10999), (41, [7, 7], [], 0), (43, [28, 29], [], 0), (1271, [29, 3, 7], [2, 3], 0), (90, [29], [], -10999), (91, [29], [], 10999), (1271, [28, 3, 8], [1, 2], 0), (90, [28], [], -10999), (91, [28], [], 10999), (40, [23, 27], [], 0), (22, [27, 24, 26], [1], 0), (90, [27], [], -1), (91, [27], [], 9999), (22, [26, 25, 8], [1], 0), (90, [26], [], 0), (91, [26], [], 1007), (20, [25, 3], [1], 83), (0, [25], [], 344), (20, [24, 3], [1], 26), (0, [24], [], 300), (22, [23, 20, 22], [1], 0), (90, [23], [], -1), (91, [23], [], 9999), (22, [22, 21, 7], [1], 0), (90, [22], [], 0), (91, [22], [], 1007), (20, [21, 3], [1], 83), (0, [21], [], 344), (20, [20, 3], [1], 26), (0, [20], [], 300), (40, [18, 19], [], 0), (0, [19], [], 1), (22, [18, 15, 17], [1], 0), (90, [18], [], 0), (91, [18], [], 5), (22, [17, 16, 8], [1], 0), (90, [17], [], 0), (91, [17], [], 1007), (20, [16, 3], [1], 83), (0, [16], [], 344), (20, [15, 3], [1], 24), (0, [15], [], 298), (40, [13, 14], [], 0), (0, [14], [], 1), (22, [13, 10, 12], [1], 0), (90, [13], [], 0), (91, [13], [], 5), (22, [12, 11, 7], [1], 0), (90, [12], [], 0), (91, [12], [], 1007), (20, [11, 3], [1], 83), (0, [11], [], 344), (20, [10, 3], [1], 24), (0, [10], [], 298), (42, [8, 9], [], 0), (20, [9, 3], [1], 82), (90, [9], [], 0), (91, [9], [], 40), (5000, [0, 1, 2, 3, 4, 5, 6, 7, 8], [0, 1], 39), (0, [0], [], 285), (90, [1], [], -2147483648), (91, [1], [], 2147483647), (90, [2], [], -2147483648), (91, [2], [], 2147483647), (0, [3], [], 285), (90, [4], [], -2147483648), (91, [4], [], 2147483647), (90, [5], [], -2147483648), (91, [5], [], 2147483647), (90, [6], [], -2147483648), (91, [6], [], 2147483647), (90, [7], [], 0), (91, [7], [], 39), (90, [8], [], 0), (91, [8], [], 40)], (4000, [3, 4, 5, 6, 7, 32], [5], 39))
theorem c_300_39_21 {q0 : Nat} : vOkm T0 (eP e_300 L_300 A_300 mu_300 (some q0)) 3 g_300_39_21 := vOk_inI fun ρ η f0 f1 f2 f3 f4 f5 f6 f7 f8 f9 f10 f11 f12 f13 f14 f15 f16 f17 f18 f19 f20 f21 f22 f23 f24 f25 f26 f27 f28 f29 f30 f31 f32 f33 f34 f35 f36 f37 f38 f39 f40 f41 f42 f43 f44 f45 f46 f47 f48 f49 f50 f51 f52 f53 f54 f55 f56 f57 f58 f59 f60 f61 f62 f63 f64 f65 f66 f67 f68 f69 f70 f71 f72 f73 f74 f75 f76 f77 f78 f79 f80 f81 => q_300_23 (q0 := q0) (n0 := ρ 8) (n1 := ρ 7) (n2 := ρ 6) (n3 := ρ 5) (n4 := ρ 4) (n5 := ρ 3) (n6 := ρ 2) (n7 := ρ 1) (n8 := ρ 0) (n9 := ρ 9) (n10 := ρ 10) (n11 := ρ 11) (n12 := ρ 12) (n13 := ρ 13) (n14 := ρ 14) (n15 := ρ 15) (n16 := ρ 16) (n17 := ρ 17) (n18 := ρ 18) (n19 := ρ 19) (n20 := ρ 20) (n21 := ρ 21) (n22 := ρ 22) (n23 := ρ 23) (n24 := ρ 24) (n25 := ρ 25) (n26 := ρ 26) (n27 := ρ 27) (n28 := ρ 28) (n29 := ρ 29) (n30 := ρ 30) (n31 := ρ 31) (n32 := ρ 32) (H0 := η 0) (H1 := η 1) (H2 := η 2) (H3 := η 3) (H4 := η 4) (H5 := η 5) f81 f80 f79 f78 f77 f76 f75 f74 f73 f72 f71 f70 f69 f68 f67 f66 f65 f64 f63 f62 f61 f60 f59 f58 f57 f56 f55 f54 f53 f52 f51 f50 f49 f48 f47 f46 f45 f44 f43 f42 f41 f40 f39 f38 f37 f36 f35 f34 f33 f32 f31 f30 f29 f28 f27 f26 f25 f24 f23 f22 f21 f20 f19 f18 f17 f16 f15 f14 f13 f12 f11 f10 f9 f8 f7 f6 f5 f4 f3 f2 f1 f0
def g_300_39_22 : vG := ([(42, [8, 9], [], 0), (91, [9], [], 40)], (91, [8], [], 39))
theorem c_300_39_22 {q0 : Nat} : vOkm T0 (eP e_300 L_300 A_300 mu_300 (some q0)) 3 g_300_39_22 := vOk_inI fun ρ η f0 f1 => q_300_4 (q0 := q0) (n0 := ρ 9) (n1 := ρ 8) (H0 := η 0) f1 f0
theorem q_300_24 {q0 : Nat} {n0 n1 n2 n3 n4 n5 n6 n7 n8 n9 n10 n11 n12 n13 n14 n15 n16 n17 n18 n19 n20 n21 n22 n23 n24 n25 n26 n27 n28 n29 : Int} {H0 H1 H2 H3 : gH} (f0 : n0 ≤ 40) (f1 : 0 ≤ n0) (f2 : n1 ≤ 39) (f3 : 0 ≤ n1) (f4 : n2 ≤ 2147483647) (f5 : (-2147483648) ≤ n2) (f6 : n3 ≤ 2147483647) (f7 : (-2147483648) ≤ n3) (f8 : n4 ≤ 2147483647) (f9 : (-2147483648) ≤ n4) (f10 : n5 = 285) (f11 : n6 ≤ 2147483647) (f12 : (-2147483648) ≤ n6) (f13 : n7 ≤ 2147483647) (f14 : (-2147483648) ≤ n7) (f15 : n8 = 285) (f16 : (hLe T0 H0 H1 ∧ hFr s_300.2.2.2.2 H0 H1 ∧ hWt T0 H1) ∧ (Ab_300_39 n8 n7 n6 n5 n4 n3 n2 n1 n0 H0 H1 ∧ preb_300 n8 n7 n6 H0) ∧ some q0 = some (mub_300_39 n8 n7 n6 n5 n4 n3 n2 n1 n0 H0 H1)) (f17 : n9 ≤ 40) (f18 : 0 ≤ n9) (f19 : n9 = hV H1 (n5).toNat 82) (f20 : n0 < n9) (f21 : n10 = 298) (f22 : n10 = hV H1 (n5).toNat 24) (f23 : n11 = 344) (f24 : n11 = hV H1 (n5).toNat 83) (f25 : n12 ≤ 1007) (f26 : 0 ≤ n12) (f27 : n12 = hV H1 (n11).toNat (n1).toNat) (f28 : n13 ≤ 5) (f29 : 0 ≤ n13) (f30 : n13 = hV H1 (n10).toNat (n12).toNat) (f31 : n14 = 1) (f32 : n13 = n14) (f33 : n15 = 298) (f34 : n15 = hV H1 (n5).toNat 24) (f35 : n16 = 344) (f36 : n16 = hV H1 (n5).toNat 83) (f37 : n17 ≤ 1007) (f38 : 0 ≤ n17) (f39 : n17 = hV H1 (n16).toNat (n0).toNat) (f40 : n18 ≤ 5) (f41 : 0 ≤ n18) (f42 : n18 = hV H1 (n15).toNat (n17).toNat) (f43 : n19 = 1) (f44 : n18 = n19) (f45 : n20 = 300) (f46 : n20 = hV H1 (n5).toNat 26) (f47 : n21 = 344) (f48 : n21 = hV H1 (n5).toNat 83) (f49 : n22 ≤ 1007) (f50 : 0 ≤ n22) (f51 : n22 = hV H1 (n21).toNat (n1).toNat) (f52 : n23 ≤ 9999) (f53 : (-1) ≤ n23) (f54 : n23 = hV H1 (n20).toNat (n22).toNat) (f55 : n24 = 300) (f56 : n24 = hV H1 (n5).toNat 26) (f57 : n25 = 344) (f58 : n25 = hV H1 (n5).toNat 83) (f59 : n26 ≤ 1007) (f60 : 0 ≤ n26) (f61 : n26 = hV H1 (n25).toNat (n0).toNat) (f62 : n27 ≤ 9999) (f63 : (-1) ≤ n27) (f64 : n27 = hV H1 (n24).toNat (n26).toNat) (f65 : n23 = n27) (f66 : n28 ≤ 10999) (f67 : (-10999) ≤ n28) (f68 : (hLe T0 H1 H2 ∧ hFr s_271.2.2.2.2 H1 H2 ∧ ((0 : Int) = 0 → H2.length = H1.length) ∧ hWt T0 H2) ∧ True) (f69 : n29 ≤ 10999) (f70 : (-10999) ≤ n29) (f71 : (hLe T0 H2 H3 ∧ hFr s_271.2.2.2.2 H2 H3 ∧ ((0 : Int) = 0 → H3.length = H2.length) ∧ hWt T0 H3) ∧ True) (f72 : n29 ≤ n28) (f73 : n1 = n1) : preb_271 n5 n0 H3 := by
  have g4 := f16.2.1.1
  unfold Ab_300_39 at g4
  have g3 := f16.2.1.2
  unfold preb_300 at g3
  unfold preb_271
  have e0 : n9 = hV H1 285 82 := (by rw [f10] at f19; exact f19 : n9 = hV H1 285 82)
  have e1 : n12 = hV H1 344 (n1).toNat := (by rw [f23] at f27; exact f27 : n12 = hV H1 344 (n1).toNat)
  have e3 : n13 = hV H0 298 (n12).toNat := (by rw [f21] at f30; exact f30 : n13 = hV H1 298 (n12).toNat).trans ((congrFun (fRow f16.1.2.1 298 kR_300_298) _))
  have e4 : n17 = hV H1 344 (n0).toNat := (by rw [f35] at f39; exact f39 : n17 = hV H1 344 (n0).toNat)
  have e5 : n18 = hV H0 298 (n17).toNat := (by rw [f33] at f42; exact f42 : n18 = hV H1 298 (n17).toNat).trans ((congrFun (fRow f16.1.2.1 298 kR_300_298) _))
  have e6 : n22 = hV H1 344 (n1).toNat := (by rw [f47] at f51; exact f51 : n22 = hV H1 344 (n1).toNat)
  have e8 : n23 = hV H0 300 (n22).toNat := (by rw [f45] at f54; exact f54 : n23 = hV H1 300 (n22).toNat).trans ((congrFun (fRow f16.1.2.1 300 kR_300_300) _))
  have e9 : n26 = hV H1 344 (n0).toNat := (by rw [f57] at f61; exact f61 : n26 = hV H1 344 (n0).toNat)
  have e10 : n27 = hV H0 300 (n26).toNat := (by rw [f55] at f64; exact f64 : n27 = hV H1 300 (n26).toNat).trans ((congrFun (fRow f16.1.2.1 300 kR_300_300) _))
  have e13 : hV H3 285 82 = hV H1 285 82 := ((f71.1.2.1.1 285 82 kF_271_285_82)).trans (f68.1.2.1.1 285 82 kF_271_285_82)
  have e17 : hV H3 298 = hV H0 298 := (fRow f71.1.2.1 298 kR_271_298).trans ((fRow f68.1.2.1 298 kR_271_298).trans (fRow f16.1.2.1 298 kR_300_298))
  have e20 : hV H3 344 = hV H1 344 := (fRow f71.1.2.1 344 kR_271_344).trans (fRow f68.1.2.1 344 kR_271_344)
  have e21 : XQ H2 = XQ H1 := XQ_fr f68.1.2.1 (by decide +kernel)
  have e22 : XQ H3 = XQ H2 := XQ_fr f71.1.2.1 (by decide +kernel)
  have e23 : XQ H3 = XQ H1 := e22.trans e21
  have e24 : (0 : Int) ≤ hV H1 285 82 ∧ hV H1 285 82 ≤ 40 := f16.1.2.2 285 82 _ _ kW_285_82
  try simp only [e13, e17, e20, e23]
  have k0 := g4.1
  have k1 := g4.2.1
  have y0 := g4.2.2.1
  have y1 := g4.2.2.2
  have p0 := g3
  clear g3
  clear g4
  clear f19 f22 f24 f27 f30 f34 f36 f39 f42 f46 f48 f51 f54 f56 f58 f61 f64 e13 e17 e20 e21 e22 e23
  clear f16 f68 f71
  subst e0
  subst e1
  subst e3
  subst e4
  subst e5
  subst e6
  subst e8
  subst e9
  subst e10
  try subst k1
  try subst k0
  refine ⟨?_, ?_, ?_⟩ <;> first | assumption | omega | trivial
def g_300_39_23 : vG := ([(40, [7, 7], [], 0), (43, [28, 29], [], 0), (1271, [29, 3, 7], [2, 3], 0), (90, [29], [], -10999), (91, [29], [], 10999), (1271, [28, 3, 8], [1, 2], 0), (90, [28], [], -10999), (91, [28], [], 10999), (40, [23, 27], [], 0), (22, [27, 24, 26], [1], 0), (90, [27], [], -1), (91, [27], [], 9999), (22, [26, 25, 8], [1], 0), (90, [26], [], 0), (91, [26], [], 1007), (20, [25, 3], [1], 83), (0, [25], [], 344), (20, [24, 3], [1], 26), (0, [24], [], 300), (22, [23, 20, 22], [1], 0), (90, [23], [], -1), (91, [23], [], 9999), (22, [22, 21, 7], [1], 0), (90, [22], [], 0), (91, [22], [], 1007), (20, [21, 3], [1], 83), (0, [21], [], 344), (20, [20, 3], [1], 26), (0, [20], [], 300), (40, [18, 19], [], 0), (0, [19], [], 1), (22, [18, 15, 17], [1], 0), (90, [18], [], 0), (91, [18], [], 5), (22, [17, 16, 8], [1], 0), (90, [17], [], 0), (91, [17], [], 1007), (20, [16, 3], [1], 83), (0, [16], [], 344), (20, [15, 3], [1], 24), (0, [15], [], 298), (40, [13, 14], [], 0), (0, [14], [], 1), (22, [13, 10, 12], [1], 0), (90, [13], [], 0), (91, [13], [], 5), (22, [12, 11, 7], [1], 0), (90, [12], [], 0), (91, [12], [], 1007), (20, [11, 3], [1], 83), (0, [11], [], 344), (20, [10, 3], [1], 24), (0, [10], [], 298), (42, [8, 9], [], 0), (20, [9, 3], [1], 82), (90, [9], [], 0), (91, [9], [], 40), (5000, [0, 1, 2, 3, 4, 5, 6, 7, 8], [0, 1], 39), (0, [0], [], 285), (90, [1], [], -2147483648), (91, [1], [], 2147483647), (90, [2], [], -2147483648), (91, [2], [], 2147483647), (0, [3], [], 285), (90, [4], [], -2147483648), (91, [4], [], 2147483647), (90, [5], [], -2147483648), (91, [5], [], 2147483647), (90, [6], [], -2147483648), (91, [6], [], 2147483647), (90, [7], [], 0), (91, [7], [], 39), (90, [8], [], 0), (91, [8], [], 40)], (2271, [3, 8], [3], 0))
theorem c_300_39_23 {q0 : Nat} : vOkm T0 (eP e_300 L_300 A_300 mu_300 (some q0)) 3 g_300_39_23 := vOk_inI fun ρ η f0 f1 f2 f3 f4 f5 f6 f7 f8 f9 f10 f11 f12 f13 f14 f15 f16 f17 f18 f19 f20 f21 f22 f23 f24 f25 f26 f27 f28 f29 f30 f31 f32 f33 f34 f35 f36 f37 f38 f39 f40 f41 f42 f43 f44 f45 f46 f47 f48 f49 f50 f51 f52 f53 f54 f55 f56 f57 f58 f59 f60 f61 f62 f63 f64 f65 f66 f67 f68 f69 f70 f71 f72 f73 => q_300_24 (q0 := q0) (n0 := ρ 8) (n1 := ρ 7) (n2 := ρ 6) (n3 := ρ 5) (n4 := ρ 4) (n5 := ρ 3) (n6 := ρ 2) (n7 := ρ 1) (n8 := ρ 0) (n9 := ρ 9) (n10 := ρ 10) (n11 := ρ 11) (n12 := ρ 12) (n13 := ρ 13) (n14 := ρ 14) (n15 := ρ 15) (n16 := ρ 16) (n17 := ρ 17) (n18 := ρ 18) (n19 := ρ 19) (n20 := ρ 20) (n21 := ρ 21) (n22 := ρ 22) (n23 := ρ 23) (n24 := ρ 24) (n25 := ρ 25) (n26 := ρ 26) (n27 := ρ 27) (n28 := ρ 28) (n29 := ρ 29) (H0 := η 0) (H1 := η 1) (H2 := η 2) (H3 := η 3) f73 f72 f71 f70 f69 f68 f67 f66 f65 f64 f63 f62 f61 f60 f59 f58 f57 f56 f55 f54 f53 f52 f51 f50 f49 f48 f47 f46 f45 f44 f43 f42 f41 f40 f39 f38 f37 f36 f35 f34 f33 f32 f31 f30 f29 f28 f27 f26 f25 f24 f23 f22 f21 f20 f19 f18 f17 f16 f15 f14 f13 f12 f11 f10 f9 f8 f7 f6 f5 f4 f3 f2 f1 f0
theorem q_300_25 {q0 : Nat} {n0 n1 n2 n3 n4 n5 n6 n7 n8 n9 n10 n11 n12 n13 n14 n15 n16 n17 n18 n19 n20 n21 n22 n23 n24 n25 n26 n27 n28 n29 n30 : Int} {H0 H1 H2 H3 H4 : gH} (f0 : n0 ≤ 40) (f1 : 0 ≤ n0) (f2 : n1 ≤ 39) (f3 : 0 ≤ n1) (f4 : n2 ≤ 2147483647) (f5 : (-2147483648) ≤ n2) (f6 : n3 ≤ 2147483647) (f7 : (-2147483648) ≤ n3) (f8 : n4 ≤ 2147483647) (f9 : (-2147483648) ≤ n4) (f10 : n5 = 285) (f11 : n6 ≤ 2147483647) (f12 : (-2147483648) ≤ n6) (f13 : n7 ≤ 2147483647) (f14 : (-2147483648) ≤ n7) (f15 : n8 = 285) (f16 : (hLe T0 H0 H1 ∧ hFr s_300.2.2.2.2 H0 H1 ∧ hWt T0 H1) ∧ (Ab_300_39 n8 n7 n6 n5 n4 n3 n2 n1 n0 H0 H1 ∧ preb_300 n8 n7 n6 H0) ∧ some q0 = some (mub_300_39 n8 n7 n6 n5 n4 n3 n2 n1 n0 H0 H1)) (f17 : n9 ≤ 40) (f18 : 0 ≤ n9) (f19 : n9 = hV H1 (n5).toNat 82) (f20 : n0 < n9) (f21 : n10 = 298) (f22 : n10 = hV H1 (n5).toNat 24) (f23 : n11 = 344) (f24 : n11 = hV H1 (n5).toNat 83) (f25 : n12 ≤ 1007) (f26 : 0 ≤ n12) (f27 : n12 = hV H1 (n11).toNat (n1).toNat) (f28 : n13 ≤ 5) (f29 : 0 ≤ n13) (f30 : n13 = hV H1 (n10).toNat (n12).toNat) (f31 : n14 = 1) (f32 : n13 = n14) (f33 : n15 = 298) (f34 : n15 = hV H1 (n5).toNat 24) (f35 : n16 = 344) (f36 : n16 = hV H1 (n5).toNat 83) (f37 : n17 ≤ 1007) (f38 : 0 ≤ n17) (f39 : n17 = hV H1 (n16).toNat (n0).toNat) (f40 : n18 ≤ 5) (f41 : 0 ≤ n18) (f42 : n18 = hV H1 (n15).toNat (n17).toNat) (f43 : n19 = 1) (f44 : n18 = n19) (f45 : n20 = 300) (f46 : n20 = hV H1 (n5).toNat 26) (f47 : n21 = 344) (f48 : n21 = hV H1 (n5).toNat 83) (f49 : n22 ≤ 1007) (f50 : 0 ≤ n22) (f51 : n22 = hV H1 (n21).toNat (n1).toNat) (f52 : n23 ≤ 9999) (f53 : (-1) ≤ n23) (f54 : n23 = hV H1 (n20).toNat (n22).toNat) (f55 : n24 = 300) (f56 : n24 = hV H1 (n5).toNat 26) (f57 : n25 = 344) (f58 : n25 = hV H1 (n5).toNat 83) (f59 : n26 ≤ 1007) (f60 : 0 ≤ n26) (f61 : n26 = hV H1 (n25).toNat (n0).toNat) (f62 : n27 ≤ 9999) (f63 : (-1) ≤ n27) (f64 : n27 = hV H1 (n24).toNat (n26).toNat) (f65 : n23 = n27) (f66 : n28 ≤ 10999) (f67 : (-10999) ≤ n28) (f68 : (hLe T0 H1 H2 ∧ hFr s_271.2.2.2.2 H1 H2 ∧ ((0 : Int) = 0 → H2.length = H1.length) ∧ hWt T0 H2) ∧ True) (f69 : n29 ≤ 10999) (f70 : (-10999) ≤ n29) (f71 : (hLe T0 H2 H3 ∧ hFr s_271.2.2.2.2 H2 H3 ∧ ((0 : Int) = 0 → H3.length = H2.length) ∧ hWt T0 H3) ∧ True) (f72 : n29 ≤ n28) (f73 : n1 = n1) (f74 : n30 ≤ 10999) (f75 : (-10999) ≤ n30) (f76 : (hLe T0 H3 H4 ∧ hFr s_271.2.2.2.2 H3 H4 ∧ ((0 : Int) = 0 → H4.length = H3.length) ∧ hWt T0 H4) ∧ True) : preb_272 n5 n1 H4 := by
  have g4 := f16.2.1.1
  unfold Ab_300_39 at g4
  have g3 := f16.2.1.2
  unfold preb_300 at g3
  unfold preb_272
  have e0 : n9 = hV H1 285 82 := (by rw [f10] at f19; exact f19 : n9 = hV H1 285 82)
  have e1 : n12 = hV H1 344 (n1).toNat := (by rw [f23] at f27; exact f27 : n12 = hV H1 344 (n1).toNat)
  have e3 : n13 = hV H0 298 (n12).toNat := (by rw [f21] at f30; exact f30 : n13 = hV H1 298 (n12).toNat).trans ((congrFun (fRow f16.1.2.1 298 kR_300_298) _))
  have e4 : n17 = hV H1 344 (n0).toNat := (by rw [f35] at f39; exact f39 : n17 = hV H1 344 (n0).toNat)
  have e5 : n18 = hV H0 298 (n17).toNat := (by rw [f33] at f42; exact f42 : n18 = hV H1 298 (n17).toNat).trans ((congrFun (fRow f16.1.2.1 298 kR_300_298) _))
  have e6 : n22 = hV H1 344 (n1).toNat := (by rw [f47] at f51; exact f51 : n22 = hV H1 344 (n1).toNat)
  have e8 : n23 = hV H0 300 (n22).toNat := (by rw [f45] at f54; exact f54 : n23 = hV H1 300 (n22).toNat).trans ((congrFun (fRow f16.1.2.1 300 kR_300_300) _))
  have e9 : n26 = hV H1 344 (n0).toNat := (by rw [f57] at f61; exact f61 : n26 = hV H1 344 (n0).toNat)
  have e10 : n27 = hV H0 300 (n26).toNat := (by rw [f55] at f64; exact f64 : n27 = hV H1 300 (n26).toNat).trans ((congrFun (fRow f16.1.2.1 300 kR_300_300) _))
  have e14 : hV H4 285 82 = hV H1 285 82 := ((f76.1.2.1.1 285 82 kF_271_285_82)).trans (((f71.1.2.1.1 285 82 kF_271_285_82)).trans (f68.1.2.1.1 285 82 kF_271_285_82))
  have e20 : hV H4 298 = hV H0 298 := (fRow f76.1.2.1 298 kR_271_298).trans ((fRow f71.1.2.1 298 kR_271_298).trans ((fRow f68.1.2.1 298 kR_271_298).trans (fRow f16.1.2.1 298 kR_300_298)))
  have e25 : hV H4 344 = hV H1 344 := (fRow f76.1.2.1 344 kR_271_344).trans ((fRow f71.1.2.1 344 kR_271_344).trans (fRow f68.1.2.1 344 kR_271_344))
  have e26 : XQ H2 = XQ H1 := XQ_fr f68.1.2.1 (by decide +kernel)
  have e27 : XQ H3 = XQ H2 := XQ_fr f71.1.2.1 (by decide +kernel)
  have e28 : XQ H3 = XQ H1 := e27.trans e26
  have e29 : XQ H4 = XQ H3 := XQ_fr f76.1.2.1 (by decide +kernel)
  have e30 : XQ H4 = XQ H1 := e29.trans e28
  have e31 : (0 : Int) ≤ hV H1 285 82 ∧ hV H1 285 82 ≤ 40 := f16.1.2.2 285 82 _ _ kW_285_82
  try simp only [e14, e20, e25, e30]
  have k0 := g4.1
  have k1 := g4.2.1
  have y0 := g4.2.2.1
  have y1 := g4.2.2.2
  have p0 := g3
  clear g3
  clear g4
  clear f19 f22 f24 f27 f30 f34 f36 f39 f42 f46 f48 f51 f54 f56 f58 f61 f64 e14 e20 e25 e26 e27 e28 e29 e30
  clear f16 f68 f71 f76
  subst e0
  subst e1
  subst e3
  subst e4
  subst e5
  subst e6
  subst e8
  subst e9
  subst e10
  try subst k1
  try subst k0
  refine ⟨?_, ?_, ?_⟩ <;> first | assumption | omega | trivial
def g_300_39_24 : vG := ([(1271, [30, 3, 8], [3, 4], 0), (90, [30], [], -10999), (91, [30], [], 10999), (40, [7, 7], [], 0), (43, [28, 29], [], 0), (1271, [29, 3, 7], [2, 3], 0), (90, [29], [], -10999), (91, [29], [], 10999), (1271, [28, 3, 8], [1, 2], 0), (90, [28], [], -10999), (91, [28], [], 10999), (40, [23, 27], [], 0), (22, [27, 24, 26], [1], 0), (90, [27], [], -1), (91, [27], [], 9999), (22, [26, 25, 8], [1], 0), (90, [26], [], 0), (91, [26], [], 1007), (20, [25, 3], [1], 83), (0, [25], [], 344), (20, [24, 3], [1], 26), (0, [24], [], 300), (22, [23, 20, 22], [1], 0), (90, [23], [], -1), (91, [23], [], 9999), (22, [22, 21, 7], [1], 0), (90, [22], [], 0), (91, [22], [], 1007), (20, [21, 3], [1], 83), (0, [21], [], 344), (20, [20, 3], [1], 26), (0, [20], [], 300), (40, [18, 19], [], 0), (0, [19], [], 1), (22, [18, 15, 17], [1], 0), (90, [18], [], 0), (91, [18], [], 5), (22, [17, 16, 8], [1], 0), (90, [17], [], 0), (91, [17], [], 1007), (20, [16, 3], [1], 83), (0, [16], [], 344), (20, [15, 3], [1], 24), (0, [15], [], 298), (40, [13, 14], [], 0), (0, [14], [], 1), (22, [13, 10, 12], [1], 0), (90, [13], [], 0), (91, [13], [], 5), (22, [12, 11, 7], [1], 0), (90, [12], [], 0), (91, [12], [], 1007), (20, [11, 3], [1], 83), (0, [11], [], 344), (20, [10, 3], [1], 24), (0, [10], [], 298), (42, [8, 9], [], 0), (20, [9, 3], [1], 82), (90, [9], [], 0), (91, [9], [], 40), (5000, [0, 1, 2, 3, 4, 5, 6, 7, 8], [0, 1], 39), (0, [0], [], 285), (90, [1], [], -2147483648), (91, [1], [], 2147483647), (90, [2], [], -2147483648), (91, [2], [], 2147483647), (0, [3], [], 285), (90, [4], [], -2147483648), (91, [4], [], 2147483647), (90, [5], [], -2147483648), (91, [5], [], 2147483647), (90, [6], [], -2147483648), (91, [6], [], 2147483647), (90, [7], [], 0), (91, [7], [], 39), (90, [8], [], 0), (91, [8], [], 40)], (2272, [3, 7], [4], 0))
theorem c_300_39_24 {q0 : Nat} : vOkm T0 (eP e_300 L_300 A_300 mu_300 (some q0)) 3 g_300_39_24 := vOk_inI fun ρ η f0 f1 f2 f3 f4 f5 f6 f7 f8 f9 f10 f11 f12 f13 f14 f15 f16 f17 f18 f19 f20 f21 f22 f23 f24 f25 f26 f27 f28 f29 f30 f31 f32 f33 f34 f35 f36 f37 f38 f39 f40 f41 f42 f43 f44 f45 f46 f47 f48 f49 f50 f51 f52 f53 f54 f55 f56 f57 f58 f59 f60 f61 f62 f63 f64 f65 f66 f67 f68 f69 f70 f71 f72 f73 f74 f75 f76 => q_300_25 (q0 := q0) (n0 := ρ 8) (n1 := ρ 7) (n2 := ρ 6) (n3 := ρ 5) (n4 := ρ 4) (n5 := ρ 3) (n6 := ρ 2) (n7 := ρ 1) (n8 := ρ 0) (n9 := ρ 9) (n10 := ρ 10) (n11 := ρ 11) (n12 := ρ 12) (n13 := ρ 13) (n14 := ρ 14) (n15 := ρ 15) (n16 := ρ 16) (n17 := ρ 17) (n18 := ρ 18) (n19 := ρ 19) (n20 := ρ 20) (n21 := ρ 21) (n22 := ρ 22) (n23 := ρ 23) (n24 := ρ 24) (n25 := ρ 25) (n26 := ρ 26) (n27 := ρ 27) (n28 := ρ 28) (n29 := ρ 29) (n30 := ρ 30) (H0 := η 0) (H1 := η 1) (H2 := η 2) (H3 := η 3) (H4 := η 4) f76 f75 f74 f73 f72 f71 f70 f69 f68 f67 f66 f65 f64 f63 f62 f61 f60 f59 f58 f57 f56 f55 f54 f53 f52 f51 f50 f49 f48 f47 f46 f45 f44 f43 f42 f41 f40 f39 f38 f37 f36 f35 f34 f33 f32 f31 f30 f29 f28 f27 f26 f25 f24 f23 f22 f21 f20 f19 f18 f17 f16 f15 f14 f13 f12 f11 f10 f9 f8 f7 f6 f5 f4 f3 f2 f1 f0
def g_300_39_25 : vG := ([(10, [33, 8], [], 1), (42, [8, 9], [], 0), (91, [9], [], 40), (90, [8], [], 0)], (90, [33], [], 0))
theorem c_300_39_25 {q0 : Nat} : vOkm T0 (eP e_300 L_300 A_300 mu_300 (some q0)) 3 g_300_39_25 := vOk_inI fun ρ η f0 f1 f2 f3 => q_300_11 (q0 := q0) (n0 := ρ 8) (n1 := ρ 9) (n2 := ρ 33) (H0 := η 0) f3 f2 f1 f0
def g_300_39_26 : vG := ([(10, [33, 8], [], 1), (42, [8, 9], [], 0), (91, [9], [], 40), (90, [8], [], 0)], (91, [33], [], 40))
theorem c_300_39_26 {q0 : Nat} : vOkm T0 (eP e_300 L_300 A_300 mu_300 (some q0)) 3 g_300_39_26 := vOk_inI fun ρ η f0 f1 f2 f3 => q_300_12 (q0 := q0) (n0 := ρ 8) (n1 := ρ 9) (n2 := ρ 33) (H0 := η 0) f3 f2 f1 f0
theorem q_300_26 {q0 : Nat} {n0 n1 n2 n3 n4 n5 n6 n7 n8 n9 n10 n11 n12 n13 n14 n15 n16 n17 n18 n19 n20 n21 n22 n23 n24 n25 n26 n27 n28 n29 n30 n31 n32 n33 : Int} {H0 H1 H2 H3 H4 H5 : gH} (f0 : n0 ≤ 40) (f1 : 0 ≤ n0) (f2 : n1 ≤ 39) (f3 : 0 ≤ n1) (f4 : n2 ≤ 2147483647) (f5 : (-2147483648) ≤ n2) (f6 : n3 ≤ 2147483647) (f7 : (-2147483648) ≤ n3) (f8 : n4 ≤ 2147483647) (f9 : (-2147483648) ≤ n4) (f10 : n5 = 285) (f11 : n6 ≤ 2147483647) (f12 : (-2147483648) ≤ n6) (f13 : n7 ≤ 2147483647) (f14 : (-2147483648) ≤ n7) (f15 : n8 = 285) (f16 : (hLe T0 H0 H1 ∧ hFr s_300.2.2.2.2 H0 H1 ∧ hWt T0 H1) ∧ (Ab_300_39 n8 n7 n6 n5 n4 n3 n2 n1 n0 H0 H1 ∧ preb_300 n8 n7 n6 H0) ∧ some q0 = some (mub_300_39 n8 n7 n6 n5 n4 n3 n2 n1 n0 H0 H1)) (f17 : n9 ≤ 40) (f18 : 0 ≤ n9) (f19 : n9 = hV H1 (n5).toNat 82) (f20 : n0 < n9) (f21 : n10 = 298) (f22 : n10 = hV H1 (n5).toNat 24) (f23 : n11 = 344) (f24 : n11 = hV H1 (n5).toNat 83) (f25 : n12 ≤ 1007) (f26 : 0 ≤ n12) (f27 : n12 = hV H1 (n11).toNat (n1).toNat) (f28 : n13 ≤ 5) (f29 : 0 ≤ n13) (f30 : n13 = hV H1 (n10).toNat (n12).toNat) (f31 : n14 = 1) (f32 : n13 = n14) (f33 : n15 = 298) (f34 : n15 = hV H1 (n5).toNat 24) (f35 : n16 = 344) (f36 : n16 = hV H1 (n5).toNat 83) (f37 : n17 ≤ 1007) (f38 : 0 ≤ n17) (f39 : n17 = hV H1 (n16).toNat (n0).toNat) (f40 : n18 ≤ 5) (f41 : 0 ≤ n18) (f42 : n18 = hV H1 (n15).toNat (n17).toNat) (f43 : n19 = 1) (f44 : n18 = n19) (f45 : n20 = 300) (f46 : n20 = hV H1 (n5).toNat 26) (f47 : n21 = 344) (f48 : n21 = hV H1 (n5).toNat 83) (f49 : n22 ≤ 1007) (f50 : 0 ≤ n22) (f51 : n22 = hV H1 (n21).toNat (n1).toNat) (f52 : n23 ≤ 9999) (f53 : (-1) ≤ n23) (f54 : n23 = hV H1 (n20).toNat (n22).toNat) (f55 : n24 = 300) (f56 : n24 = hV H1 (n5).toNat 26) (f57 : n25 = 344) (f58 : n25 = hV H1 (n5).toNat 83) (f59 : n26 ≤ 1007) (f60 : 0 ≤ n26) (f61 : n26 = hV H1 (n25).toNat (n0).toNat) (f62 : n27 ≤ 9999) (f63 : (-1) ≤ n27) (f64 : n27 = hV H1 (n24).toNat (n26).toNat) (f65 : n23 = n27) (f66 : n28 ≤ 10999) (f67 : (-10999) ≤ n28) (f68 : (hLe T0 H1 H2 ∧ hFr s_271.2.2.2.2 H1 H2 ∧ ((0 : Int) = 0 → H2.length = H1.length) ∧ hWt T0 H2) ∧ True) (f69 : n29 ≤ 10999) (f70 : (-10999) ≤ n29) (f71 : (hLe T0 H2 H3 ∧ hFr s_271.2.2.2.2 H2 H3 ∧ ((0 : Int) = 0 → H3.length = H2.length) ∧ hWt T0 H3) ∧ True) (f72 : n29 ≤ n28) (f73 : n1 = n1) (f74 : n30 ≤ 10999) (f75 : (-10999) ≤ n30) (f76 : (hLe T0 H3 H4 ∧ hFr s_271.2.2.2.2 H3 H4 ∧ ((0 : Int) = 0 → H4.length = H3.length) ∧ hWt T0 H4) ∧ True) (f77 : n31 ≤ 10999) (f78 : (-10999) ≤ n31) (f79 : (hLe T0 H4 H5 ∧ hFr s_272.2.2.2.2 H4 H5 ∧ ((0 : Int) = 0 → H5.length = H4.length) ∧ hWt T0 H5) ∧ True) (f80 : n30 < n31) (f81 : n2 ≠ 0) (f82 : n32 = w32 (n2 + (-1))) (f83 : n33 = w32 (n0 + 1)) : Ab_300_39 n8 n7 n6 n5 n4 n3 n32 n1 n33 H0 H5 ∧ ∀ q, some q0 = some q → mub_300_39 n8 n7 n6 n5 n4 n3 n32 n1 n33 H0 H5 < q := by
  have g4 := f16.2.1.1
  unfold Ab_300_39 at g4
  have g3 := f16.2.1.2
  unfold preb_300 at g3
  have g5 := Option.some.inj f16.2.2
  unfold mub_300_39 at g5
  unfold Ab_300_39
  unfold mub_300_39
  have e0 : n9 = hV H1 285 82 := (by rw [f10] at f19; exact f19 : n9 = hV H1 285 82)
  have e1 : n12 = hV H1 344 (n1).toNat := (by rw [f23] at f27; exact f27 : n12 = hV H1 344 (n1).toNat)
  have e3 : n13 = hV H0 298 (n12).toNat := (by rw [f21] at f30; exact f30 : n13 = hV H1 298 (n12).toNat).trans ((congrFun (fRow f16.1.2.1 298 kR_300_298) _))
  have e4 : n17 = hV H1 344 (n0).toNat := (by rw [f35] at f39; exact f39 : n17 = hV H1 344 (n0).toNat)
  have e5 : n18 = hV H0 298 (n17).toNat := (by rw [f33] at f42; exact f42 : n18 = hV H1 298 (n17).toNat).trans ((congrFun (fRow f16.1.2.1 298 kR_300_298) _))
  have e6 : n22 = hV H1 344 (n1).toNat := (by rw [f47] at f51; exact f51 : n22 = hV H1 344 (n1).toNat)
  have e8 : n23 = hV H0 300 (n22).toNat := (by rw [f45] at f54; exact f54 : n23 = hV H1 300 (n22).toNat).trans ((congrFun (fRow f16.1.2.1 300 kR_300_300) _))
  have e9 : n26 = hV H1 344 (n0).toNat := (by rw [f57] at f61; exact f61 : n26 = hV H1 344 (n0).toNat)
  have e10 : n27 = hV H0 300 (n26).toNat := (by rw [f55] at f64; exact f64 : n27 = hV H1 300 (n26).toNat).trans ((congrFun (fRow f16.1.2.1 300 kR_300_300) _))
  have e15 : hV H5 285 82 = hV H1 285 82 := ((f79.1.2.1.1 285 82 kF_272_285_82)).trans (((f76.1.2.1.1 285 82 kF_271_285_82)).trans (((f71.1.2.1.1 285 82 kF_271_285_82)).trans (f68.1.2.1.1 285 82 kF_271_285_82)))
  have e16 : XQ H2 = XQ H1 := XQ_fr f68.1.2.1 (by decide +kernel)
  have e17 : XQ H3 = XQ H2 := XQ_fr f71.1.2.1 (by decide +kernel)
  have e18 : XQ H3 = XQ H1 := e17.trans e16
  have e19 : XQ H4 = XQ H3 := XQ_fr f76.1.2.1 (by decide +kernel)
  have e20 : XQ H4 = XQ H1 := e19.trans e18
  have e21 : XQ H5 = XQ H4 := XQ_fr f79.1.2.1 (by decide +kernel)
  have e22 : XQ H5 = XQ H1 := e21.trans e20
  have e23 : (0 : Int) ≤ hV H1 285 82 ∧ hV H1 285 82 ≤ 40 := f16.1.2.2 285 82 _ _ kW_285_82
  try simp only [e15, e22]
  have k0 := g4.1
  have k1 := g4.2.1
  have y0 := g4.2.2.1
  have y1 := g4.2.2.2
  have p0 := g3
  clear g3
  clear g4
  clear f19 f22 f24 f27 f30 f34 f36 f39 f42 f46 f48 f51 f54 f56 f58 f61 f64 e15 e16 e17 e18 e19 e20 e21 e22
  clear f16 f68 f71 f76 f79
  subst e0
  subst e1
  subst e3
  subst e4
  subst e5
  subst e6
  subst e8
  subst e9
  subst e10
  first
  | (have ix0 : n32 = n2 + -1 := Eq.trans f82 (w32_id (by omega) (by omega)); subst ix0; clear f82)
  | (unfold w32 at f82; have ix0 : n32 = n2 + -1 := (by omega); subst ix0)
  | skip
  first
  | (have ix1 : n33 = n0 + 1 := Eq.trans f83 (w32_iv (Iad (Iat f1 f0) (IC 1)) (by decide)); subst ix1; clear f83)
  | (have ix1 : n33 = n0 + 1 := Eq.trans f83 (w32_id (by omega) (by omega)); subst ix1; clear f83)
  | (unfold w32 at f83; have ix1 : n33 = n0 + 1 := (by omega); subst ix1)
  | skip
  try unfold w32 at f82
  try unfold w32 at f83
  try subst k1
  try subst k0
  refine ⟨?_, fun q hq => ?_⟩
  · refine ⟨?_, ?_, ?_, ?_⟩ <;> first | assumption | omega | trivial
  · have g6 := Option.some.inj hq
    subst g6
    omega
def g_300_39_27 : vG := ([(10, [33, 8], [], 1), (10, [32, 6], [], -1), (31, [6], [], 0), (42, [30, 31], [], 0), (1272, [31, 3, 7], [4, 5], 0), (90, [31], [], -10999), (91, [31], [], 10999), (1271, [30, 3, 8], [3, 4], 0), (90, [30], [], -10999), (91, [30], [], 10999), (40, [7, 7], [], 0), (43, [28, 29], [], 0), (1271, [29, 3, 7], [2, 3], 0), (90, [29], [], -10999), (91, [29], [], 10999), (1271, [28, 3, 8], [1, 2], 0), (90, [28], [], -10999), (91, [28], [], 10999), (40, [23, 27], [], 0), (22, [27, 24, 26], [1], 0), (90, [27], [], -1), (91, [27], [], 9999), (22, [26, 25, 8], [1], 0), (90, [26], [], 0), (91, [26], [], 1007), (20, [25, 3], [1], 83), (0, [25], [], 344), (20, [24, 3], [1], 26), (0, [24], [], 300), (22, [23, 20, 22], [1], 0), (90, [23], [], -1), (91, [23], [], 9999), (22, [22, 21, 7], [1], 0), (90, [22], [], 0), (91, [22], [], 1007), (20, [21, 3], [1], 83), (0, [21], [], 344), (20, [20, 3], [1], 26), (0, [20], [], 300), (40, [18, 19], [], 0), (0, [19], [], 1), (22, [18, 15, 17], [1], 0), (90, [18], [], 0), (91, [18], [], 5), (22, [17, 16, 8], [1], 0), (90, [17], [], 0), (91, [17], [], 1007), (20, [16, 3], [1], 83), (0, [16], [], 344), (20, [15, 3], [1], 24), (0, [15], [], 298), (40, [13, 14], [], 0), (0, [14], [], 1), (22, [13, 10, 12], [1], 0), (90, [13], [], 0), (91, [13], [], 5), (22, [12, 11, 7], [1], 0), (90, [12], [], 0), (91, [12], [], 1007), (20, [11, 3], [1], 83), (0, [11], [], 344), (20, [10, 3], [1], 24), (0, [10], [], 298), (42, [8, 9], [], 0), (20, [9, 3], [1], 82), (90, [9], [], 0), (91, [9], [], 40), (5000, [0, 1, 2, 3, 4, 5, 6, 7, 8], [0, 1], 39), (0, [0], [], 285), (90, [1], [], -2147483648), (91, [1], [], 2147483647), (90, [2], [], -2147483648), (91, [2], [], 2147483647), (0, [3], [], 285), (90, [4], [], -2147483648), (91, [4], [], 2147483647), (90, [5], [], -2147483648), (91, [5], [], 2147483647), (90, [6], [], -2147483648), (91, [6], [], 2147483647), (90, [7], [], 0), (91, [7], [], 39), (90, [8], [], 0), (91, [8], [], 40)], (4000, [3, 4, 5, 32, 7, 33], [5], 39))
theorem c_300_39_27 {q0 : Nat} : vOkm T0 (eP e_300 L_300 A_300 mu_300 (some q0)) 3 g_300_39_27 := vOk_inI fun ρ η f0 f1 f2 f3 f4 f5 f6 f7 f8 f9 f10 f11 f12 f13 f14 f15 f16 f17 f18 f19 f20 f21 f22 f23 f24 f25 f26 f27 f28 f29 f30 f31 f32 f33 f34 f35 f36 f37 f38 f39 f40 f41 f42 f43 f44 f45 f46 f47 f48 f49 f50 f51 f52 f53 f54 f55 f56 f57 f58 f59 f60 f61 f62 f63 f64 f65 f66 f67 f68 f69 f70 f71 f72 f73 f74 f75 f76 f77 f78 f79 f80 f81 f82 f83 => q_300_26 (q0 := q0) (n0 := ρ 8) (n1 := ρ 7) (n2 := ρ 6) (n3 := ρ 5) (n4 := ρ 4) (n5 := ρ 3) (n6 := ρ 2) (n7 := ρ 1) (n8 := ρ 0) (n9 := ρ 9) (n10 := ρ 10) (n11 := ρ 11) (n12 := ρ 12) (n13 := ρ 13) (n14 := ρ 14) (n15 := ρ 15) (n16 := ρ 16) (n17 := ρ 17) (n18 := ρ 18) (n19 := ρ 19) (n20 := ρ 20) (n21 := ρ 21) (n22 := ρ 22) (n23 := ρ 23) (n24 := ρ 24) (n25 := ρ 25) (n26 := ρ 26) (n27 := ρ 27) (n28 := ρ 28) (n29 := ρ 29) (n30 := ρ 30) (n31 := ρ 31) (n32 := ρ 32) (n33 := ρ 33) (H0 := η 0) (H1 := η 1) (H2 := η 2) (H3 := η 3) (H4 := η 4) (H5 := η 5) f83 f82 f81 f80 f79 f78 f77 f76 f75 f74 f73 f72 f71 f70 f69 f68 f67 f66 f65 f64 f63 f62 f61 f60 f59 f58 f57 f56 f55 f54 f53 f52 f51 f50 f49 f48 f47 f46 f45 f44 f43 f42 f41 f40 f39 f38 f37 f36 f35 f34 f33 f32 f31 f30 f29 f28 f27 f26 f25 f24 f23 f22 f21 f20 f19 f18 f17 f16 f15 f14 f13 f12 f11 f10 f9 f8 f7 f6 f5 f4 f3 f2 f1 f0
def g_300_39_28 : vG := ([(10, [32, 8], [], 1), (42, [8, 9], [], 0), (91, [9], [], 40), (90, [8], [], 0)], (90, [32], [], 0))
theorem c_300_39_28 {q0 : Nat} : vOkm T0 (eP e_300 L_300 A_300 mu_300 (some q0)) 3 g_300_39_28 := vOk_inI fun ρ η f0 f1 f2 f3 => q_300_11 (q0 := q0) (n0 := ρ 8) (n1 := ρ 9) (n2 := ρ 32) (H0 := η 0) f3 f2 f1 f0
def g_300_39_29 : vG := ([(10, [32, 8], [], 1), (42, [8, 9], [], 0), (91, [9], [], 40), (90, [8], [], 0)], (91, [32], [], 40))
theorem c_300_39_29 {q0 : Nat} : vOkm T0 (eP e_300 L_300 A_300 mu_300 (some q0)) 3 g_300_39_29 := vOk_inI fun ρ η f0 f1 f2 f3 => q_300_12 (q0 := q0) (n0 := ρ 8) (n1 := ρ 9) (n2 := ρ 32) (H0 := η 0) f3 f2 f1 f0
theorem q_300_27 {q0 : Nat} {n0 n1 n2 n3 n4 n5 n6 n7 n8 n9 n10 n11 n12 n13 n14 n15 n16 n17 n18 n19 n20 n21 n22 n23 n24 n25 n26 n27 n28 n29 n30 n31 n32 : Int} {H0 H1 H2 H3 H4 H5 : gH} (f0 : n0 ≤ 40) (f1 : 0 ≤ n0) (f2 : n1 ≤ 39) (f3 : 0 ≤ n1) (f4 : n2 ≤ 2147483647) (f5 : (-2147483648) ≤ n2) (f6 : n3 ≤ 2147483647) (f7 : (-2147483648) ≤ n3) (f8 : n4 ≤ 2147483647) (f9 : (-2147483648) ≤ n4) (f10 : n5 = 285) (f11 : n6 ≤ 2147483647) (f12 : (-2147483648) ≤ n6) (f13 : n7 ≤ 2147483647) (f14 : (-2147483648) ≤ n7) (f15 : n8 = 285) (f16 : (hLe T0 H0 H1 ∧ hFr s_300.2.2.2.2 H0 H1 ∧ hWt T0 H1) ∧ (Ab_300_39 n8 n7 n6 n5 n4 n3 n2 n1 n0 H0 H1 ∧ preb_300 n8 n7 n6 H0) ∧ some q0 = some (mub_300_39 n8 n7 n6 n5 n4 n3 n2 n1 n0 H0 H1)) (f17 : n9 ≤ 40) (f18 : 0 ≤ n9) (f19 : n9 = hV H1 (n5).toNat 82) (f20 : n0 < n9) (f21 : n10 = 298) (f22 : n10 = hV H1 (n5).toNat 24) (f23 : n11 = 344) (f24 : n11 = hV H1 (n5).toNat 83) (f25 : n12 ≤ 1007) (f26 : 0 ≤ n12) (f27 : n12 = hV H1 (n11).toNat (n1).toNat) (f28 : n13 ≤ 5) (f29 : 0 ≤ n13) (f30 : n13 = hV H1 (n10).toNat (n12).toNat) (f31 : n14 = 1) (f32 : n13 = n14) (f33 : n15 = 298) (f34 : n15 = hV H1 (n5).toNat 24) (f35 : n16 = 344) (f36 : n16 = hV H1 (n5).toNat 83) (f37 : n17 ≤ 1007) (f38 : 0 ≤ n17) (f39 : n17 = hV H1 (n16).toNat (n0).toNat) (f40 : n18 ≤ 5) (f41 : 0 ≤ n18) (f42 : n18 = hV H1 (n15).toNat (n17).toNat) (f43 : n19 = 1) (f44 : n18 = n19) (f45 : n20 = 300) (f46 : n20 = hV H1 (n5).toNat 26) (f47 : n21 = 344) (f48 : n21 = hV H1 (n5).toNat 83) (f49 : n22 ≤ 1007) (f50 : 0 ≤ n22) (f51 : n22 = hV H1 (n21).toNat (n1).toNat) (f52 : n23 ≤ 9999) (f53 : (-1) ≤ n23) (f54 : n23 = hV H1 (n20).toNat (n22).toNat) (f55 : n24 = 300) (f56 : n24 = hV H1 (n5).toNat 26) (f57 : n25 = 344) (f58 : n25 = hV H1 (n5).toNat 83) (f59 : n26 ≤ 1007) (f60 : 0 ≤ n26) (f61 : n26 = hV H1 (n25).toNat (n0).toNat) (f62 : n27 ≤ 9999) (f63 : (-1) ≤ n27) (f64 : n27 = hV H1 (n24).toNat (n26).toNat) (f65 : n23 = n27) (f66 : n28 ≤ 10999) (f67 : (-10999) ≤ n28) (f68 : (hLe T0 H1 H2 ∧ hFr s_271.2.2.2.2 H1 H2 ∧ ((0 : Int) = 0 → H2.length = H1.length) ∧ hWt T0 H2) ∧ True) (f69 : n29 ≤ 10999) (f70 : (-10999) ≤ n29) (f71 : (hLe T0 H2 H3 ∧ hFr s_271.2.2.2.2 H2 H3 ∧ ((0 : Int) = 0 → H3.length = H2.length) ∧ hWt T0 H3) ∧ True) (f72 : n29 ≤ n28) (f73 : n1 = n1) (f74 : n30 ≤ 10999) (f75 : (-10999) ≤ n30) (f76 : (hLe T0 H3 H4 ∧ hFr s_271.2.2.2.2 H3 H4 ∧ ((0 : Int) = 0 → H4.length = H3.length) ∧ hWt T0 H4) ∧ True) (f77 : n31 ≤ 10999) (f78 : (-10999) ≤ n31) (f79 : (hLe T0 H4 H5 ∧ hFr s_272.2.2.2.2 H4 H5 ∧ ((0 : Int) = 0 → H5.length = H4.length) ∧ hWt T0 H5) ∧ True) (f80 : n31 ≤ n30) (f81 : n32 = w32 (n0 + 1)) : Ab_300_39 n8 n7 n6 n5 n4 n3 n2 n1 n32 H0 H5 ∧ ∀ q, some q0 = some q → mub_300_39 n8 n7 n6 n5 n4 n3 n2 n1 n32 H0 H5 < q := by
  have g4 := f16.2.1.1
  unfold Ab_300_39 at g4
  have g3 := f16.2.1.2
  unfold preb_300 at g3
  have g5 := Option.some.inj f16.2.2
  unfold mub_300_39 at g5
  unfold Ab_300_39
  unfold mub_300_39
  have e0 : n9 = hV H1 285 82 := (by rw [f10] at f19; exact f19 : n9 = hV H1 285 82)
  have e1 : n12 = hV H1 344 (n1).toNat := (by rw [f23] at f27; exact f27 : n12 = hV H1 344 (n1).toNat)
  have e3 : n13 = hV H0 298 (n12).toNat := (by rw [f21] at f30; exact f30 : n13 = hV H1 298 (n12).toNat).trans ((congrFun (fRow f16.1.2.1 298 kR_300_298) _))
  have e4 : n17 = hV H1 344 (n0).toNat := (by rw [f35] at f39; exact f39 : n17 = hV H1 344 (n0).toNat)
  have e5 : n18 = hV H0 298 (n17).toNat := (by rw [f33] at f42; exact f42 : n18 = hV H1 298 (n17).toNat).trans ((congrFun (fRow f16.1.2.1 298 kR_300_298) _))
  have e6 : n22 = hV H1 344 (n1).toNat := (by rw [f47] at f51; exact f51 : n22 = hV H1 344 (n1).toNat)
  have e8 : n23 = hV H0 300 (n22).toNat := (by rw [f45] at f54; exact f54 : n23 = hV H1 300 (n22).toNat).trans ((congrFun (fRow f16.1.2.1 300 kR_300_300) _))
  have e9 : n26 = hV H1 344 (n0).toNat := (by rw [f57] at f61; exact f61 : n26 = hV H1 344 (n0).toNat)
  have e10 : n27 = hV H0 300 (n26).toNat := (by rw [f55] at f64; exact f64 : n27 = hV H1 300 (n26).toNat).trans ((congrFun (fRow f16.1.2.1 300 kR_300_300) _))
  have e15 : hV H5 285 82 = hV H1 285 82 := ((f79.1.2.1.1 285 82 kF_272_285_82)).trans (((f76.1.2.1.1 285 82 kF_271_285_82)).trans (((f71.1.2.1.1 285 82 kF_271_285_82)).trans (f68.1.2.1.1 285 82 kF_271_285_82)))
  have e16 : XQ H2 = XQ H1 := XQ_fr f68.1.2.1 (by decide +kernel)
  have e17 : XQ H3 = XQ H2 := XQ_fr f71.1.2.1 (by decide +kernel)
  have e18 : XQ H3 = XQ H1 := e17.trans e16
  have e19 : XQ H4 = XQ H3 := XQ_fr f76.1.2.1 (by decide +kernel)
  have e20 : XQ H4 = XQ H1 := e19.trans e18
  have e21 : XQ H5 = XQ H4 := XQ_fr f79.1.2.1 (by decide +kernel)
  have e22 : XQ H5 = XQ H1 := e21.trans e20
  have e23 : (0 : Int) ≤ hV H1 285 82 ∧ hV H1 285 82 ≤ 40 := f16.1.2.2 285 82 _ _ kW_285_82
  try simp only [e15, e22]
  have k0 := g4.1
  have k1 := g4.2.1
  have y0 := g4.2.2.1
  have y1 := g4.2.2.2
  have p0 := g3
  clear g3
  clear g4
  clear f19 f22 f24 f27 f30 f34 f36 f39 f42 f46 f48 f51 f54 f56 f58 f61 f64 e15 e16 e17 e18 e19 e20 e21 e22
  clear f16 f68 f71 f76 f79
  subst e0
  subst e1
  subst e3
  subst e4
  subst e5
  subst e6
  subst e8
  subst e9
  subst e10
  first
  | (have ix0 : n32 = n0 + 1 := Eq.trans f81 (w32_iv (Iad (Iat f1 f0) (IC 1)) (by decide)); subst ix0; clear f81)
  | (have ix0 : n32 = n0 + 1 := Eq.trans f81 (w32_id (by omega) (by omega)); subst ix0; clear f81)
  | (unfold w32 at f81; have ix0 : n32 = n0 + 1 := (by omega); subst ix0)
  | skip
  try unfold w32 at f81
  try subst k1
  try subst k0
  refine ⟨?_, fun q hq => ?_⟩
  · refine ⟨?_, ?_, ?_, ?_⟩ <;> first | assumption | omega | trivial
  · have g6 := Option.some.inj hq
    subst g6
    omega
def g_300_39_30 : vG := ([(10, [32, 8], [], 1), (43, [30, 31], [], 0), (1272, [31, 3, 7], [4, 5], 0), (90, [31], [], -10999), (91, [31], [], 10999), (1271, [30, 3, 8], [3, 4], 0), (90, [30], [], -10999), (91, [30], [], 10999), (40, [7, 7], [], 0), (43, [28, 29], [], 0), (1271, [29, 3, 7], [2, 3], 0), (90, [29], [], -10999), (91, [29], [], 10999), (1271, [28, 3, 8], [1, 2], 0), (90, [28], [], -10999), (91, [28], [], 10999), (40, [23, 27], [], 0), (22, [27, 24, 26], [1], 0), (90, [27], [], -1), (91, [27], [], 9999), (22, [26, 25, 8], [1], 0), (90, [26], [], 0), (91, [26], [], 1007), (20, [25, 3], [1], 83), (0, [25], [], 344), (20, [24, 3], [1], 26), (0, [24], [], 300), (22, [23, 20, 22], [1], 0), (90, [23], [], -1), (91, [23], [], 9999), (22, [22, 21, 7], [1], 0), (90, [22], [], 0), (91, [22], [], 1007), (20, [21, 3], [1], 83), (0, [21], [], 344), (20, [20, 3], [1], 26), (0, [20], [], 300), (40, [18, 19], [], 0), (0, [19], [], 1), (22, [18, 15, 17], [1], 0), (90, [18], [], 0), (91, [18], [], 5), (22, [17, 16, 8], [1], 0), (90, [17], [], 0), (91, [17], [], 1007), (20, [16, 3], [1], 83), (0, [16], [], 344), (20, [15, 3], [1], 24), (0, [15], [], 298), (40, [13, 14], [], 0), (0, [14], [], 1), (22, [13, 10, 12], [1], 0), (90, [13], [], 0), (91, [13], [], 5), (22, [12, 11, 7], [1], 0), (90, [12], [], 0), (91, [12], [], 1007), (20, [11, 3], [1], 83), (0, [11], [], 344), (20, [10, 3], [1], 24), (0, [10], [], 298), (42, [8, 9], [], 0), (20, [9, 3], [1], 82), (90, [9], [], 0), (91, [9], [], 40), (5000, [0, 1, 2, 3, 4, 5, 6, 7, 8], [0, 1], 39), (0, [0], [], 285), (90, [1], [], -2147483648), (91, [1], [], 2147483647), (90, [2], [], -2147483648), (91, [2], [], 2147483647), (0, [3], [], 285), (90, [4], [], -2147483648), (91, [4], [], 2147483647), (90, [5], [], -2147483648), (91, [5], [], 2147483647), (90, [6], [], -2147483648), (91, [6], [], 2147483647), (90, [7], [], 0), (91, [7], [], 39), (90, [8], [], 0), (91, [8], [], 40)], (4000, [3, 4, 5, 6, 7, 32], [5], 39))
theorem c_300_39_30 {q0 : Nat} : vOkm T0 (eP e_300 L_300 A_300 mu_300 (some q0)) 3 g_300_39_30 := vOk_inI fun ρ η f0 f1 f2 f3 f4 f5 f6 f7 f8 f9 f10 f11 f12 f13 f14 f15 f16 f17 f18 f19 f20 f21 f22 f23 f24 f25 f26 f27 f28 f29 f30 f31 f32 f33 f34 f35 f36 f37 f38 f39 f40 f41 f42 f43 f44 f45 f46 f47 f48 f49 f50 f51 f52 f53 f54 f55 f56 f57 f58 f59 f60 f61 f62 f63 f64 f65 f66 f67 f68 f69 f70 f71 f72 f73 f74 f75 f76 f77 f78 f79 f80 f81 => q_300_27 (q0 := q0) (n0 := ρ 8) (n1 := ρ 7) (n2 := ρ 6) (n3 := ρ 5) (n4 := ρ 4) (n5 := ρ 3) (n6 := ρ 2) (n7 := ρ 1) (n8 := ρ 0) (n9 := ρ 9) (n10 := ρ 10) (n11 := ρ 11) (n12 := ρ 12) (n13 := ρ 13) (n14 := ρ 14) (n15 := ρ 15) (n16 := ρ 16) (n17 := ρ 17) (n18 := ρ 18) (n19 := ρ 19) (n20 := ρ 20) (n21 := ρ 21) (n22 := ρ 22) (n23 := ρ 23) (n24 := ρ 24) (n25 := ρ 25) (n26 := ρ 26) (n27 := ρ 27) (n28 := ρ 28) (n29 := ρ 29) (n30 := ρ 30) (n31 := ρ 31) (n32 := ρ 32) (H0 := η 0) (H1 := η 1) (H2 := η 2) (H3 := η 3) (H4 := η 4) (H5 := η 5) f81 f80 f79 f78 f77 f76 f75 f74 f73 f72 f71 f70 f69 f68 f67 f66 f65 f64 f63 f62 f61 f60 f59 f58 f57 f56 f55 f54 f53 f52 f51 f50 f49 f48 f47 f46 f45 f44 f43 f42 f41 f40 f39 f38 f37 f36 f35 f34 f33 f32 f31 f30 f29 f28 f27 f26 f25 f24 f23 f22 f21 f20 f19 f18 f17 f16 f15 f14 f13 f12 f11 f10 f9 f8 f7 f6 f5 f4 f3 f2 f1 f0
theorem q_300_28 {q0 : Nat} {n0 n1 n2 n3 n4 n5 n6 n7 n8 n9 n10 n11 n12 n13 n14 n15 n16 n17 n18 n19 n20 n21 n22 n23 n24 n25 n26 n27 n28 n29 : Int} {H0 H1 H2 H3 : gH} (f0 : n0 ≤ 40) (f1 : 0 ≤ n0) (f2 : n1 ≤ 39) (f3 : 0 ≤ n1) (f4 : n2 ≤ 2147483647) (f5 : (-2147483648) ≤ n2) (f6 : n3 ≤ 2147483647) (f7 : (-2147483648) ≤ n3) (f8 : n4 ≤ 2147483647) (f9 : (-2147483648) ≤ n4) (f10 : n5 = 285) (f11 : n6 ≤ 2147483647) (f12 : (-2147483648) ≤ n6) (f13 : n7 ≤ 2147483647) (f14 : (-2147483648) ≤ n7) (f15 : n8 = 285) (f16 : (hLe T0 H0 H1 ∧ hFr s_300.2.2.2.2 H0 H1 ∧ hWt T0 H1) ∧ (Ab_300_39 n8 n7 n6 n5 n4 n3 n2 n1 n0 H0 H1 ∧ preb_300 n8 n7 n6 H0) ∧ some q0 = some (mub_300_39 n8 n7 n6 n5 n4 n3 n2 n1 n0 H0 H1)) (f17 : n9 ≤ 40) (f18 : 0 ≤ n9) (f19 : n9 = hV H1 (n5).toNat 82) (f20 : n0 < n9) (f21 : n10 = 298) (f22 : n10 = hV H1 (n5).toNat 24) (f23 : n11 = 344) (f24 : n11 = hV H1 (n5).toNat 83) (f25 : n12 ≤ 1007) (f26 : 0 ≤ n12) (f27 : n12 = hV H1 (n11).toNat (n1).toNat) (f28 : n13 ≤ 5) (f29 : 0 ≤ n13) (f30 : n13 = hV H1 (n10).toNat (n12).toNat) (f31 : n14 = 1) (f32 : n13 = n14) (f33 : n15 = 298) (f34 : n15 = hV H1 (n5).toNat 24) (f35 : n16 = 344) (f36 : n16 = hV H1 (n5).toNat 83) (f37 : n17 ≤ 1007) (f38 : 0 ≤ n17) (f39 : n17 = hV H1 (n16).toNat (n0).toNat) (f40 : n18 ≤ 5) (f41 : 0 ≤ n18) (f42 : n18 = hV H1 (n15).toNat (n17).toNat) (f43 : n19 = 1) (f44 : n18 = n19) (f45 : n20 = 300) (f46 : n20 = hV H1 (n5).toNat 26) (f47 : n21 = 344) (f48 : n21 = hV H1 (n5).toNat 83) (f49 : n22 ≤ 1007) (f50 : 0 ≤ n22) (f51 : n22 = hV H1 (n21).toNat (n1).toNat) (f52 : n23 ≤ 9999) (f53 : (-1) ≤ n23) (f54 : n23 = hV H1 (n20).toNat (n22).toNat) (f55 : n24 = 300) (f56 : n24 = hV H1 (n5).toNat 26) (f57 : n25 = 344) (f58 : n25 = hV H1 (n5).toNat 83) (f59 : n26 ≤ 1007) (f60 : 0 ≤ n26) (f61 : n26 = hV H1 (n25).toNat (n0).toNat) (f62 : n27 ≤ 9999) (f63 : (-1) ≤ n27) (f64 : n27 = hV H1 (n24).toNat (n26).toNat) (f65 : n23 = n27) (f66 : n28 ≤ 10999) (f67 : (-10999) ≤ n28) (f68 : (hLe T0 H1 H2 ∧ hFr s_271.2.2.2.2 H1 H2 ∧ ((0 : Int) = 0 → H2.length = H1.length) ∧ hWt T0 H2) ∧ True) (f69 : n29 ≤ 10999) (f70 : (-10999) ≤ n29) (f71 : (hLe T0 H2 H3 ∧ hFr s_271.2.2.2.2 H2 H3 ∧ ((0 : Int) = 0 → H3.length = H2.length) ∧ hWt T0 H3) ∧ True) (f72 : n28 < n29) (f73 : n0 ≠ n1) : preb_271 n5 n1 H3 := by
  have g4 := f16.2.1.1
  unfold Ab_300_39 at g4
  have g3 := f16.2.1.2
  unfold preb_300 at g3
  unfold preb_271
  have e0 : n9 = hV H1 285 82 := (by rw [f10] at f19; exact f19 : n9 = hV H1 285 82)
  have e1 : n12 = hV H1 344 (n1).toNat := (by rw [f23] at f27; exact f27 : n12 = hV H1 344 (n1).toNat)
  have e3 : n13 = hV H0 298 (n12).toNat := (by rw [f21] at f30; exact f30 : n13 = hV H1 298 (n12).toNat).trans ((congrFun (fRow f16.1.2.1 298 kR_300_298) _))
  have e4 : n17 = hV H1 344 (n0).toNat := (by rw [f35] at f39; exact f39 : n17 = hV H1 344 (n0).toNat)
  have e5 : n18 = hV H0 298 (n17).toNat := (by rw [f33] at f42; exact f42 : n18 = hV H1 298 (n17).toNat).trans ((congrFun (fRow f16.1.2.1 298 kR_300_298) _))
  have e6 : n22 = hV H1 344 (n1).toNat := (by rw [f47] at f51; exact f51 : n22 = hV H1 344 (n1).toNat)
  have e8 : n23 = hV H0 300 (n22).toNat := (by rw [f45] at f54; exact f54 : n23 = hV H1 300 (n22).toNat).trans ((congrFun (fRow f16.1.2.1 300 kR_300_300) _))
  have e9 : n26 = hV H1 344 (n0).toNat := (by rw [f57] at f61; exact f61 : n26 = hV H1 344 (n0).toNat)
  have e10 : n27 = hV H0 300 (n26).toNat := (by rw [f55] at f64; exact f64 : n27 = hV H1 300 (n26).toNat).trans ((congrFun (fRow f16.1.2.1 300 kR_300_300) _))
  have e13 : hV H3 285 82 = hV H1 285 82 := ((f71.1.2.1.1 285 82 kF_271_285_82)).trans (f68.1.2.1.1 285 82 kF_271_285_82)
  have e17 : hV H3 298 = hV H0 298 := (fRow f71.1.2.1 298 kR_271_298).trans ((fRow f68.1.2.1 298 kR_271_298).trans (fRow f16.1.2.1 298 kR_300_298))
  have e20 : hV H3 344 = hV H1 344 := (fRow f71.1.2.1 344 kR_271_344).trans (fRow f68.1.2.1 344 kR_271_344)
  have e21 : XQ H2 = XQ H1 := XQ_fr f68.1.2.1 (by decide +kernel)
  have e22 : XQ H3 = XQ H2 := XQ_fr f71.1.2.1 (by decide +kernel)
  have e23 : XQ H3 = XQ H1 := e22.trans e21
  have e24 : (0 : Int) ≤ hV H1 285 82 ∧ hV H1 285 82 ≤ 40 := f16.1.2.2 285 82 _ _ kW_285_82
  try simp only [e13, e17, e20, e23]
  have k0 := g4.1
  have k1 := g4.2.1
  have y0 := g4.2.2.1
  have y1 := g4.2.2.2
  have p0 := g3
  clear g3
  clear g4
  clear f19 f22 f24 f27 f30 f34 f36 f39 f42 f46 f48 f51 f54 f56 f58 f61 f64 e13 e17 e20 e21 e22 e23
  clear f16 f68 f71
  subst e0
  subst e1
  subst e3
  subst e4
  subst e5
  subst e6
  subst e8
  subst e9
  subst e10
  try subst k1
  try subst k0
  refine ⟨?_, ?_, ?_⟩ <;> first | assumption | omega | trivial
def g_300_39_31 : vG := ([(41, [8, 7], [], 0), (42, [28, 29], [], 0), (1271, [29, 3, 7], [2, 3], 0), (90, [29], [], -10999), (91, [29], [], 10999), (1271, [28, 3, 8], [1, 2], 0), (90, [28], [], -10999), (91, [28], [], 10999), (40, [23, 27], [], 0), (22, [27, 24, 26], [1], 0), (90, [27], [], -1), (91, [27], [], 9999), (22, [26, 25, 8], [1], 0), (90, [26], [], 0), (91, [26], [], 1007), (20, [25, 3], [1], 83), (0, [25], [], 344), (20, [24, 3], [1], 26), (0, [24], [], 300), (22, [23, 20, 22], [1], 0), (90, [23], [], -1), (91, [23], [], 9999), (22, [22, 21, 7], [1], 0), (90, [22], [], 0), (91, [22], [], 1007), (20, [21, 3], [1], 83), (0, [21], [], 344), (20, [20, 3], [1], 26), (0, [20], [], 300), (40, [18, 19], [], 0), (0, [19], [], 1), (22, [18, 15, 17], [1], 0), (90, [18], [], 0), (91, [18], [], 5), (22, [17, 16, 8], [1], 0), (90, [17], [], 0), (91, [17], [], 1007), (20, [16, 3], [1], 83), (0, [16], [], 344), (20, [15, 3], [1], 24), (0, [15], [], 298), (40, [13, 14], [], 0), (0, [14], [], 1), (22, [13, 10, 12], [1], 0), (90, [13], [], 0), (91, [13], [], 5), (22, [12, 11, 7], [1], 0), (90, [12], [], 0), (91, [12], [], 1007), (20, [11, 3], [1], 83), (0, [11], [], 344), (20, [10, 3], [1], 24), (0, [10], [], 298), (42, [8, 9], [], 0), (20, [9, 3], [1], 82), (90, [9], [], 0), (91, [9], [], 40), (5000, [0, 1, 2, 3, 4, 5, 6, 7, 8], [0, 1], 39), (0, [0], [], 285), (90, [1], [], -2147483648), (91, [1], [], 2147483647), (90, [2], [], -2147483648), (91, [2], [], 2147483647), (0, [3], [], 285), (90, [4], [], -2147483648), (91, [4], [], 2147483647), (90, [5], [], -2147483648), (91, [5], [], 2147483647), (90, [6], [], -2147483648), (91, [6], [], 2147483647), (90, [7], [], 0), (91, [7], [], 39), (90, [8], [], 0), (91, [8], [], 40)], (2271, [3, 7], [3], 0))
theorem c_300_39_31 {q0 : Nat} : vOkm T0 (eP e_300 L_300 A_300 mu_300 (some q0)) 3 g_300_39_31 := vOk_inI fun ρ η f0 f1 f2 f3 f4 f5 f6 f7 f8 f9 f10 f11 f12 f13 f14 f15 f16 f17 f18 f19 f20 f21 f22 f23 f24 f25 f26 f27 f28 f29 f30 f31 f32 f33 f34 f35 f36 f37 f38 f39 f40 f41 f42 f43 f44 f45 f46 f47 f48 f49 f50 f51 f52 f53 f54 f55 f56 f57 f58 f59 f60 f61 f62 f63 f64 f65 f66 f67 f68 f69 f70 f71 f72 f73 => q_300_28 (q0 := q0) (n0 := ρ 8) (n1 := ρ 7) (n2 := ρ 6) (n3 := ρ 5) (n4 := ρ 4) (n5 := ρ 3) (n6 := ρ 2) (n7 := ρ 1) (n8 := ρ 0) (n9 := ρ 9) (n10 := ρ 10) (n11 := ρ 11) (n12 := ρ 12) (n13 := ρ 13) (n14 := ρ 14) (n15 := ρ 15) (n16 := ρ 16) (n17 := ρ 17) (n18 := ρ 18) (n19 := ρ 19) (n20 := ρ 20) (n21 := ρ 21) (n22 := ρ 22) (n23 := ρ 23) (n24 := ρ 24) (n25 := ρ 25) (n26 := ρ 26) (n27 := ρ 27) (n28 := ρ 28) (n29 := ρ 29) (H0 := η 0) (H1 := η 1) (H2 := η 2) (H3 := η 3) f73 f72 f71 f70 f69 f68 f67 f66 f65 f64 f63 f62 f61 f60 f59 f58 f57 f56 f55 f54 f53 f52 f51 f50 f49 f48 f47 f46 f45 f44 f43 f42 f41 f40 f39 f38 f37 f36 f35 f34 f33 f32 f31 f30 f29 f28 f27 f26 f25 f24 f23 f22 f21 f20 f19 f18 f17 f16 f15 f14 f13 f12 f11 f10 f9 f8 f7 f6 f5 f4 f3 f2 f1 f0
def g_300_39_32 : vG := ([(42, [8, 9], [], 0), (91, [9], [], 40)], (91, [8], [], 39))
theorem c_300_39_32 {q0 : Nat} : vOkm T0 (eP e_300 L_300 A_300 mu_300 (some q0)) 3 g_300_39_32 := vOk_inI fun ρ η f0 f1 => q_300_4 (q0 := q0) (n0 := ρ 9) (n1 := ρ 8) (H0 := η 0) f1 f0
theorem q_300_29 {q0 : Nat} {n0 n1 n2 n3 n4 n5 n6 n7 n8 n9 n10 n11 n12 n13 n14 n15 n16 n17 n18 n19 n20 n21 n22 n23 n24 n25 n26 n27 n28 n29 n30 : Int} {H0 H1 H2 H3 H4 : gH} (f0 : n0 ≤ 40) (f1 : 0 ≤ n0) (f2 : n1 ≤ 39) (f3 : 0 ≤ n1) (f4 : n2 ≤ 2147483647) (f5 : (-2147483648) ≤ n2) (f6 : n3 ≤ 2147483647) (f7 : (-2147483648) ≤ n3) (f8 : n4 ≤ 2147483647) (f9 : (-2147483648) ≤ n4) (f10 : n5 = 285) (f11 : n6 ≤ 2147483647) (f12 : (-2147483648) ≤ n6) (f13 : n7 ≤ 2147483647) (f14 : (-2147483648) ≤ n7) (f15 : n8 = 285) (f16 : (hLe T0 H0 H1 ∧ hFr s_300.2.2.2.2 H0 H1 ∧ hWt T0 H1) ∧ (Ab_300_39 n8 n7 n6 n5 n4 n3 n2 n1 n0 H0 H1 ∧ preb_300 n8 n7 n6 H0) ∧ some q0 = some (mub_300_39 n8 n7 n6 n5 n4 n3 n2 n1 n0 H0 H1)) (f17 : n9 ≤ 40) (f18 : 0 ≤ n9) (f19 : n9 = hV H1 (n5).toNat 82) (f20 : n0 < n9) (f21 : n10 = 298) (f22 : n10 = hV H1 (n5).toNat 24) (f23 : n11 = 344) (f24 : n11 = hV H1 (n5).toNat 83) (f25 : n12 ≤ 1007) (f26 : 0 ≤ n12) (f27 : n12 = hV H1 (n11).toNat (n1).toNat) (f28 : n13 ≤ 5) (f29 : 0 ≤ n13) (f30 : n13 = hV H1 (n10).toNat (n12).toNat) (f31 : n14 = 1) (f32 : n13 = n14) (f33 : n15 = 298) (f34 : n15 = hV H1 (n5).toNat 24) (f35 : n16 = 344) (f36 : n16 = hV H1 (n5).toNat 83) (f37 : n17 ≤ 1007) (f38 : 0 ≤ n17) (f39 : n17 = hV H1 (n16).toNat (n0).toNat) (f40 : n18 ≤ 5) (f41 : 0 ≤ n18) (f42 : n18 = hV H1 (n15).toNat (n17).toNat) (f43 : n19 = 1) (f44 : n18 = n19) (f45 : n20 = 300) (f46 : n20 = hV H1 (n5).toNat 26) (f47 : n21 = 344) (f48 : n21 = hV H1 (n5).toNat 83) (f49 : n22 ≤ 1007) (f50 : 0 ≤ n22) (f51 : n22 = hV H1 (n21).toNat (n1).toNat) (f52 : n23 ≤ 9999) (f53 : (-1) ≤ n23) (f54 : n23 = hV H1 (n20).toNat (n22).toNat) (f55 : n24 = 300) (f56 : n24 = hV H1 (n5).toNat 26) (f57 : n25 = 344) (f58 : n25 = hV H1 (n5).toNat 83) (f59 : n26 ≤ 1007) (f60 : 0 ≤ n26) (f61 : n26 = hV H1 (n25).toNat (n0).toNat) (f62 : n27 ≤ 9999) (f63 : (-1) ≤ n27) (f64 : n27 = hV H1 (n24).toNat (n26).toNat) (f65 : n23 = n27) (f66 : n28 ≤ 10999) (f67 : (-10999) ≤ n28) (f68 : (hLe T0 H1 H2 ∧ hFr s_271.2.2.2.2 H1 H2 ∧ ((0 : Int) = 0 → H2.length = H1.length) ∧ hWt T0 H2) ∧ True) (f69 : n29 ≤ 10999) (f70 : (-10999) ≤ n29) (f71 : (hLe T0 H2 H3 ∧ hFr s_271.2.2.2.2 H2 H3 ∧ ((0 : Int) = 0 → H3.length = H2.length) ∧ hWt T0 H3) ∧ True) (f72 : n28 < n29) (f73 : n0 ≠ n1) (f74 : n30 ≤ 10999) (f75 : (-10999) ≤ n30) (f76 : (hLe T0 H3 H4 ∧ hFr s_271.2.2.2.2 H3 H4 ∧ ((0 : Int) = 0 → H4.length = H3.length) ∧ hWt T0 H4) ∧ True) : preb_272 n5 n0 H4 := by
  have g4 := f16.2.1.1
  unfold Ab_300_39 at g4
  have g3 := f16.2.1.2
  unfold preb_300 at g3
  unfold preb_272
  have e0 : n9 = hV H1 285 82 := (by rw [f10] at f19; exact f19 : n9 = hV H1 285 82)
  have e1 : n12 = hV H1 344 (n1).toNat := (by rw [f23] at f27; exact f27 : n12 = hV H1 344 (n1).toNat)
  have e3 : n13 = hV H0 298 (n12).toNat := (by rw [f21] at f30; exact f30 : n13 = hV H1 298 (n12).toNat).trans ((congrFun (fRow f16.1.2.1 298 kR_300_298) _))
  have e4 : n17 = hV H1 344 (n0).toNat := (by rw [f35] at f39; exact f39 : n17 = hV H1 344 (n0).toNat)
  have e5 : n18 = hV H0 298 (n17).toNat := (by rw [f33] at f42; exact f42 : n18 = hV H1 298 (n17).toNat).trans ((congrFun (fRow f16.1.2.1 298 kR_300_298) _))
  have e6 : n22 = hV H1 344 (n1).toNat := (by rw [f47] at f51; exact f51 : n22 = hV H1 344 (n1).toNat)
  have e8 : n23 = hV H0 300 (n22).toNat := (by rw [f45] at f54; exact f54 : n23 = hV H1 300 (n22).toNat).trans ((congrFun (fRow f16.1.2.1 300 kR_300_300) _))
  have e9 : n26 = hV H1 344 (n0).toNat := (by rw [f57] at f61; exact f61 : n26 = hV H1 344 (n0).toNat)
  have e10 : n27 = hV H0 300 (n26).toNat := (by rw [f55] at f64; exact f64 : n27 = hV H1 300 (n26).toNat).trans ((congrFun (fRow f16.1.2.1 300 kR_300_300) _))
  have e14 : hV H4 285 82 = hV H1 285 82 := ((f76.1.2.1.1 285 82 kF_271_285_82)).trans (((f71.1.2.1.1 285 82 kF_271_285_82)).trans (f68.1.2.1.1 285 82 kF_271_285_82))
  have e20 : hV H4 298 = hV H0 298 := (fRow f76.1.2.1 298 kR_271_298).trans ((fRow f71.1.2.1 298 kR_271_298).trans ((fRow f68.1.2.1 298 kR_271_298).trans (fRow f16.1.2.1 298 kR_300_298)))
  have e25 : hV H4 344 = hV H1 344 := (fRow f76.1.2.1 344 kR_271_344).trans ((fRow f71.1.2.1 344 kR_271_344).trans (fRow f68.1.2.1 344 kR_271_344))
  have e26 : XQ H2 = XQ H1 := XQ_fr f68.1.2.1 (by decide +kernel)
  have e27 : XQ H3 = XQ H2 := XQ_fr f71.1.2.1 (by decide +kernel)
  have e28 : XQ H3 = XQ H1 := e27.trans e26
  have e29 : XQ H4 = XQ H3 := XQ_fr f76.1.2.1 (by decide +kernel)
  have e30 : XQ H4 = XQ H1 := e29.trans e28
  have e31 : (0 : Int) ≤ hV H1 285 82 ∧ hV H1 285 82 ≤ 40 := f16.1.2.2 285 82 _ _ kW_285_82
  try simp only [e14, e20, e25, e30]
  have k0 := g4.1
  have k1 := g4.2.1
  have y0 := g4.2.2.1
  have y1 := g4.2.2.2
  have p0 := g3
  clear g3
  clear g4
  clear f19 f22 f24 f27 f30 f34 f36 f39 f42 f46 f48 f51 f54 f56 f58 f61 f64 e14 e20 e25 e26 e27 e28 e29 e30
  clear f16 f68 f71 f76
  subst e0
  subst e1
  subst e3
  subst e4
  subst e5
  subst e6
  subst e8
  subst e9
  subst e10
  try subst k1
  try subst k0
  refine ⟨?_, ?_, ?_⟩ <;> first | assumption | omega | trivial
def g_300_39_33 : vG := ([(1271, [30, 3, 7], [3, 4], 0), (90, [30], [], -10999), (91, [30], [], 10999), (41, [8, 7], [], 0), (42, [28, 29], [], 0), (1271, [29, 3, 7], [2, 3], 0), (90, [29], [], -10999), (91, [29], [], 10999), (1271, [28, 3, 8], [1, 2], 0), (90, [28], [], -10999), (91, [28], [], 10999), (40, [23, 27], [], 0), (22, [27, 24, 26], [1], 0), (90, [27], [], -1), (91, [27], [], 9999), (22, [26, 25, 8], [1], 0), (90, [26], [], 0), (91, [26], [], 1007), (20, [25, 3], [1], 83), (0, [25], [], 344), (20, [24, 3], [1], 26), (0, [24], [], 300), (22, [23, 20, 22], [1], 0), (90, [23], [], -1), (91, [23], [], 9999), (22, [22, 21, 7], [1], 0), (90, [22], [], 0), (91, [22], [], 1007), (20, [21, 3], [1], 83), (0, [21], [], 344), (20, [20, 3], [1], 26), (0, [20], [], 300), (40, [18, 19], [], 0), (0, [19], [], 1), (22, [18, 15, 17], [1], 0), (90, [18], [], 0), (91, [18], [], 5), (22, [17, 16, 8], [1], 0), (90, [17], [], 0), (91, [17], [], 1007), (20, [16, 3], [1], 83), (0, [16], [], 344), (20, [15, 3], [1], 24), (0, [15], [], 298), (40, [13, 14], [], 0), (0, [14], [], 1), (22, [13, 10, 12], [1], 0), (90, [13], [], 0), (91, [13], [], 5), (22, [12, 11, 7], [1], 0), (90, [12], [], 0), (91, [12], [], 1007), (20, [11, 3], [1], 83), (0, [11], [], 344), (20, [10, 3], [1], 24), (0, [10], [], 298), (42, [8, 9], [], 0), (20, [9, 3], [1], 82), (90, [9], [], 0), (91, [9], [], 40), (5000, [0, 1, 2, 3, 4, 5, 6, 7, 8], [0, 1], 39), (0, [0], [], 285), (90, [1], [], -2147483648), (91, [1], [], 2147483647), (90, [2], [], -2147483648), (91, [2], [], 2147483647), (0, [3], [], 285), (90, [4], [], -2147483648), (91, [4], [], 2147483647), (90, [5], [], -2147483648), (91, [5], [], 2147483647), (90, [6], [], -2147483648), (91, [6], [], 2147483647), (90, [7], [], 0), (91, [7], [], 39), (90, [8], [], 0), (91, [8], [], 40)], (2272, [3, 8], [4], 0))
theorem c_300_39_33 {q0 : Nat} : vOkm T0 (eP e_300 L_300 A_300 mu_300 (some q0)) 3 g_300_39_33 := vOk_inI fun ρ η f0 f1 f2 f3 f4 f5 f6 f7 f8 f9 f10 f11 f12 f13 f14 f15 f16 f17 f18 f19 f20 f21 f22 f23 f24 f25 f26 f27 f28 f29 f30 f31 f32 f33 f34 f35 f36 f37 f38 f39 f40 f41 f42 f43 f44 f45 f46 f47 f48 f49 f50 f51 f52 f53 f54 f55 f56 f57 f58 f59 f60 f61 f62 f63 f64 f65 f66 f67 f68 f69 f70 f71 f72 f73 f74 f75 f76 => q_300_29 (q0 := q0) (n0 := ρ 8) (n1 := ρ 7) (n2 := ρ 6) (n3 := ρ 5) (n4 := ρ 4) (n5 := ρ 3) (n6 := ρ 2) (n7 := ρ 1) (n8 := ρ 0) (n9 := ρ 9) (n10 := ρ 10) (n11 := ρ 11) (n12 := ρ 12) (n13 := ρ 13) (n14 := ρ 14) (n15 := ρ 15) (n16 := ρ 16) (n17 := ρ 17) (n18 := ρ 18) (n19 := ρ 19) (n20 := ρ 20) (n21 := ρ 21) (n22 := ρ 22) (n23 := ρ 23) (n24 := ρ 24) (n25 := ρ 25) (n26 := ρ 26) (n27 := ρ 27) (n28 := ρ 28) (n29 := ρ 29) (n30 := ρ 30) (H0 := η 0) (H1 := η 1) (H2 := η 2) (H3 := η 3) (H4 := η 4) f76 f75 f74 f73 f72 f71 f70 f69 f68 f67 f66 f65 f64 f63 f62 f61 f60 f59 f58 f57 f56 f55 f54 f53 f52 f51 f50 f49 f48 f47 f46 f45 f44 f43 f42 f41 f40 f39 f38 f37 f36 f35 f34 f33 f32 f31 f30 f29 f28 f27 f26 f25 f24 f23 f22 f21 f20 f19 f18 f17 f16 f15 f14 f13 f12 f11 f10 f9 f8 f7 f6 f5 f4 f3 f2 f1 f0
def g_300_39_34 : vG := ([(10, [33, 8], [], 1), (42, [8, 9], [], 0), (91, [9], [], 40), (90, [8], [], 0)], (90, [33], [], 0))
theorem c_300_39_34 {q0 : Nat} : vOkm T0 (eP e_300 L_300 A_300 mu_300 (some q0)) 3 g_300_39_34 := vOk_inI fun ρ η f0 f1 f2 f3 => q_300_11 (q0 := q0) (n0 := ρ 8) (n1 := ρ 9) (n2 := ρ 33) (H0 := η 0) f3 f2 f1 f0
def g_300_39_35 : vG := ([(10, [33, 8], [], 1), (42, [8, 9], [], 0), (91, [9], [], 40), (90, [8], [], 0)], (91, [33], [], 40))
theorem c_300_39_35 {q0 : Nat} : vOkm T0 (eP e_300 L_300 A_300 mu_300 (some q0)) 3 g_300_39_35 := vOk_inI fun ρ η f0 f1 f2 f3 => q_300_12 (q0 := q0) (n0 := ρ 8) (n1 := ρ 9) (n2 := ρ 33) (H0 := η 0) f3 f2 f1 f0
theorem q_300_30 {q0 : Nat} {n0 n1 n2 n3 n4 n5 n6 n7 n8 n9 n10 n11 n12 n13 n14 n15 n16 n17 n18 n19 n20 n21 n22 n23 n24 n25 n26 n27 n28 n29 n30 n31 n32 n33 : Int} {H0 H1 H2 H3 H4 H5 : gH} (f0 : n0 ≤ 40) (f1 : 0 ≤ n0) (f2 : n1 ≤ 39) (f3 : 0 ≤ n1) (f4 : n2 ≤ 2147483647) (f5 : (-2147483648) ≤ n2) (f6 : n3 ≤ 2147483647) (f7 : (-2147483648) ≤ n3) (f8 : n4 ≤ 2147483647) (f9 : (-2147483648) ≤ n4) (f10 : n5 = 285) (f11 : n6 ≤ 2147483647) (f12 : (-2147483648) ≤ n6) (f13 : n7 ≤ 2147483647) (f14 : (-2147483648) ≤ n7) (f15 : n8 = 285) (f16 : (hLe T0 H0 H1 ∧ hFr s_300.2.2.2.2 H0 H1 ∧ hWt T0 H1) ∧ (Ab_300_39 n8 n7 n6 n5 n4 n3 n2 n1 n0 H0 H1 ∧ preb_300 n8 n7 n6 H0) ∧ some q0 = some (mub_300_39 n8 n7 n6 n5 n4 n3 n2 n1 n0 H0 H1)) (f17 : n9 ≤ 40) (f18 : 0 ≤ n9) (f19 : n9 = hV H1 (n5).toNat 82) (f20 : n0 < n9) (f21 : n10 = 298) (f22 : n10 = hV H1 (n5).toNat 24) (f23 : n11 = 344) (f24 : n11 = hV H1 (n5).toNat 83) (f25 : n12 ≤ 1007) (f26 : 0 ≤ n12) (f27 : n12 = hV H1 (n11).toNat (n1).toNat) (f28 : n13 ≤ 5) (f29 : 0 ≤ n13) (f30 : n13 = hV H1 (n10).toNat (n12).toNat) (f31 : n14 = 1) (f32 : n13 = n14) (f33 : n15 = 298) (f34 : n15 = hV H1 (n5).toNat 24) (f35 : n16 = 344) (f36 : n16 = hV H1 (n5).toNat 83) (f37 : n17 ≤ 1007) (f38 : 0 ≤ n17) (f39 : n17 = hV H1 (n16).toNat (n0).toNat) (f40 : n18 ≤ 5) (f41 : 0 ≤ n18) (f42 : n18 = hV H1 (n15).toNat (n17).toNat) (f43 : n19 = 1) (f44 : n18 = n19) (f45 : n20 = 300) (f46 : n20 = hV H1 (n5).toNat 26) (f47 : n21 = 344) (f48 : n21 = hV H1 (n5).toNat 83) (f49 : n22 ≤ 1007) (f50 : 0 ≤ n22) (f51 : n22 = hV H1 (n21).toNat (n1).toNat) (f52 : n23 ≤ 9999) (f53 : (-1) ≤ n23) (f54 : n23 = hV H1 (n20).toNat (n22).toNat) (f55 : n24 = 300) (f56 : n24 = hV H1 (n5).toNat 26) (f57 : n25 = 344) (f58 : n25 = hV H1 (n5).toNat 83) (f59 : n26 ≤ 1007) (f60 : 0 ≤ n26) (f61 : n26 = hV H1 (n25).toNat (n0).toNat) (f62 : n27 ≤ 9999) (f63 : (-1) ≤ n27) (f64 : n27 = hV H1 (n24).toNat (n26).toNat) (f65 : n23 = n27) (f66 : n28 ≤ 10999) (f67 : (-10999) ≤ n28) (f68 : (hLe T0 H1 H2 ∧ hFr s_271.2.2.2.2 H1 H2 ∧ ((0 : Int) = 0 → H2.length = H1.length) ∧ hWt T0 H2) ∧ True) (f69 : n29 ≤ 10999) (f70 : (-10999) ≤ n29) (f71 : (hLe T0 H2 H3 ∧ hFr s_271.2.2.2.2 H2 H3 ∧ ((0 : Int) = 0 → H3.length = H2.length) ∧ hWt T0 H3) ∧ True) (f72 : n28 < n29) (f73 : n0 ≠ n1) (f74 : n30 ≤ 10999) (f75 : (-10999) ≤ n30) (f76 : (hLe T0 H3 H4 ∧ hFr s_271.2.2.2.2 H3 H4 ∧ ((0 : Int) = 0 → H4.length = H3.length) ∧ hWt T0 H4) ∧ True) (f77 : n31 ≤ 10999) (f78 : (-10999) ≤ n31) (f79 : (hLe T0 H4 H5 ∧ hFr s_272.2.2.2.2 H4 H5 ∧ ((0 : Int) = 0 → H5.length = H4.length) ∧ hWt T0 H5) ∧ True) (f80 : n30 < n31) (f81 : n2 ≠ 0) (f82 : n32 = w32 (n2 + (-1))) (f83 : n33 = w32 (n0 + 1)) : Ab_300_39 n8 n7 n6 n5 n4 n3 n32 n1 n33 H0 H5 ∧ ∀ q, some q0 = some q → mub_300_39 n8 n7 n6 n5 n4 n3 n32 n1 n33 H0 H5 < q := by
  have g4 := f16.2.1.1
  unfold Ab_300_39 at g4
  have g3 := f16.2.1.2
  unfold preb_300 at g3
  have g5 := Option.some.inj f16.2.2
  unfold mub_300_39 at g5
  unfold Ab_300_39
  unfold mub_300_39
  have e0 : n9 = hV H1 285 82 := (by rw [f10] at f19; exact f19 : n9 = hV H1 285 82)
  have e1 : n12 = hV H1 344 (n1).toNat := (by rw [f23] at f27; exact f27 : n12 = hV H1 344 (n1).toNat)
  have e3 : n13 = hV H0 298 (n12).toNat := (by rw [f21] at f30; exact f30 : n13 = hV H1 298 (n12).toNat).trans ((congrFun (fRow f16.1.2.1 298 kR_300_298) _))
  have e4 : n17 = hV H1 344 (n0).toNat := (by rw [f35] at f39; exact f39 : n17 = hV H1 344 (n0).toNat)
  have e5 : n18 = hV H0 298 (n17).toNat := (by rw [f33] at f42; exact f42 : n18 = hV H1 298 (n17).toNat).trans ((congrFun (fRow f16.1.2.1 298 kR_300_298) _))
  have e6 : n22 = hV H1 344 (n1).toNat := (by rw [f47] at f51; exact f51 : n22 = hV H1 344 (n1).toNat)
  have e8 : n23 = hV H0 300 (n22).toNat := (by rw [f45] at f54; exact f54 : n23 = hV H1 300 (n22).toNat).trans ((congrFun (fRow f16.1.2.1 300 kR_300_300) _))
  have e9 : n26 = hV H1 344 (n0).toNat := (by rw [f57] at f61; exact f61 : n26 = hV H1 344 (n0).toNat)
  have e10 : n27 = hV H0 300 (n26).toNat := (by rw [f55] at f64; exact f64 : n27 = hV H1 300 (n26).toNat).trans ((congrFun (fRow f16.1.2.1 300 kR_300_300) _))
  have e15 : hV H5 285 82 = hV H1 285 82 := ((f79.1.2.1.1 285 82 kF_272_285_82)).trans (((f76.1.2.1.1 285 82 kF_271_285_82)).trans (((f71.1.2.1.1 285 82 kF_271_285_82)).trans (f68.1.2.1.1 285 82 kF_271_285_82)))
  have e16 : XQ H2 = XQ H1 := XQ_fr f68.1.2.1 (by decide +kernel)
  have e17 : XQ H3 = XQ H2 := XQ_fr f71.1.2.1 (by decide +kernel)
  have e18 : XQ H3 = XQ H1 := e17.trans e16
  have e19 : XQ H4 = XQ H3 := XQ_fr f76.1.2.1 (by decide +kernel)
  have e20 : XQ H4 = XQ H1 := e19.trans e18
  have e21 : XQ H5 = XQ H4 := XQ_fr f79.1.2.1 (by decide +kernel)
  have e22 : XQ H5 = XQ H1 := e21.trans e20
  have e23 : (0 : Int) ≤ hV H1 285 82 ∧ hV H1 285 82 ≤ 40 := f16.1.2.2 285 82 _ _ kW_285_82
  try simp only [e15, e22]
  have k0 := g4.1
  have k1 := g4.2.1
  have y0 := g4.2.2.1
  have y1 := g4.2.2.2
  have p0 := g3
  clear g3
  clear g4
  clear f19 f22 f24 f27 f30 f34 f36 f39 f42 f46 f48 f51 f54 f56 f58 f61 f64 e15 e16 e17 e18 e19 e20 e21 e22
  clear f16 f68 f71 f76 f79
  subst e0
  subst e1
  subst e3
  subst e4
  subst e5
  subst e6
  subst e8
  subst e9
  subst e10
  first
  | (have ix0 : n32 = n2 + -1 := Eq.trans f82 (w32_id (by omega) (by omega)); subst ix0; clear f82)
  | (unfold w32 at f82; have ix0 : n32 = n2 + -1 := (by omega); subst ix0)
  | skip
  first
  | (have ix1 : n33 = n0 + 1 := Eq.trans f83 (w32_iv (Iad (Iat f1 f0) (IC 1)) (by decide)); subst ix1; clear f83)
  | (have ix1 : n33 = n0 + 1 := Eq.trans f83 (w32_id (by omega) (by omega)); subst ix1; clear f83)
  | (unfold w32 at f83; have ix1 : n33 = n0 + 1 := (by omega); subst ix1)
  | skip
  try unfold w32 at f82
  try unfold w32 at f83
  try subst k1
  try subst k0
  refine ⟨?_, fun q hq => ?_⟩
  · refine ⟨?_, ?_, ?_, ?_⟩ <;> first | assumption | omega | trivial
  · have g6 := Option.some.inj hq
    subst g6
    omega
def g_300_39_36 : vG := ([(10, [33, 8], [], 1), (10, [32, 6], [], -1), (31, [6], [], 0), (42, [30, 31], [], 0), (1272, [31, 3, 8], [4, 5], 0), (90, [31], [], -10999), (91, [31], [], 10999), (1271, [30, 3, 7], [3, 4], 0), (90, [30], [], -10999), (91, [30], [], 10999), (41, [8, 7], [], 0), (42, [28, 29], [], 0), (1271, [29, 3, 7], [2, 3], 0), (90, [29], [], -10999), (91, [29], [], 10999), (1271, [28, 3, 8], [1, 2], 0), (90, [28], [], -10999), (91, [28], [], 10999), (40, [23, 27], [], 0), (22, [27, 24, 26], [1], 0), (90, [27], [], -1), (91, [27], [], 9999), (22, [26, 25, 8], [1], 0), (90, [26], [], 0), (91, [26], [], 1007), (20, [25, 3], [1], 83), (0, [25], [], 344), (20, [24, 3], [1], 26), (0, [24], [], 300), (22, [23, 20, 22], [1], 0), (90, [23], [], -1), (91, [23], [], 9999), (22, [22, 21, 7], [1], 0), (90, [22], [], 0), (91, [22], [], 1007), (20, [21, 3], [1], 83), (0, [21], [], 344), (20, [20, 3], [1], 26), (0, [20], [], 300), (40, [18, 19], [], 0), (0, [19], [], 1), (22, [18, 15, 17], [1], 0), (90, [18], [], 0), (91, [18], [], 5), (22, [17, 16, 8], [1], 0), (90, [17], [], 0), (91, [17], [], 1007), (20, [16, 3], [1], 83), (0, [16], [], 344), (20, [15, 3], [1], 24), (0, [15], [], 298), (40, [13, 14], [], 0), (0, [14], [], 1), (22, [13, 10, 12], [1], 0), (90, [13], [], 0), (91, [13], [], 5), (22, [12, 11, 7], [1], 0), (90, [12], [], 0), (91, [12], [], 1007), (20, [11, 3], [1], 83), (0, [11], [], 344), (20, [10, 3], [1], 24), (0, [10], [], 298), (42, [8, 9], [], 0), (20, [9, 3], [1], 82), (90, [9], [], 0), (91, [9], [], 40), (5000, [0, 1, 2, 3, 4, 5, 6, 7, 8], [0, 1], 39), (0, [0], [], 285), (90, [1], [], -2147483648), (91, [1], [], 2147483647), (90, [2], [], -2147483648), (91, [2], [], 2147483647), (0, [3], [], 285), (90, [4], [], -2147483648), (91, [4], [], 2147483647), (90, [5], [], -2147483648), (91, [5], [], 2147483647), (90, [6], [], -2147483648), (91, [6], [], 2147483647), (90, [7], [], 0), (91, [7], [], 39), (90, [8], [], 0), (91, [8], [], 40)], (4000, [3, 4, 5, 32, 7, 33], [5], 39))
theorem c_300_39_36 {q0 : Nat} : vOkm T0 (eP e_300 L_300 A_300 mu_300 (some q0)) 3 g_300_39_36 := vOk_inI fun ρ η f0 f1 f2 f3 f4 f5 f6 f7 f8 f9 f10 f11 f12 f13 f14 f15 f16 f17 f18 f19 f20 f21 f22 f23 f24 f25 f26 f27 f28 f29 f30 f31 f32 f33 f34 f35 f36 f37 f38 f39 f40 f41 f42 f43 f44 f45 f46 f47 f48 f49 f50 f51 f52 f53 f54 f55 f56 f57 f58 f59 f60 f61 f62 f63 f64 f65 f66 f67 f68 f69 f70 f71 f72 f73 f74 f75 f76 f77 f78 f79 f80 f81 f82 f83 => q_300_30 (q0 := q0) (n0 := ρ 8) (n1 := ρ 7) (n2 := ρ 6) (n3 := ρ 5) (n4 := ρ 4) (n5 := ρ 3) (n6 := ρ 2) (n7 := ρ 1) (n8 := ρ 0) (n9 := ρ 9) (n10 := ρ 10) (n11 := ρ 11) (n12 := ρ 12) (n13 := ρ 13) (n14 := ρ 14) (n15 := ρ 15) (n16 := ρ 16) (n17 := ρ 17) (n18 := ρ 18) (n19 := ρ 19) (n20 := ρ 20) (n21 := ρ 21) (n22 := ρ 22) (n23 := ρ 23) (n24 := ρ 24) (n25 := ρ 25) (n26 := ρ 26) (n27 := ρ 27) (n28 := ρ 28) (n29 := ρ 29) (n30 := ρ 30) (n31 := ρ 31) (n32 := ρ 32) (n33 := ρ 33) (H0 := η 0) (H1 := η 1) (H2 := η 2) (H3 := η 3) (H4 := η 4) (H5 := η 5) f83 f82 f81 f80 f79 f78 f77 f76 f75 f74 f73 f72 f71 f70 f69 f68 f67 f66 f65 f64 f63 f62 f61 f60 f59 f58 f57 f56 f55 f54 f53 f52 f51 f50 f49 f48 f47 f46 f45 f44 f43 f42 f41 f40 f39 f38 f37 f36 f35 f34 f33 f32 f31 f30 f29 f28 f27 f26 f25 f24 f23 f22 f21 f20 f19 f18 f17 f16 f15 f14 f13 f12 f11 f10 f9 f8 f7 f6 f5 f4 f3 f2 f1 f0
def g_300_39_37 : vG := ([(10, [32, 8], [], 1), (42, [8, 9], [], 0), (91, [9], [], 40), (90, [8], [], 0)], (90, [32], [], 0))
theorem c_300_39_37 {q0 : Nat} : vOkm T0 (eP e_300 L_300 A_300 mu_300 (some q0)) 3 g_300_39_37 := vOk_inI fun ρ η f0 f1 f2 f3 => q_300_11 (q0 := q0) (n0 := ρ 8) (n1 := ρ 9) (n2 := ρ 32) (H0 := η 0) f3 f2 f1 f0
def g_300_39_38 : vG := ([(10, [32, 8], [], 1), (42, [8, 9], [], 0), (91, [9], [], 40), (90, [8], [], 0)], (91, [32], [], 40))
theorem c_300_39_38 {q0 : Nat} : vOkm T0 (eP e_300 L_300 A_300 mu_300 (some q0)) 3 g_300_39_38 := vOk_inI fun ρ η f0 f1 f2 f3 => q_300_12 (q0 := q0) (n0 := ρ 8) (n1 := ρ 9) (n2 := ρ 32) (H0 := η 0) f3 f2 f1 f0
theorem q_300_31 {q0 : Nat} {n0 n1 n2 n3 n4 n5 n6 n7 n8 n9 n10 n11 n12 n13 n14 n15 n16 n17 n18 n19 n20 n21 n22 n23 n24 n25 n26 n27 n28 n29 n30 n31 n32 : Int} {H0 H1 H2 H3 H4 H5 : gH} (f0 : n0 ≤ 40) (f1 : 0 ≤ n0) (f2 : n1 ≤ 39) (f3 : 0 ≤ n1) (f4 : n2 ≤ 2147483647) (f5 : (-2147483648) ≤ n2) (f6 : n3 ≤ 2147483647) (f7 : (-2147483648) ≤ n3) (f8 : n4 ≤ 2147483647) (f9 : (-2147483648) ≤ n4) (f10 : n5 = 285) (f11 : n6 ≤ 2147483647) (f12 : (-2147483648) ≤ n6) (f13 : n7 ≤ 2147483647) (f14 : (-2147483648) ≤ n7) (f15 : n8 = 285) (f16 : (hLe T0 H0 H1 ∧ hFr s_300.2.2.2.2 H0 H1 ∧ hWt T0 H1) ∧ (Ab_300_39 n8 n7 n6 n5 n4 n3 n2 n1 n0 H0 H1 ∧ preb_300 n8 n7 n6 H0) ∧ some q0 = some (mub_300_39 n8 n7 n6 n5 n4 n3 n2 n1 n0 H0 H1)) (f17 : n9 ≤ 40) (f18 : 0 ≤ n9) (f19 : n9 = hV H1 (n5).toNat 82) (f20 : n0 < n9) (f21 : n10 = 298) (f22 : n10 = hV H1 (n5).toNat 24) (f23 : n11 = 344) (f24 : n11 = hV H1 (n5).toNat 83) (f25 : n12 ≤ 1007) (f26 : 0 ≤ n12) (f27 : n12 = hV H1 (n11).toNat (n1).toNat) (f28 : n13 ≤ 5) (f29 : 0 ≤ n13) (f30 : n13 = hV H1 (n10).toNat (n12).toNat) (f31 : n14 = 1) (f32 : n13 = n14) (f33 : n15 = 298) (f34 : n15 = hV H1 (n5).toNat 24) (f35 : n16 = 344) (f36 : n16 = hV H1 (n5).toNat 83) (f37 : n17 ≤ 1007) (f38 : 0 ≤ n17) (f39 : n17 = hV H1 (n16).toNat (n0).toNat) (f40 : n18 ≤ 5) (f41 : 0 ≤ n18) (f42 : n18 = hV H1 (n15).toNat (n17).toNat) (f43 : n19 = 1) (f44 : n18 = n19) (f45 : n20 = 300) (f46 : n20 = hV H1 (n5).toNat 26) (f47 : n21 = 344) (f48 : n21 = hV H1 (n5).toNat 83) (f49 : n22 ≤ 1007) (f50 : 0 ≤ n22) (f51 : n22 = hV H1 (n21).toNat (n1).toNat) (f52 : n23 ≤ 9999) (f53 : (-1) ≤ n23) (f54 : n23 = hV H1 (n20).toNat (n22).toNat) (f55 : n24 = 300) (f56 : n24 = hV H1 (n5).toNat 26) (f57 : n25 = 344) (f58 : n25 = hV H1 (n5).toNat 83) (f59 : n26 ≤ 1007) (f60 : 0 ≤ n26) (f61 : n26 = hV H1 (n25).toNat (n0).toNat) (f62 : n27 ≤ 9999) (f63 : (-1) ≤ n27) (f64 : n27 = hV H1 (n24).toNat (n26).toNat) (f65 : n23 = n27) (f66 : n28 ≤ 10999) (f67 : (-10999) ≤ n28) (f68 : (hLe T0 H1 H2 ∧ hFr s_271.2.2.2.2 H1 H2 ∧ ((0 : Int) = 0 → H2.length = H1.length) ∧ hWt T0 H2) ∧ True) (f69 : n29 ≤ 10999) (f70 : (-10999) ≤ n29) (f71 : (hLe T0 H2 H3 ∧ hFr s_271.2.2.2.2 H2 H3 ∧ ((0 : Int) = 0 → H3.length = H2.length) ∧ hWt T0 H3) ∧ True) (f72 : n28 < n29) (f73 : n0 ≠ n1) (f74 : n30 ≤ 10999) (f75 : (-10999) ≤ n30) (f76 : (hLe T0 H3 H4 ∧ hFr s_271.2.2.2.2 H3 H4 ∧ ((0 : Int) = 0 → H4.length = H3.length) ∧ hWt T0 H4) ∧ True) (f77 : n31 ≤ 10999) (f78 : (-10999) ≤ n31) (f79 : (hLe T0 H4 H5 ∧ hFr s_272.2.2.2.2 H4 H5 ∧ ((0 : Int) = 0 → H5.length = H4.length) ∧ hWt T0 H5) ∧ True) (f80 : n31 ≤ n30) (f81 : n32 = w32 (n0 + 1)) : Ab_300_39 n8 n7 n6 n5 n4 n3 n2 n1 n32 H0 H5 ∧ ∀ q, some q0 = some q → mub_300_39 n8 n7 n6 n5 n4 n3 n2 n1 n32 H0 H5 < q := by
  have g4 := f16.2.1.1
  unfold Ab_300_39 at g4
  have g3 := f16.2.1.2
  unfold preb_300 at g3
  have g5 := Option.some.inj f16.2.2
  unfold mub_300_39 at g5
  unfold Ab_300_39
  unfold mub_300_39
  have e0 : n9 = hV H1 285 82 := (by rw [f10] at f19; exact f19 : n9 = hV H1 285 82)
  have e1 : n12 = hV H1 344 (n1).toNat := (by rw [f23] at f27; exact f27 : n12 = hV H1 344 (n1).toNat)
  have e3 : n13 = hV H0 298 (n12).toNat := (by rw [f21] at f30; exact f30 : n13 = hV H1 298 (n12).toNat).trans ((congrFun (fRow f16.1.2.1 298 kR_300_298) _))
  have e4 : n17 = hV H1 344 (n0).toNat := (by rw [f35] at f39; exact f39 : n17 = hV H1 344 (n0).toNat)
  have e5 : n18 = hV H0 298 (n17).toNat := (by rw [f33] at f42; exact f42 : n18 = hV H1 298 (n17).toNat).trans ((congrFun (fRow f16.1.2.1 298 kR_300_298) _))
  have e6 : n22 = hV H1 344 (n1).toNat := (by rw [f47] at f51; exact f51 : n22 = hV H1 344 (n1).toNat)
  have e8 : n23 = hV H0 300 (n22).toNat := (by rw [f45] at f54; exact f54 : n23 = hV H1 300 (n22).toNat).trans ((congrFun (fRow f16.1.2.1 300 kR_300_300) _))
  have e9 : n26 = hV H1 344 (n0).toNat := (by rw [f57] at f61; exact f61 : n26 = hV H1 344 (n0).toNat)
  have e10 : n27 = hV H0 300 (n26).toNat := (by rw [f55] at f64; exact f64 : n27 = hV H1 300 (n26).toNat).trans ((congrFun (fRow f16.1.2.1 300 kR_300_300) _))
  have e15 : hV H5 285 82 = hV H1 285 82 := ((f79.1.2.1.1 285 82 kF_272_285_82)).trans (((f76.1.2.1.1 285 82 kF_271_285_82)).trans (((f71.1.2.1.1 285 82 kF_271_285_82)).trans (f68.1.2.1.1 285 82 kF_271_285_82)))
  have e16 : XQ H2 = XQ H1 := XQ_fr f68.1.2.1 (by decide +kernel)
  have e17 : XQ H3 = XQ H2 := XQ_fr f71.1.2.1 (by decide +kernel)
  have e18 : XQ H3 = XQ H1 := e17.trans e16
  have e19 : XQ H4 = XQ H3 := XQ_fr f76.1.2.1 (by decide +kernel)
  have e20 : XQ H4 = XQ H1 := e19.trans e18
  have e21 : XQ H5 = XQ H4 := XQ_fr f79.1.2.1 (by decide +kernel)
  have e22 : XQ H5 = XQ H1 := e21.trans e20
  have e23 : (0 : Int) ≤ hV H1 285 82 ∧ hV H1 285 82 ≤ 40 := f16.1.2.2 285 82 _ _ kW_285_82
  try simp only [e15, e22]
  have k0 := g4.1
  have k1 := g4.2.1
  have y0 := g4.2.2.1
  have y1 := g4.2.2.2
  have p0 := g3
  clear g3
  clear g4
  clear f19 f22 f24 f27 f30 f34 f36 f39 f42 f46 f48 f51 f54 f56 f58 f61 f64 e15 e16 e17 e18 e19 e20 e21 e22
  clear f16 f68 f71 f76 f79
  subst e0
  subst e1
  subst e3
  subst e4
  subst e5
  subst e6
  subst e8
  subst e9
  subst e10
  first
  | (have ix0 : n32 = n0 + 1 := Eq.trans f81 (w32_iv (Iad (Iat f1 f0) (IC 1)) (by decide)); subst ix0; clear f81)
  | (have ix0 : n32 = n0 + 1 := Eq.trans f81 (w32_id (by omega) (by omega)); subst ix0; clear f81)
  | (unfold w32 at f81; have ix0 : n32 = n0 + 1 := (by omega); subst ix0)
  | skip
  try unfold w32 at f81
  try subst k1
  try subst k0
  refine ⟨?_, fun q hq => ?_⟩
  · refine ⟨?_, ?_, ?_, ?_⟩ <;> first | assumption | omega | trivial
  · have g6 := Option.some.inj hq
    subst g6
    omega
def g_300_39_39 : vG := ([(10, [32, 8], [], 1), (43, [30, 31], [], 0), (1272, [31, 3, 8], [4, 5], 0), (90, [31], [], -10999), (91, [31], [], 10999), (1271, [30, 3, 7], [3, 4], 0), (90, [30], [], -10999), (91, [30], [], 10999), (41, [8, 7], [], 0), (42, [28, 29], [], 0), (1271, [29, 3, 7], [2, 3], 0), (90, [29], [], -10999), (91, [29], [], 10999), (1271, [28, 3, 8], [1, 2], 0), (90, [28], [], -10999), (91, [28], [], 10999), (40, [23, 27], [], 0), (22, [27, 24, 26], [1], 0), (90, [27], [], -1), (91, [27], [], 9999), (22, [26, 25, 8], [1], 0), (90, [26], [], 0), (91, [26], [], 1007), (20, [25, 3], [1], 83), (0, [25], [], 344), (20, [24, 3], [1], 26), (0, [24], [], 300), (22, [23, 20, 22], [1], 0), (90, [23], [], -1), (91, [23], [], 9999), (22, [22, 21, 7], [1], 0), (90, [22], [], 0), (91, [22], [], 1007), (20, [21, 3], [1], 83), (0, [21], [], 344), (20, [20, 3], [1], 26), (0, [20], [], 300), (40, [18, 19], [], 0), (0, [19], [], 1), (22, [18, 15, 17], [1], 0), (90, [18], [], 0), (91, [18], [], 5), (22, [17, 16, 8], [1], 0), (90, [17], [], 0), (91, [17], [], 1007), (20, [16, 3], [1], 83), (0, [16], [], 344), (20, [15, 3], [1], 24), (0, [15], [], 298), (40, [13, 14], [], 0), (0, [14], [], 1), (22, [13, 10, 12], [1], 0), (90, [13], [], 0), (91, [13], [], 5), (22, [12, 11, 7], [1], 0), (90, [12], [], 0), (91, [12], [], 1007), (20, [11, 3], [1], 83), (0, [11], [], 344), (20, [10, 3], [1], 24), (0, [10], [], 298), (42, [8, 9], [], 0), (20, [9, 3], [1], 82), (90, [9], [], 0), (91, [9], [], 40), (5000, [0, 1, 2, 3, 4, 5, 6, 7, 8], [0, 1], 39), (0, [0], [], 285), (90, [1], [], -2147483648), (91, [1], [], 2147483647), (90, [2], [], -2147483648), (91, [2], [], 2147483647), (0, [3], [], 285), (90, [4], [], -2147483648), (91, [4], [], 2147483647), (90, [5], [], -2147483648), (91, [5], [], 2147483647), (90, [6], [], -2147483648), (91, [6], [], 2147483647), (90, [7], [], 0), (91, [7], [], 39), (90, [8], [], 0), (91, [8], [], 40)], (4000, [3, 4, 5, 6, 7, 32], [5], 39))
theorem c_300_39_39 {q0 : Nat} : vOkm T0 (eP e_300 L_300 A_300 mu_300 (some q0)) 3 g_300_39_39 := vOk_inI fun ρ η f0 f1 f2 f3 f4 f5 f6 f7 f8 f9 f10 f11 f12 f13 f14 f15 f16 f17 f18 f19 f20 f21 f22 f23 f24 f25 f26 f27 f28 f29 f30 f31 f32 f33 f34 f35 f36 f37 f38 f39 f40 f41 f42 f43 f44 f45 f46 f47 f48 f49 f50 f51 f52 f53 f54 f55 f56 f57 f58 f59 f60 f61 f62 f63 f64 f65 f66 f67 f68 f69 f70 f71 f72 f73 f74 f75 f76 f77 f78 f79 f80 f81 => q_300_31 (q0 := q0) (n0 := ρ 8) (n1 := ρ 7) (n2 := ρ 6) (n3 := ρ 5) (n4 := ρ 4) (n5 := ρ 3) (n6 := ρ 2) (n7 := ρ 1) (n8 := ρ 0) (n9 := ρ 9) (n10 := ρ 10) (n11 := ρ 11) (n12 := ρ 12) (n13 := ρ 13) (n14 := ρ 14) (n15 := ρ 15) (n16 := ρ 16) (n17 := ρ 17) (n18 := ρ 18) (n19 := ρ 19) (n20 := ρ 20) (n21 := ρ 21) (n22 := ρ 22) (n23 := ρ 23) (n24 := ρ 24) (n25 := ρ 25) (n26 := ρ 26) (n27 := ρ 27) (n28 := ρ 28) (n29 := ρ 29) (n30 := ρ 30) (n31 := ρ 31) (n32 := ρ 32) (H0 := η 0) (H1 := η 1) (H2 := η 2) (H3 := η 3) (H4 := η 4) (H5 := η 5) f81 f80 f79 f78 f77 f76 f75 f74 f73 f72 f71 f70 f69 f68 f67 f66 f65 f64 f63 f62 f61 f60 f59 f58 f57 f56 f55 f54 f53 f52 f51 f50 f49 f48 f47 f46 f45 f44 f43 f42 f41 f40 f39 f38 f37 f36 f35 f34 f33 f32 f31 f30 f29 f28 f27 f26 f25 f24 f23 f22 f21 f20 f19 f18 f17 f16 f15 f14 f13 f12 f11 f10 f9 f8 f7 f6 f5 f4 f3 f2 f1 f0
def g_300_39_40 : vG := ([(42, [8, 9], [], 0), (91, [9], [], 40)], (91, [8], [], 39))
theorem c_300_39_40 {q0 : Nat} : vOkm T0 (eP e_300 L_300 A_300 mu_300 (some q0)) 3 g_300_39_40 := vOk_inI fun ρ η f0 f1 => q_300_4 (q0 := q0) (n0 := ρ 9) (n1 := ρ 8) (H0 := η 0) f1 f0
theorem q_300_32 {q0 : Nat} {n0 n1 n2 n3 n4 n5 n6 n7 n8 n9 n10 n11 n12 n13 n14 n15 n16 n17 n18 n19 n20 n21 n22 n23 n24 n25 n26 n27 n28 n29 : Int} {H0 H1 H2 H3 : gH} (f0 : n0 ≤ 40) (f1 : 0 ≤ n0) (f2 : n1 ≤ 39) (f3 : 0 ≤ n1) (f4 : n2 ≤ 2147483647) (f5 : (-2147483648) ≤ n2) (f6 : n3 ≤ 2147483647) (f7 : (-2147483648) ≤ n3) (f8 : n4 ≤ 2147483647) (f9 : (-2147483648) ≤ n4) (f10 : n5 = 285) (f11 : n6 ≤ 2147483647) (f12 : (-2147483648) ≤ n6) (f13 : n7 ≤ 2147483647) (f14 : (-2147483648) ≤ n7) (f15 : n8 = 285) (f16 : (hLe T0 H0 H1 ∧ hFr s_300.2.2.2.2 H0 H1 ∧ hWt T0 H1) ∧ (Ab_300_39 n8 n7 n6 n5 n4 n3 n2 n1 n0 H0 H1 ∧ preb_300 n8 n7 n6 H0) ∧ some q0 = some (mub_300_39 n8 n7 n6 n5 n4 n3 n2 n1 n0 H0 H1)) (f17 : n9 ≤ 40) (f18 : 0 ≤ n9) (f19 : n9 = hV H1 (n5).toNat 82) (f20 : n0 < n9) (f21 : n10 = 298) (f22 : n10 = hV H1 (n5).toNat 24) (f23 : n11 = 344) (f24 : n11 = hV H1 (n5).toNat 83) (f25 : n12 ≤ 1007) (f26 : 0 ≤ n12) (f27 : n12 = hV H1 (n11).toNat (n1).toNat) (f28 : n13 ≤ 5) (f29 : 0 ≤ n13) (f30 : n13 = hV H1 (n10).toNat (n12).toNat) (f31 : n14 = 1) (f32 : n13 = n14) (f33 : n15 = 298) (f34 : n15 = hV H1 (n5).toNat 24) (f35 : n16 = 344) (f36 : n16 = hV H1 (n5).toNat 83) (f37 : n17 ≤ 1007) (f38 : 0 ≤ n17) (f39 : n17 = hV H1 (n16).toNat (n0).toNat) (f40 : n18 ≤ 5) (f41 : 0 ≤ n18) (f42 : n18 = hV H1 (n15).toNat (n17).toNat) (f43 : n19 = 1) (f44 : n18 = n19) (f45 : n20 = 300) (f46 : n20 = hV H1 (n5).toNat 26) (f47 : n21 = 344) (f48 : n21 = hV H1 (n5).toNat 83) (f49 : n22 ≤ 1007) (f50 : 0 ≤ n22) (f51 : n22 = hV H1 (n21).toNat (n1).toNat) (f52 : n23 ≤ 9999) (f53 : (-1) ≤ n23) (f54 : n23 = hV H1 (n20).toNat (n22).toNat) (f55 : n24 = 300) (f56 : n24 = hV H1 (n5).toNat 26) (f57 : n25 = 344) (f58 : n25 = hV H1 (n5).toNat 83) (f59 : n26 ≤ 1007) (f60 : 0 ≤ n26) (f61 : n26 = hV H1 (n25).toNat (n0).toNat) (f62 : n27 ≤ 9999) (f63 : (-1) ≤ n27) (f64 : n27 = hV H1 (n24).toNat (n26).toNat) (f65 : n23 = n27) (f66 : n28 ≤ 10999) (f67 : (-10999) ≤ n28) (f68 : (hLe T0 H1 H2 ∧ hFr s_271.2.2.2.2 H1 H2 ∧ ((0 : Int) = 0 → H2.length = H1.length) ∧ hWt T0 H2) ∧ True) (f69 : n29 ≤ 10999) (f70 : (-10999) ≤ n29) (f71 : (hLe T0 H2 H3 ∧ hFr s_271.2.2.2.2 H2 H3 ∧ ((0 : Int) = 0 → H3.length = H2.length) ∧ hWt T0 H3) ∧ True) (f72 : n28 < n29) (f73 : n0 = n1) : preb_271 n5 n0 H3 := by
  have g4 := f16.2.1.1
  unfold Ab_300_39 at g4
  have g3 := f16.2.1.2
  unfold preb_300 at g3
  unfold preb_271
  have e0 : n9 = hV H1 285 82 := (by rw [f10] at f19; exact f19 : n9 = hV H1 285 82)
  have e1 : n12 = hV H1 344 (n1).toNat := (by rw [f23] at f27; exact f27 : n12 = hV H1 344 (n1).toNat)
  have e3 : n13 = hV H0 298 (n12).toNat := (by rw [f21] at f30; exact f30 : n13 = hV H1 298 (n12).toNat).trans ((congrFun (fRow f16.1.2.1 298 kR_300_298) _))
  have e4 : n17 = hV H1 344 (n0).toNat := (by rw [f35] at f39; exact f39 : n17 = hV H1 344 (n0).toNat)
  have e5 : n18 = hV H0 298 (n17).toNat := (by rw [f33] at f42; exact f42 : n18 = hV H1 298 (n17).toNat).trans ((congrFun (fRow f16.1.2.1 298 kR_300_298) _))
  have e6 : n22 = hV H1 344 (n1).toNat := (by rw [f47] at f51; exact f51 : n22 = hV H1 344 (n1).toNat)
  have e8 : n23 = hV H0 300 (n22).toNat := (by rw [f45] at f54; exact f54 : n23 = hV H1 300 (n22).toNat).trans ((congrFun (fRow f16.1.2.1 300 kR_300_300) _))
  have e9 : n26 = hV H1 344 (n0).toNat := (by rw [f57] at f61; exact f61 : n26 = hV H1 344 (n0).toNat)
  have e10 : n27 = hV H0 300 (n26).toNat := (by rw [f55] at f64; exact f64 : n27 = hV H1 300 (n26).toNat).trans ((congrFun (fRow f16.1.2.1 300 kR_300_300) _))
  have e13 : hV H3 285 82 = hV H1 285 82 := ((f71.1.2.1.1 285 82 kF_271_285_82)).trans (f68.1.2.1.1 285 82 kF_271_285_82)
  have e17 : hV H3 298 = hV H0 298 := (fRow f71.1.2.1 298 kR_271_298).trans ((fRow f68.1.2.1 298 kR_271_298).trans (fRow f16.1.2.1 298 kR_300_298))
  have e20 : hV H3 344 = hV H1 344 := (fRow f71.1.2.1 344 kR_271_344).trans (fRow f68.1.2.1 344 kR_271_344)
  have e21 : XQ H2 = XQ H1 := XQ_fr f68.1.2.1 (by decide +kernel)
  have e22 : XQ H3 = XQ H2 := XQ_fr f71.1.2.1 (by decide +kernel)
  have e23 : XQ H3 = XQ H1 := e22.trans e21
  have e24 : (0 : Int) ≤ hV H1 285 82 ∧ hV H1 285 82 ≤ 40 := f16.1.2.2 285 82 _ _ kW_285_82
  try simp only [e13, e17, e20, e23]
  have k0 := g4.1
  have k1 := g4.2.1
  have y0 := g4.2.2.1
  have y1 := g4.2.2.2
  have p0 := g3
  clear g3
  clear g4
  clear f19 f22 f24 f27 f30 f34 f36 f39 f42 f46 f48 f51 f54 f56 f58 f61 f64 e13 e17 e20 e21 e22 e23
  clear f16 f68 f71
  subst e0
  subst e1
  subst e3
  subst e4
  subst e5
  subst e6
  subst e8
  subst e9
  subst e10
  try subst k1
  try subst k0
  refine ⟨?_, ?_, ?_⟩ <;> first | assumption | omega | trivial
def g_300_39_41 : vG := ([(40, [8, 7], [], 0), (42, [28, 29], [], 0), (1271, [29, 3, 7], [2, 3], 0), (90, [29], [], -10999), (91, [29], [], 10999), (1271, [28, 3, 8], [1, 2], 0), (90, [28], [], -10999), (91, [28], [], 10999), (40, [23, 27], [], 0), (22, [27, 24, 26], [1], 0), (90, [27], [], -1), (91, [27], [], 9999), (22, [26, 25, 8], [1], 0), (90, [26], [], 0), (91, [26], [], 1007), (20, [25, 3], [1], 83), (0, [25], [], 344), (20, [24, 3], [1], 26), (0, [24], [], 300), (22, [23, 20, 22], [1], 0), (90, [23], [], -1), (91, [23], [], 9999), (22, [22, 21, 7], [1], 0), (90, [22], [], 0), (91, [22], [], 1007), (20, [21, 3], [1], 83), (0, [21], [], 344), (20, [20, 3], [1], 26), (0, [20], [], 300), (40, [18, 19], [], 0), (0, [19], [], 1), (22, [18, 15, 17], [1], 0), (90, [18], [], 0), (91, [18], [], 5), (22, [17, 16, 8], [1], 0), (90, [17], [], 0), (91, [17], [], 1007), (20, [16, 3], [1], 83), (0, [16], [], 344), (20, [15, 3], [1], 24), (0, [15], [], 298), (40, [13, 14], [], 0), (0, [14], [], 1), (22, [13, 10, 12], [1], 0), (90, [13], [], 0), (91, [13], [], 5), (22, [12, 11, 7], [1], 0), (90, [12], [], 0), (91, [12], [], 1007), (20, [11, 3], [1], 83), (0, [11], [], 344), (20, [10, 3], [1], 24), (0, [10], [], 298), (42, [8, 9], [], 0), (20, [9, 3], [1], 82), (90, [9], [], 0), (91, [9], [], 40), (5000, [0, 1, 2, 3, 4, 5, 6, 7, 8], [0, 1], 39), (0, [0], [], 285), (90, [1], [], -2147483648), (91, [1], [], 2147483647), (90, [2], [], -2147483648), (91, [2], [], 2147483647), (0, [3], [], 285), (90, [4], [], -2147483648), (91, [4], [], 2147483647), (90, [5], [], -2147483648), (91, [5], [], 2147483647), (90, [6], [], -2147483648), (91, [6], [], 2147483647), (90, [7], [], 0), (91, [7], [], 39), (90, [8], [], 0), (91, [8], [], 40)], (2271, [3, 8], [3], 0))
theorem c_300_39_41 {q0 : Nat} : vOkm T0 (eP e_300 L_300 A_300 mu_300 (some q0)) 3 g_300_39_41 := vOk_inI fun ρ η f0 f1 f2 f3 f4 f5 f6 f7 f8 f9 f10 f11 f12 f13 f14 f15 f16 f17 f18 f19 f20 f21 f22 f23 f24 f25 f26 f27 f28 f29 f30 f31 f32 f33 f34 f35 f36 f37 f38 f39 f40 f41 f42 f43 f44 f45 f46 f47 f48 f49 f50 f51 f52 f53 f54 f55 f56 f57 f58 f59 f60 f61 f62 f63 f64 f65 f66 f67 f68 f69 f70 f71 f72 f73 => q_300_32 (q0 := q0) (n0 := ρ 8) (n1 := ρ 7) (n2 := ρ 6) (n3 := ρ 5) (n4 := ρ 4) (n5 := ρ 3) (n6 := ρ 2) (n7 := ρ 1) (n8 := ρ 0) (n9 := ρ 9) (n10 := ρ 10) (n11 := ρ 11) (n12 := ρ 12) (n13 := ρ 13) (n14 := ρ 14) (n15 := ρ 15) (n16 := ρ 16) (n17 := ρ 17) (n18 := ρ 18) (n19 := ρ 19) (n20 := ρ 20) (n21 := ρ 21) (n22 := ρ 22) (n23 := ρ 23) (n24 := ρ 24) (n25 := ρ 25) (n26 := ρ 26) (n27 := ρ 27) (n28 := ρ 28) (n29 := ρ 29) (H0 := η 0) (H1 := η 1) (H2 := η 2) (H3 := η 3) f73 f72 f71 f70 f69 f68 f67 f66 f65 f64 f63 f62 f61 f60 f59 f58 f57 f56 f55 f54 f53 f52 f51 f50 f49 f48 f47 f46 f45 f44 f43 f42 f41 f40 f39 f38 f37 f36 f35 f34 f33 f32 f31 f30 f29 f28 f27 f26 f25 f24 f23 f22 f21 f20 f19 f18 f17 f16 f15 f14 f13 f12 f11 f10 f9 f8 f7 f6 f5 f4 f3 f2 f1 f0
def g_300_39_42 : vG := ([(42, [8, 9], [], 0), (91, [9], [], 40)], (91, [8], [], 39))
theorem c_300_39_42 {q0 : Nat} : vOkm T0 (eP e_300 L_300 A_300 mu_300 (some q0)) 3 g_300_39_42 := vOk_inI fun ρ η f0 f1 => q_300_4 (q0 := q0) (n0 := ρ 9) (n1 := ρ 8) (H0 := η 0) f1 f0
theorem q_300_33 {q0 : Nat} {n0 n1 n2 n3 n4 n5 n6 n7 n8 n9 n10 n11 n12 n13 n14 n15 n16 n17 n18 n19 n20 n21 n22 n23 n24 n25 n26 n27 n28 n29 n30 : Int} {H0 H1 H2 H3 H4 : gH} (f0 : n0 ≤ 40) (f1 : 0 ≤ n0) (f2 : n1 ≤ 39) (f3 : 0 ≤ n1) (f4 : n2 ≤ 2147483647) (f5 : (-2147483648) ≤ n2) (f6 : n3 ≤ 2147483647) (f7 : (-2147483648) ≤ n3) (f8 : n4 ≤ 2147483647) (f9 : (-2147483648) ≤ n4) (f10 : n5 = 285) (f11 : n6 ≤ 2147483647) (f12 : (-2147483648) ≤ n6) (f13 : n7 ≤ 2147483647) (f14 : (-2147483648) ≤ n7) (f15 : n8 = 285) (f16 : (hLe T0 H0 H1 ∧ hFr s_300.2.2.2.2 H0 H1 ∧ hWt T0 H1) ∧ (Ab_300_39 n8 n7 n6 n5 n4 n3 n2 n1 n0 H0 H1 ∧ preb_300 n8 n7 n6 H0) ∧ some q0 = some (mub_300_39 n8 n7 n6 n5 n4 n3 n2 n1 n0 H0 H1)) (f17 : n9 ≤ 40) (f18 : 0 ≤ n9) (f19 : n9 = hV H1 (n5).toNat 82) (f20 : n0 < n9) (f21 : n10 = 298) (f22 : n10 = hV H1 (n5).toNat 24) (f23 : n11 = 344) (f24 : n11 = hV H1 (n5).toNat 83) (f25 : n12 ≤ 1007) (f26 : 0 ≤ n12) (f27 : n12 = hV H1 (n11).toNat (n1).toNat) (f28 : n13 ≤ 5) (f29 : 0 ≤ n13) (f30 : n13 = hV H1 (n10).toNat (n12).toNat) (f31 : n14 = 1) (f32 : n13 = n14) (f33 : n15 = 298) (f34 : n15 = hV H1 (n5).toNat 24) (f35 : n16 = 344) (f36 : n16 = hV H1 (n5).toNat 83) (f37 : n17 ≤ 1007) (f38 : 0 ≤ n17) (f39 : n17 = hV H1 (n16).toNat (n0).toNat) (f40 : n18 ≤ 5) (f41 : 0 ≤ n18) (f42 : n18 = hV H1 (n15).toNat (n17).toNat) (f43 : n19 = 1) (f44 : n18 = n19) (f45 : n20 = 300) (f46 : n20 = hV H1 (n5).toNat 26) (f47 : n21 = 344) (f48 : n21 = hV H1 (n5).toNat 83) (f49 : n22 ≤ 1007) (f50 : 0 ≤ n22) (f51 : n22 = hV H1 (n21).toNat (n1).toNat) (f52 : n23 ≤ 9999) (f53 : (-1) ≤ n23) (f54 : n23 = hV H1 (n20).toNat (n22).toNat) (f55 : n24 = 300) (f56 : n24 = hV H1 (n5).toNat 26) (f57 : n25 = 344) (f58 : n25 = hV H1 (n5).toNat 83) (f59 : n26 ≤ 1007) (f60 : 0 ≤ n26) (f61 : n26 = hV H1 (n25).toNat (n0).toNat) (f62 : n27 ≤ 9999) (f63 : (-1) ≤ n27) (f64 : n27 = hV H1 (n24).toNat (n26).toNat) (f65 : n23 = n27) (f66 : n28 ≤ 10999) (f67 : (-10999) ≤ n28) (f68 : (hLe T0 H1 H2 ∧ hFr s_271.2.2.2.2 H1 H2 ∧ ((0 : Int) = 0 → H2.length = H1.length) ∧ hWt T0 H2) ∧ True) (f69 : n29 ≤ 10999) (f70 : (-10999) ≤ n29) (f71 : (hLe T0 H2 H3 ∧ hFr s_271.2.2.2.2 H2 H3 ∧ ((0 : Int) = 0 → H3.length = H2.length) ∧ hWt T0 H3) ∧ True) (f72 : n28 < n29) (f73 : n0 = n1) (f74 : n30 ≤ 10999) (f75 : (-10999) ≤ n30) (f76 : (hLe T0 H3 H4 ∧ hFr s_271.2.2.2.2 H3 H4 ∧ ((0 : Int) = 0 → H4.length = H3.length) ∧ hWt T0 H4) ∧ True) : preb_272 n5 n0 H4 := by
  have g4 := f16.2.1.1
  unfold Ab_300_39 at g4
  have g3 := f16.2.1.2
  unfold preb_300 at g3
  unfold preb_272
  have e0 : n9 = hV H1 285 82 := (by rw [f10] at f19; exact f19 : n9 = hV H1 285 82)
  have e1 : n12 = hV H1 344 (n1).toNat := (by rw [f23] at f27; exact f27 : n12 = hV H1 344 (n1).toNat)
  have e3 : n13 = hV H0 298 (n12).toNat := (by rw [f21] at f30; exact f30 : n13 = hV H1 298 (n12).toNat).trans ((congrFun (fRow f16.1.2.1 298 kR_300_298) _))
  have e4 : n17 = hV H1 344 (n0).toNat := (by rw [f35] at f39; exact f39 : n17 = hV H1 344 (n0).toNat)
  have e5 : n18 = hV H0 298 (n17).toNat := (by rw [f33] at f42; exact f42 : n18 = hV H1 298 (n17).toNat).trans ((congrFun (fRow f16.1.2.1 298 kR_300_298) _))
  have e6 : n22 = hV H1 344 (n1).toNat := (by rw [f47] at f51; exact f51 : n22 = hV H1 344 (n1).toNat)
  have e8 : n23 = hV H0 300 (n22).toNat := (by rw [f45] at f54; exact f54 : n23 = hV H1 300 (n22).toNat).trans ((congrFun (fRow f16.1.2.1 300 kR_300_300) _))
  have e9 : n26 = hV H1 344 (n0).toNat := (by rw [f57] at f61; exact f61 : n26 = hV H1 344 (n0).toNat)
  have e10 : n27 = hV H0 300 (n26).toNat := (by rw [f55] at f64; exact f64 : n27 = hV H1 300 (n26).toNat).trans ((congrFun (fRow f16.1.2.1 300 kR_300_300) _))
  have e14 : hV H4 285 82 = hV H1 285 82 := ((f76.1.2.1.1 285 82 kF_271_285_82)).trans (((f71.1.2.1.1 285 82 kF_271_285_82)).trans (f68.1.2.1.1 285 82 kF_271_285_82))
  have e20 : hV H4 298 = hV H0 298 := (fRow f76.1.2.1 298 kR_271_298).trans ((fRow f71.1.2.1 298 kR_271_298).trans ((fRow f68.1.2.1 298 kR_271_298).trans (fRow f16.1.2.1 298 kR_300_298)))
  have e25 : hV H4 344 = hV H1 344 := (fRow f76.1.2.1 344 kR_271_344).trans ((fRow f71.1.2.1 344 kR_271_344).trans (fRow f68.1.2.1 344 kR_271_344))
  have e26 : XQ H2 = XQ H1 := XQ_fr f68.1.2.1 (by decide +kernel)
  have e27 : XQ H3 = XQ H2 := XQ_fr f71.1.2.1 (by decide +kernel)
  have e28 : XQ H3 = XQ H1 := e27.trans e26
  have e29 : XQ H4 = XQ H3 := XQ_fr f76.1.2.1 (by decide +kernel)
  have e30 : XQ H4 = XQ H1 := e29.trans e28
  have e31 : (0 : Int) ≤ hV H1 285 82 ∧ hV H1 285 82 ≤ 40 := f16.1.2.2 285 82 _ _ kW_285_82
  try simp only [e14, e20, e25, e30]
  have k0 := g4.1
  have k1 := g4.2.1
  have y0 := g4.2.2.1
  have y1 := g4.2.2.2
  have p0 := g3
  clear g3
  clear g4
  clear f19 f22 f24 f27 f30 f34 f36 f39 f42 f46 f48 f51 f54 f56 f58 f61 f64 e14 e20 e25 e26 e27 e28 e29 e30
  clear f16 f68 f71 f76
  subst e0
  subst e1
  subst e3
  subst e4
  subst e5
  subst e6
  subst e8
  subst e9
  subst e10
  try subst k1
  try subst k0
  refine ⟨?_, ?_, ?_⟩ <;> first | assumption | omega | trivial
def g_300_39_43 : vG := ([(1271, [30, 3, 8], [3, 4], 0), (90, [30], [], -10999), (91, [30], [], 10999), (40, [8, 7], [], 0), (42, [28, 29], [], 0), (1271, [29, 3, 7], [2, 3], 0), (90, [29], [], -10999), (91, [29], [], 10999), (1271, [28, 3, 8], [1, 2], 0), (90, [28], [], -10999), (91, [28], [], 10999), (40, [23, 27], [], 0), (22, [27, 24, 26], [1], 0), (90, [27], [], -1), (91, [27], [], 9999), (22, [26, 25, 8], [1], 0), (90, [26], [], 0), (91, [26], [], 1007), (20, [25, 3], [1], 83), (0, [25], [], 344), (20, [24, 3], [1], 26), (0, [24], [], 300), (22, [23, 20, 22], [1], 0), (90, [23], [], -1), (91, [23], [], 9999), (22, [22, 21, 7], [1], 0), (90, [22], [], 0), (91, [22], [], 1007), (20, [21, 3], [1], 83), (0, [21], [], 344), (20, [20, 3], [1], 26), (0, [20], [], 300), (40, [18, 19], [], 0), (0, [19], [], 1), (22, [18, 15, 17], [1], 0), (90, [18], [], 0), (91, [18], [], 5), (22, [17, 16, 8], [1], 0), (90, [17], [], 0), (91, [17], [], 1007), (20, [16, 3], [1], 83), (0, [16], [], 344), (20, [15, 3], [1], 24), (0, [15], [], 298), (40, [13, 14], [], 0), (0, [14], [], 1), (22, [13, 10, 12], [1], 0), (90, [13], [], 0), (91, [13], [], 5), (22, [12, 11, 7], [1], 0), (90, [12], [], 0), (91, [12], [], 1007), (20, [11, 3], [1], 83), (0, [11], [], 344), (20, [10, 3], [1], 24), (0, [10], [], 298), (42, [8, 9], [], 0), (20, [9, 3], [1], 82), (90, [9], [], 0), (91, [9], [], 40), (5000, [0, 1, 2, 3, 4, 5, 6, 7, 8], [0, 1], 39), (0, [0], [], 285), (90, [1], [], -2147483648), (91, [1], [], 2147483647), (90, [2], [], -2147483648), (91, [2], [], 2147483647), (0, [3], [], 285), (90, [4], [], -2147483648), (91, [4], [], 2147483647), (90, [5], [], -2147483648), (91, [5], [], 2147483647), (90, [6], [], -2147483648), (91, [6], [], 2147483647), (90, [7], [], 0), (91, [7], [], 39), (90, [8], [], 0), (91, [8], [], 40)], (2272, [3, 8], [4], 0))
theorem c_300_39_43 {q0 : Nat} : vOkm T0 (eP e_300 L_300 A_300 mu_300 (some q0)) 3 g_300_39_43 := vOk_inI fun ρ η f0 f1 f2 f3 f4 f5 f6 f7 f8 f9 f10 f11 f12 f13 f14 f15 f16 f17 f18 f19 f20 f21 f22 f23 f24 f25 f26 f27 f28 f29 f30 f31 f32 f33 f34 f35 f36 f37 f38 f39 f40 f41 f42 f43 f44 f45 f46 f47 f48 f49 f50 f51 f52 f53 f54 f55 f56 f57 f58 f59 f60 f61 f62 f63 f64 f65 f66 f67 f68 f69 f70 f71 f72 f73 f74 f75 f76 => q_300_33 (q0 := q0) (n0 := ρ 8) (n1 := ρ 7) (n2 := ρ 6) (n3 := ρ 5) (n4 := ρ 4) (n5 := ρ 3) (n6 := ρ 2) (n7 := ρ 1) (n8 := ρ 0) (n9 := ρ 9) (n10 := ρ 10) (n11 := ρ 11) (n12 := ρ 12) (n13 := ρ 13) (n14 := ρ 14) (n15 := ρ 15) (n16 := ρ 16) (n17 := ρ 17) (n18 := ρ 18) (n19 := ρ 19) (n20 := ρ 20) (n21 := ρ 21) (n22 := ρ 22) (n23 := ρ 23) (n24 := ρ 24) (n25 := ρ 25) (n26 := ρ 26) (n27 := ρ 27) (n28 := ρ 28) (n29 := ρ 29) (n30 := ρ 30) (H0 := η 0) (H1 := η 1) (H2 := η 2) (H3 := η 3) (H4 := η 4) f76 f75 f74 f73 f72 f71 f70 f69 f68 f67 f66 f65 f64 f63 f62 f61 f60 f59 f58 f57 f56 f55 f54 f53 f52 f51 f50 f49 f48 f47 f46 f45 f44 f43 f42 f41 f40 f39 f38 f37 f36 f35 f34 f33 f32 f31 f30 f29 f28 f27 f26 f25 f24 f23 f22 f21 f20 f19 f18 f17 f16 f15 f14 f13 f12 f11 f10 f9 f8 f7 f6 f5 f4 f3 f2 f1 f0
theorem q_300_34 {q0 : Nat} {n0 n1 n2 n3 : Int} {H0 : gH} (f0 : 0 ≤ n0) (f1 : n1 ≤ 40) (f2 : n2 < n1) (f3 : n2 = n0) (f4 : n3 = w32 (n2 + 1)) : 0 ≤ n3 := by
  first
  | (have ix0 : n3 = n2 + 1 := Eq.trans f4 (w32_id (by omega) (by omega)); subst ix0; clear f4)
  | (unfold w32 at f4; have ix0 : n3 = n2 + 1 := (by omega); subst ix0)
  | skip
  try unfold w32 at f4
  omega
def g_300_39_44 : vG := ([(10, [33, 8], [], 1), (40, [8, 7], [], 0), (42, [8, 9], [], 0), (91, [9], [], 40), (90, [7], [], 0)], (90, [33], [], 0))
theorem c_300_39_44 {q0 : Nat} : vOkm T0 (eP e_300 L_300 A_300 mu_300 (some q0)) 3 g_300_39_44 := vOk_inI fun ρ η f0 f1 f2 f3 f4 => q_300_34 (q0 := q0) (n0 := ρ 7) (n1 := ρ 9) (n2 := ρ 8) (n3 := ρ 33) (H0 := η 0) f4 f3 f2 f1 f0
theorem q_300_35 {q0 : Nat} {n0 n1 n2 n3 : Int} {H0 : gH} (f0 : 0 ≤ n0) (f1 : n1 ≤ 40) (f2 : n2 < n1) (f3 : n2 = n0) (f4 : n3 = w32 (n2 + 1)) : n3 ≤ 40 := by
  first
  | (have ix0 : n3 = n2 + 1 := Eq.trans f4 (w32_id (by omega) (by omega)); subst ix0; clear f4)
  | (unfold w32 at f4; have ix0 : n3 = n2 + 1 := (by omega); subst ix0)
  | skip
  try unfold w32 at f4
  omega
def g_300_39_45 : vG := ([(10, [33, 8], [], 1), (40, [8, 7], [], 0), (42, [8, 9], [], 0), (91, [9], [], 40), (90, [7], [], 0)], (91, [33], [], 40))
theorem c_300_39_45 {q0 : Nat} : vOkm T0 (eP e_300 L_300 A_300 mu_300 (some q0)) 3 g_300_39_45 := vOk_inI fun ρ η f0 f1 f2 f3 f4 => q_300_35 (q0 := q0) (n0 := ρ 7) (n1 := ρ 9) (n2 := ρ 8) (n3 := ρ 33) (H0 := η 0) f4 f3 f2 f1 f0
theorem q_300_36 {q0 : Nat} {n0 n1 n2 n3 n4 n5 n6 n7 n8 n9 n10 n11 n12 n13 n14 n15 n16 n17 n18 n19 n20 n21 n22 n23 n24 n25 n26 n27 n28 n29 n30 n31 n32 n33 : Int} {H0 H1 H2 H3 H4 H5 : gH} (f0 : n0 ≤ 40) (f1 : 0 ≤ n0) (f2 : n1 ≤ 39) (f3 : 0 ≤ n1) (f4 : n2 ≤ 2147483647) (f5 : (-2147483648) ≤ n2) (f6 : n3 ≤ 2147483647) (f7 : (-2147483648) ≤ n3) (f8 : n4 ≤ 2147483647) (f9 : (-2147483648) ≤ n4) (f10 : n5 = 285) (f11 : n6 ≤ 2147483647) (f12 : (-2147483648) ≤ n6) (f13 : n7 ≤ 2147483647) (f14 : (-2147483648) ≤ n7) (f15 : n8 = 285) (f16 : (hLe T0 H0 H1 ∧ hFr s_300.2.2.2.2 H0 H1 ∧ hWt T0 H1) ∧ (Ab_300_39 n8 n7 n6 n5 n4 n3 n2 n1 n0 H0 H1 ∧ preb_300 n8 n7 n6 H0) ∧ some q0 = some (mub_300_39 n8 n7 n6 n5 n4 n3 n2 n1 n0 H0 H1)) (f17 : n9 ≤ 40) (f18 : 0 ≤ n9) (f19 : n9 = hV H1 (n5).toNat 82) (f20 : n0 < n9) (f21 : n10 = 298) (f22 : n10 = hV H1 (n5).toNat 24) (f23 : n11 = 344) (f24 : n11 = hV H1 (n5).toNat 83) (f25 : n12 ≤ 1007) (f26 : 0 ≤ n12) (f27 : n12 = hV H1 (n11).toNat (n1).toNat) (f28 : n13 ≤ 5) (f29 : 0 ≤ n13) (f30 : n13 = hV H1 (n10).toNat (n12).toNat) (f31 : n14 = 1) (f32 : n13 = n14) (f33 : n15 = 298) (f34 : n15 = hV H1 (n5).toNat 24) (f35 : n16 = 344) (f36 : n16 = hV H1 (n5).toNat 83) (f37 : n17 ≤ 1007) (f38 : 0 ≤ n17) (f39 : n17 = hV H1 (n16).toNat (n0).toNat) (f40 : n18 ≤ 5) (f41 : 0 ≤ n18) (f42 : n18 = hV H1 (n15).toNat (n17).toNat) (f43 : n19 = 1) (f44 : n18 = n19) (f45 : n20 = 300) (f46 : n20 = hV H1 (n5).toNat 26) (f47 : n21 = 344) (f48 : n21 = hV H1 (n5).toNat 83) (f49 : n22 ≤ 1007) (f50 : 0 ≤ n22) (f51 : n22 = hV H1 (n21).toNat (n1).toNat) (f52 : n23 ≤ 9999) (f53 : (-1) ≤ n23) (f54 : n23 = hV H1 (n20).toNat (n22).toNat) (f55 : n24 = 300) (f56 : n24 = hV H1 (n5).toNat 26) (f57 : n25 = 344) (f58 : n25 = hV H1 (n5).toNat 83) (f59 : n26 ≤ 1007) (f60 : 0 ≤ n26) (f61 : n26 = hV H1 (n25).toNat (n0).toNat) (f62 : n27 ≤ 9999) (f63 : (-1) ≤ n27) (f64 : n27 = hV H1 (n24).toNat (n26).toNat) (f65 : n23 = n27) (f66 : n28 ≤ 10999) (f67 : (-10999) ≤ n28) (f68 : (hLe T0 H1 H2 ∧ hFr s_271.2.2.2.2 H1 H2 ∧ ((0 : Int) = 0 → H2.length = H1.length) ∧ hWt T0 H2) ∧ True) (f69 : n29 ≤ 10999) (f70 : (-10999) ≤ n29) (f71 : (hLe T0 H2 H3 ∧ hFr s_271.2.2.2.2 H2 H3 ∧ ((0 : Int) = 0 → H3.length = H2.length) ∧ hWt T0 H3) ∧ True) (f72 : n28 < n29) (f73 : n0 = n1) (f74 : n30 ≤ 10999) (f75 : (-10999) ≤ n30) (f76 : (hLe T0 H3 H4 ∧ hFr s_271.2.2.2.2 H3 H4 ∧ ((0 : Int) = 0 → H4.length = H3.length) ∧ hWt T0 H4) ∧ True) (f77 : n31 ≤ 10999) (f78 : (-10999) ≤ n31) (f79 : (hLe T0 H4 H5 ∧ hFr s_272.2.2.2.2 H4 H5 ∧ ((0 : Int) = 0 → H5.length = H4.length) ∧ hWt T0 H5) ∧ True) (f80 : n30 < n31) (f81 : n2 ≠ 0) (f82 : n32 = w32 (n2 + (-1))) (f83 : n33 = w32 (n0 + 1)) : Ab_300_39 n8 n7 n6 n5 n4 n3 n32 n1 n33 H0 H5 ∧ ∀ q, some q0 = some q → mub_300_39 n8 n7 n6 n5 n4 n3 n32 n1 n33 H0 H5 < q := by
  have g4 := f16.2.1.1
  unfold Ab_300_39 at g4
  have g3 := f16.2.1.2
  unfold preb_300 at g3
  have g5 := Option.some.inj f16.2.2
  unfold mub_300_39 at g5
  unfold Ab_300_39
  unfold mub_300_39
  have e0 : n9 = hV H1 285 82 := (by rw [f10] at f19; exact f19 : n9 = hV H1 285 82)
  have e1 : n12 = hV H1 344 (n1).toNat := (by rw [f23] at f27; exact f27 : n12 = hV H1 344 (n1).toNat)
  have e3 : n13 = hV H0 298 (n12).toNat := (by rw [f21] at f30; exact f30 : n13 = hV H1 298 (n12).toNat).trans ((congrFun (fRow f16.1.2.1 298 kR_300_298) _))
  have e4 : n17 = hV H1 344 (n0).toNat := (by rw [f35] at f39; exact f39 : n17 = hV H1 344 (n0).toNat)
  have e5 : n18 = hV H0 298 (n17).toNat := (by rw [f33] at f42; exact f42 : n18 = hV H1 298 (n17).toNat).trans ((congrFun (fRow f16.1.2.1 298 kR_300_298) _))
  have e6 : n22 = hV H1 344 (n1).toNat := (by rw [f47] at f51; exact f51 : n22 = hV H1 344 (n1).toNat)
  have e8 : n23 = hV H0 300 (n22).toNat := (by rw [f45] at f54; exact f54 : n23 = hV H1 300 (n22).toNat).trans ((congrFun (fRow f16.1.2.1 300 kR_300_300) _))
  have e9 : n26 = hV H1 344 (n0).toNat := (by rw [f57] at f61; exact f61 : n26 = hV H1 344 (n0).toNat)
  have e10 : n27 = hV H0 300 (n26).toNat := (by rw [f55] at f64; exact f64 : n27 = hV H1 300 (n26).toNat).trans ((congrFun (fRow f16.1.2.1 300 kR_300_300) _))
  have e15 : hV H5 285 82 = hV H1 285 82 := ((f79.1.2.1.1 285 82 kF_272_285_82)).trans (((f76.1.2.1.1 285 82 kF_271_285_82)).trans (((f71.1.2.1.1 285 82 kF_271_285_82)).trans (f68.1.2.1.1 285 82 kF_271_285_82)))
  have e16 : XQ H2 = XQ H1 := XQ_fr f68.1.2.1 (by decide +kernel)
  have e17 : XQ H3 = XQ H2 := XQ_fr f71.1.2.1 (by decide +kernel)
  have e18 : XQ H3 = XQ H1 := e17.trans e16
  have e19 : XQ H4 = XQ H3 := XQ_fr f76.1.2.1 (by decide +kernel)
  have e20 : XQ H4 = XQ H1 := e19.trans e18
  have e21 : XQ H5 = XQ H4 := XQ_fr f79.1.2.1 (by decide +kernel)
  have e22 : XQ H5 = XQ H1 := e21.trans e20
  have e23 : (0 : Int) ≤ hV H1 285 82 ∧ hV H1 285 82 ≤ 40 := f16.1.2.2 285 82 _ _ kW_285_82
  try simp only [e15, e22]
  have k0 := g4.1
  have k1 := g4.2.1
  have y0 := g4.2.2.1
  have y1 := g4.2.2.2
  have p0 := g3
  clear g3
  clear g4
  clear f19 f22 f24 f27 f30 f34 f36 f39 f42 f46 f48 f51 f54 f56 f58 f61 f64 e15 e16 e17 e18 e19 e20 e21 e22
  clear f16 f68 f71 f76 f79
  subst e0
  subst e1
  subst e3
  subst e4
  subst e5
  subst e6
  subst e8
  subst e9
  subst e10
  first
  | (have ix0 : n32 = n2 + -1 := Eq.trans f82 (w32_id (by omega) (by omega)); subst ix0; clear f82)
  | (unfold w32 at f82; have ix0 : n32 = n2 + -1 := (by omega); subst ix0)
  | skip
  first
  | (have ix1 : n33 = n0 + 1 := Eq.trans f83 (w32_iv (Iad (Iat f1 f0) (IC 1)) (by decide)); subst ix1; clear f83)
  | (have ix1 : n33 = n0 + 1 := Eq.trans f83 (w32_id (by omega) (by omega)); subst ix1; clear f83)
  | (unfold w32 at f83; have ix1 : n33 = n0 + 1 := (by omega); subst ix1)
  | skip
  try unfold w32 at f82
  try unfold w32 at f83
  try subst k1
  try subst k0
  refine ⟨?_, fun q hq => ?_⟩
  · refine ⟨?_, ?_, ?_, ?_⟩ <;> first | assumption | omega | trivial
  · have g6 := Option.some.inj hq
    subst g6
    omega
def g_300_39_46 : vG := ([(10, [33, 8], [], 1), (10, [32, 6], [], -1), (31, [6], [], 0), (42, [30, 31], [], 0), (1272, [31, 3, 8], [4, 5], 0), (90, [31], [], -10999), (91, [31], [], 10999), (1271, [30, 3, 8], [3, 4], 0), (90, [30], [], -10999), (91, [30], [], 10999), (40, [8, 7], [], 0), (42, [28, 29], [], 0), (1271, [29, 3, 7], [2, 3], 0), (90, [29], [], -10999), (91, [29], [], 10999), (1271, [28, 3, 8], [1, 2], 0), (90, [28], [], -10999), (91, [28], [], 10999), (40, [23, 27], [], 0), (22, [27, 24, 26], [1], 0), (90, [27], [], -1), (91, [27], [], 9999), (22, [26, 25, 8], [1], 0), (90, [26], [], 0), (91, [26], [], 1007), (20, [25, 3], [1], 83), (0, [25], [], 344), (20, [24, 3], [1], 26), (0, [24], [], 300), (22, [23, 20, 22], [1], 0), (90, [23], [], -1), (91, [23], [], 9999), (22, [22, 21, 7], [1], 0), (90, [22], [], 0), (91, [22], [], 1007), (20, [21, 3], [1], 83), (0, [21], [], 344), (20, [20, 3], [1], 26), (0, [20], [], 300), (40, [18, 19], [], 0), (0, [19], [], 1), (22, [18, 15, 17], [1], 0), (90, [18], [], 0), (91, [18], [], 5), (22, [17, 16, 8], [1], 0), (90, [17], [], 0), (91, [17], [], 1007), (20, [16, 3], [1], 83), (0, [16], [], 344), (20, [15, 3], [1], 24), (0, [15], [], 298), (40, [13, 14], [], 0), (0, [14], [], 1), (22, [13, 10, 12], [1], 0), (90, [13], [], 0), (91, [13], [], 5), (22, [12, 11, 7], [1], 0), (90, [12], [], 0), (91, [12], [], 1007), (20, [11, 3], [1], 83), (0, [11], [], 344), (20, [10, 3], [1], 24), (0, [10], [], 298), (42, [8, 9], [], 0), (20, [9, 3], [1], 82), (90, [9], [], 0), (91, [9], [], 40), (5000, [0, 1, 2, 3, 4, 5, 6, 7, 8], [0, 1], 39), (0, [0], [], 285), (90, [1], [], -2147483648), (91, [1], [], 2147483647), (90, [2], [], -2147483648), (91, [2], [], 2147483647), (0, [3], [], 285), (90, [4], [], -2147483648), (91, [4], [], 2147483647), (90, [5], [], -2147483648), (91, [5], [], 2147483647), (90, [6], [], -2147483648), (91, [6], [], 2147483647), (90, [7], [], 0), (91, [7], [], 39), (90, [8], [], 0), (91, [8], [], 40)], (4000, [3, 4, 5, 32, 7, 33], [5], 39))
theorem c_300_39_46 {q0 : Nat} : vOkm T0 (eP e_300 L_300 A_300 mu_300 (some q0)) 3 g_300_39_46 := vOk_inI fun ρ η f0 f1 f2 f3 f4 f5 f6 f7 f8 f9 f10 f11 f12 f13 f14 f15 f16 f17 f18 f19 f20 f21 f22 f23 f24 f25 f26 f27 f28 f29 f30 f31 f32 f33 f34 f35 f36 f37 f38 f39 f40 f41 f42 f43 f44 f45 f46 f47 f48 f49 f50 f51 f52 f53 f54 f55 f56 f57 f58 f59 f60 f61 f62 f63 f64 f65 f66 f67 f68 f69 f70 f71 f72 f73 f74 f75 f76 f77 f78 f79 f80 f81 f82 f83 => q_300_36 (q0 := q0) (n0 := ρ 8) (n1 := ρ 7) (n2 := ρ 6) (n3 := ρ 5) (n4 := ρ 4) (n5 := ρ 3) (n6 := ρ 2) (n7 := ρ 1) (n8 := ρ 0) (n9 := ρ 9) (n10 := ρ 10) (n11 := ρ 11) (n12 := ρ 12) (n13 := ρ 13) (n14 := ρ 14) (n15 := ρ 15) (n16 := ρ 16) (n17 := ρ 17) (n18 := ρ 18) (n19 := ρ 19) (n20 := ρ 20) (n21 := ρ 21) (n22 := ρ 22) (n23 := ρ 23) (n24 := ρ 24) (n25 := ρ 25) (n26 := ρ 26) (n27 := ρ 27) (n28 := ρ 28) (n29 := ρ 29) (n30 := ρ 30) (n31 := ρ 31) (n32 := ρ 32) (n33 := ρ 33) (H0 := η 0) (H1 := η 1) (H2 := η 2) (H3 := η 3) (H4 := η 4) (H5 := η 5) f83 f82 f81 f80 f79 f78 f77 f76 f75 f74 f73 f72 f71 f70 f69 f68 f67 f66 f65 f64 f63 f62 f61 f60 f59 f58 f57 f56 f55 f54 f53 f52 f51 f50 f49 f48 f47 f46 f45 f44 f43 f42 f41 f40 f39 f38 f37 f36 f35 f34 f33 f32 f31 f30 f29 f28 f27 f26 f25 f24 f23 f22 f21 f20 f19 f18 f17 f16 f15 f14 f13 f12 f11 f10 f9 f8 f7 f6 f5 f4 f3 f2 f1 f0
def g_300_39_47 : vG := ([(10, [32, 8], [], 1), (40, [8, 7], [], 0), (42, [8, 9], [], 0), (91, [9], [], 40), (90, [7], [], 0)], (90, [32], [], 0))
theorem c_300_39_47 {q0 : Nat} : vOkm T0 (eP e_300 L_300 A_300 mu_300 (some q0)) 3 g_300_39_47 := vOk_inI fun ρ η f0 f1 f2 f3 f4 => q_300_34 (q0 := q0) (n0 := ρ 7) (n1 := ρ 9) (n2 := ρ 8) (n3 := ρ 32) (H0 := η 0) f4 f3 f2 f1 f0
def g_300_39_48 : vG := ([(10, [32, 8], [], 1), (40, [8, 7], [], 0), (42, [8, 9], [], 0), (91, [9], [], 40), (90, [7], [], 0)], (91, [32], [], 40))
theorem c_300_39_48 {q0 : Nat} : vOkm T0 (eP e_300 L_300 A_300 mu_300 (some q0)) 3 g_300_39_48 := vOk_inI fun ρ η f0 f1 f2 f3 f4 => q_300_35 (q0 := q0) (n0 := ρ 7) (n1 := ρ 9) (n2 := ρ 8) (n3 := ρ 32) (H0 := η 0) f4 f3 f2 f1 f0
theorem q_300_37 {q0 : Nat} {n0 n1 n2 n3 n4 n5 n6 n7 n8 n9 n10 n11 n12 n13 n14 n15 n16 n17 n18 n19 n20 n21 n22 n23 n24 n25 n26 n27 n28 n29 n30 n31 n32 : Int} {H0 H1 H2 H3 H4 H5 : gH} (f0 : n0 ≤ 40) (f1 : 0 ≤ n0) (f2 : n1 ≤ 39) (f3 : 0 ≤ n1) (f4 : n2 ≤ 2147483647) (f5 : (-2147483648) ≤ n2) (f6 : n3 ≤ 2147483647) (f7 : (-2147483648) ≤ n3) (f8 : n4 ≤ 2147483647) (f9 : (-2147483648) ≤ n4) (f10 : n5 = 285) (f11 : n6 ≤ 2147483647) (f12 : (-2147483648) ≤ n6) (f13 : n7 ≤ 2147483647) (f14 : (-2147483648) ≤ n7) (f15 : n8 = 285) (f16 : (hLe T0 H0 H1 ∧ hFr s_300.2.2.2.2 H0 H1 ∧ hWt T0 H1) ∧ (Ab_300_39 n8 n7 n6 n5 n4 n3 n2 n1 n0 H0 H1 ∧ preb_300 n8 n7 n6 H0) ∧ some q0 = some (mub_300_39 n8 n7 n6 n5 n4 n3 n2 n1 n0 H0 H1)) (f17 : n9 ≤ 40) (f18 : 0 ≤ n9) (f19 : n9 = hV H1 (n5).toNat 82) (f20 : n0 < n9) (f21 : n10 = 298) (f22 : n10 = hV H1 (n5).toNat 24) (f23 : n11 = 344) (f24 : n11 = hV H1 (n5).toNat 83) (f25 : n12 ≤ 1007) (f26 : 0 ≤ n12) (f27 : n12 = hV H1 (n11).toNat (n1).toNat) (f28 : n13 ≤ 5) (f29 : 0 ≤ n13) (f30 : n13 = hV H1 (n10).toNat (n12).toNat) (f31 : n14 = 1) (f32 : n13 = n14) (f33 : n15 = 298) (f34 : n15 = hV H1 (n5).toNat 24) (f35 : n16 = 344) (f36 : n16 = hV H1 (n5).toNat 83) (f37 : n17 ≤ 1007) (f38 : 0 ≤ n17) (f39 : n17 = hV H1 (n16).toNat (n0).toNat) (f40 : n18 ≤ 5) (f41 : 0 ≤ n18) (f42 : n18 = hV H1 (n15).toNat (n17).toNat) (f43 : n19 = 1) (f44 : n18 = n19) (f45 : n20 = 300) (f46 : n20 = hV H1 (n5).toNat 26) (f47 : n21 = 344) (f48 : n21 = hV H1 (n5).toNat 83) (f49 : n22 ≤ 1007) (f50 : 0 ≤ n22) (f51 : n22 = hV H1 (n21).toNat (n1).toNat) (f52 : n23 ≤ 9999) (f53 : (-1) ≤ n23) (f54 : n23 = hV H1 (n20).toNat (n22).toNat) (f55 : n24 = 300) (f56 : n24 = hV H1 (n5).toNat 26) (f57 : n25 = 344) (f58 : n25 = hV H1 (n5).toNat 83) (f59 : n26 ≤ 1007) (f60 : 0 ≤ n26) (f61 : n26 = hV H1 (n25).toNat (n0).toNat) (f62 : n27 ≤ 9999) (f63 : (-1) ≤ n27) (f64 : n27 = hV H1 (n24).toNat (n26).toNat) (f65 : n23 = n27) (f66 : n28 ≤ 10999) (f67 : (-10999) ≤ n28) (f68 : (hLe T0 H1 H2 ∧ hFr s_271.2.2.2.2 H1 H2 ∧ ((0 : Int) = 0 → H2.length = H1.length) ∧ hWt T0 H2) ∧ True) (f69 : n29 ≤ 10999) (f70 : (-10999) ≤ n29) (f71 : (hLe T0 H2 H3 ∧ hFr s_271.2.2.2.2 H2 H3 ∧ ((0 : Int) = 0 → H3.length = H2.length) ∧ hWt T0 H3) ∧ True) (f72 : n28 < n29) (f73 : n0 = n1) (f74 : n30 ≤ 10999) (f75 : (-10999) ≤ n30) (f76 : (hLe T0 H3 H4 ∧ hFr s_271.2.2.2.2 H3 H4 ∧ ((0 : Int) = 0 → H4.length = H3.length) ∧ hWt T0 H4) ∧ True) (f77 : n31 ≤ 10999) (f78 : (-10999) ≤ n31) (f79 : (hLe T0 H4 H5 ∧ hFr s_272.2.2.2.2 H4 H5 ∧ ((0 : Int) = 0 → H5.length = H4.length) ∧ hWt T0 H5) ∧ True) (f80 : n31 ≤ n30) (f81 : n32 = w32 (n0 + 1)) : Ab_300_39 n8 n7 n6 n5 n4 n3 n2 n1 n32 H0 H5 ∧ ∀ q, some q0 = some q → mub_300_39 n8 n7 n6 n5 n4 n3 n2 n1 n32 H0 H5 < q := by
  have g4 := f16.2.1.1
  unfold Ab_300_39 at g4
  have g3 := f16.2.1.2
  unfold preb_300 at g3
  have g5 := Option.some.inj f16.2.2
  unfold mub_300_39 at g5
  unfold Ab_300_39
  unfold mub_300_39
  have e0 : n9 = hV H1 285 82 := (by rw [f10] at f19; exact f19 : n9 = hV H1 285 82)
  have e1 : n12 = hV H1 344 (n1).toNat := (by rw [f23] at f27; exact f27 : n12 = hV H1 344 (n1).toNat)
  have e3 : n13 = hV H0 298 (n12).toNat := (by rw [f21] at f30; exact f30 : n13 = hV H1 298 (n12).toNat).trans ((congrFun (fRow f16.1.2.1 298 kR_300_298) _))
  have e4 : n17 = hV H1 344 (n0).toNat := (by rw [f35] at f39; exact f39 : n17 = hV H1 344 (n0).toNat)
  have e5 : n18 = hV H0 298 (n17).toNat := (by rw [f33] at f42; exact f42 : n18 = hV H1 298 (n17).toNat).trans ((congrFun (fRow f16.1.2.1 298 kR_300_298) _))
  have e6 : n22 = hV H1 344 (n1).toNat := (by rw [f47] at f51; exact f51 : n22 = hV H1 344 (n1).toNat)
  have e8 : n23 = hV H0 300 (n22).toNat := (by rw [f45] at f54; exact f54 : n23 = hV H1 300 (n22).toNat).trans ((congrFun (fRow f16.1.2.1 300 kR_300_300) _))
  have e9 : n26 = hV H1 344 (n0).toNat := (by rw [f57] at f61; exact f61 : n26 = hV H1 344 (n0).toNat)
  have e10 : n27 = hV H0 300 (n26).toNat := (by rw [f55] at f64; exact f64 : n27 = hV H1 300 (n26).toNat).trans ((congrFun (fRow f16.1.2.1 300 kR_300_300) _))
  have e15 : hV H5 285 82 = hV H1 285 82 := ((f79.1.2.1.1 285 82 kF_272_285_82)).trans (((f76.1.2.1.1 285 82 kF_271_285_82)).trans (((f71.1.2.1.1 285 82 kF_271_285_82)).trans (f68.1.2.1.1 285 82 kF_271_285_82)))
  have e16 : XQ H2 = XQ H1 := XQ_fr f68.1.2.1 (by decide +kernel)
  have e17 : XQ H3 = XQ H2 := XQ_fr f71.1.2.1 (by decide +kernel)
  have e18 : XQ H3 = XQ H1 := e17.trans e16
  have e19 : XQ H4 = XQ H3 := XQ_fr f76.1.2.1 (by decide +kernel)
  have e20 : XQ H4 = XQ H1 := e19.trans e18
  have e21 : XQ H5 = XQ H4 := XQ_fr f79.1.2.1 (by decide +kernel)
  have e22 : XQ H5 = XQ H1 := e21.trans e20
  have e23 : (0 : Int) ≤ hV H1 285 82 ∧ hV H1 285 82 ≤ 40 := f16.1.2.2 285 82 _ _ kW_285_82
  try simp only [e15, e22]
  have k0 := g4.1
  have k1 := g4.2.1
  have y0 := g4.2.2.1
  have y1 := g4.2.2.2
  have p0 := g3
  clear g3
  clear g4
  clear f19 f22 f24 f27 f30 f34 f36 f39 f42 f46 f48 f51 f54 f56 f58 f61 f64 e15 e16 e17 e18 e19 e20 e21 e22
  clear f16 f68 f71 f76 f79
  subst e0
  subst e1
  subst e3
  subst e4
  subst e5
  subst e6
  subst e8
  subst e9
  subst e10
  first
  | (have ix0 : n32 = n0 + 1 := Eq.trans f81 (w32_iv (Iad (Iat f1 f0) (IC 1)) (by decide)); subst ix0; clear f81)
  | (have ix0 : n32 = n0 + 1 := Eq.trans f81 (w32_id (by omega) (by omega)); subst ix0; clear f81)
  | (unfold w32 at f81; have ix0 : n32 = n0 + 1 := (by omega); subst ix0)
  | skip
  try unfold w32 at f81
  try subst k1
  try subst k0
  refine ⟨?_, fun q hq => ?_⟩
  · refine ⟨?_, ?_, ?_, ?_⟩ <;> first | assumption | omega | trivial
  · have g6 := Option.some.inj hq
    subst g6
    omega
def g_300_39_49 : vG := ([(10, [32, 8], [], 1), (43, [30, 31], [], 0), (1272, [31, 3, 8], [4, 5], 0), (90, [31], [], -10999), (91, [31], [], 10999), (1271, [30, 3, 8], [3, 4], 0), (90, [30], [], -10999), (91, [30], [], 10999), (40, [8, 7], [], 0), (42, [28, 29], [], 0), (1271, [29, 3, 7], [2, 3], 0), (90, [29], [], -10999), (91, [29], [], 10999), (1271, [28, 3, 8], [1, 2], 0), (90, [28], [], -10999), (91, [28], [], 10999), (40, [23, 27], [], 0), (22, [27, 24, 26], [1], 0), (90, [27], [], -1), (91, [27], [], 9999), (22, [26, 25, 8], [1], 0), (90, [26], [], 0), (91, [26], [], 1007), (20, [25, 3], [1], 83), (0, [25], [], 344), (20, [24, 3], [1], 26), (0, [24], [], 300), (22, [23, 20, 22], [1], 0), (90, [23], [], -1), (91, [23], [], 9999), (22, [22, 21, 7], [1], 0), (90, [22], [], 0), (91, [22], [], 1007), (20, [21, 3], [1], 83), (0, [21], [], 344), (20, [20, 3], [1], 26), (0, [20], [], 300), (40, [18, 19], [], 0), (0, [19], [], 1), (22, [18, 15, 17], [1], 0), (90, [18], [], 0), (91, [18], [], 5), (22, [17, 16, 8], [1], 0), (90, [17], [], 0), (91, [17], [], 1007), (20, [16, 3], [1], 83), (0, [16], [], 344), (20, [15, 3], [1], 24), (0, [15], [], 298), (40, [13, 14], [], 0), (0, [14], [], 1), (22, [13, 10, 12], [1], 0), (90, [13], [], 0), (91, [13], [], 5), (22, [12, 11, 7], [1], 0), (90, [12], [], 0), (91, [12], [], 1007), (20, [11, 3], [1], 83), (0, [11], [], 344), (20, [10, 3], [1], 24), (0, [10], [], 298), (42, [8, 9], [], 0), (20, [9, 3], [1], 82), (90, [9], [], 0), (91, [9], [], 40), (5000, [0, 1, 2, 3, 4, 5, 6, 7, 8], [0, 1], 39), (0, [0], [], 285), (90, [1], [], -2147483648), (91, [1], [], 2147483647), (90, [2], [], -2147483648), (91, [2], [], 2147483647), (0, [3], [], 285), (90, [4], [], -2147483648), (91, [4], [], 2147483647), (90, [5], [], -2147483648), (91, [5], [], 2147483647), (90, [6], [], -2147483648), (91, [6], [], 2147483647), (90, [7], [], 0), (91, [7], [], 39), (90, [8], [], 0), (91, [8], [], 40)], (4000, [3, 4, 5, 6, 7, 32], [5], 39))
theorem c_300_39_49 {q0 : Nat} : vOkm T0 (eP e_300 L_300 A_300 mu_300 (some q0)) 3 g_300_39_49 := vOk_inI fun ρ η f0 f1 f2 f3 f4 f5 f6 f7 f8 f9 f10 f11 f12 f13 f14 f15 f16 f17 f18 f19 f20 f21 f22 f23 f24 f25 f26 f27 f28 f29 f30 f31 f32 f33 f34 f35 f36 f37 f38 f39 f40 f41 f42 f43 f44 f45 f46 f47 f48 f49 f50 f51 f52 f53 f54 f55 f56 f57 f58 f59 f60 f61 f62 f63 f64 f65 f66 f67 f68 f69 f70 f71 f72 f73 f74 f75 f76 f77 f78 f79 f80 f81 => q_300_37 (q0 := q0) (n0 := ρ 8) (n1 := ρ 7) (n2 := ρ 6) (n3 := ρ 5) (n4 := ρ 4) (n5 := ρ 3) (n6 := ρ 2) (n7 := ρ 1) (n8 := ρ 0) (n9 := ρ 9) (n10 := ρ 10) (n11 := ρ 11) (n12 := ρ 12) (n13 := ρ 13) (n14 := ρ 14) (n15 := ρ 15) (n16 := ρ 16) (n17 := ρ 17) (n18 := ρ 18) (n19 := ρ 19) (n20 := ρ 20) (n21 := ρ 21) (n22 := ρ 22) (n23 := ρ 23) (n24 := ρ 24) (n25 := ρ 25) (n26 := ρ 26) (n27 := ρ 27) (n28 := ρ 28) (n29 := ρ 29) (n30 := ρ 30) (n31 := ρ 31) (n32 := ρ 32) (H0 := η 0) (H1 := η 1) (H2 := η 2) (H3 := η 3) (H4 := η 4) (H5 := η 5) f81 f80 f79 f78 f77 f76 f75 f74 f73 f72 f71 f70 f69 f68 f67 f66 f65 f64 f63 f62 f61 f60 f59 f58 f57 f56 f55 f54 f53 f52 f51 f50 f49 f48 f47 f46 f45 f44 f43 f42 f41 f40 f39 f38 f37 f36 f35 f34 f33 f32 f31 f30 f29 f28 f27 f26 f25 f24 f23 f22 f21 f20 f19 f18 f17 f16 f15 f14 f13 f12 f11 f10 f9 f8 f7 f6 f5 f4 f3 f2 f1 f0
def g_300_39_50 : vG := ([(10, [28, 8], [], 1), (42, [8, 9], [], 0), (91, [9], [], 40), (90, [8], [], 0)], (90, [28], [], 0))
theorem c_300_39_50 {q0 : Nat} : vOkm T0 (eP e_300 L_300 A_300 mu_300 (some q0)) 3 g_300_39_50 := vOk_inI fun ρ η f0 f1 f2 f3 => q_300_11 (q0 := q0) (n0 := ρ 8) (n1 := ρ 9) (n2 := ρ 28) (H0 := η 0) f3 f2 f1 f0
def g_300_39_51 : vG := ([(10, [28, 8], [], 1), (42, [8, 9], [], 0), (91, [9], [], 40), (90, [8], [], 0)], (91, [28], [], 40))
theorem c_300_39_51 {q0 : Nat} : vOkm T0 (eP e_300 L_300 A_300 mu_300 (some q0)) 3 g_300_39_51 := vOk_inI fun ρ η f0 f1 f2 f3 => q_300_12 (q0 := q0) (n0 := ρ 8) (n1 := ρ 9) (n2 := ρ 28) (H0 := η 0) f3 f2 f1 f0
theorem q_300_38 {q0 : Nat} {n0 n1 n2 n3 n4 n5 n6 n7 n8 n9 n10 n11 n12 n13 n14 n15 n16 n17 n18 n19 n20 n21 n22 n23 n24 n25 n26 n27 n28 : Int} {H0 H1 : gH} (f0 : n0 ≤ 40) (f1 : 0 ≤ n0) (f2 : n1 ≤ 39) (f3 : 0 ≤ n1) (f4 : n2 ≤ 2147483647) (f5 : (-2147483648) ≤ n2) (f6 : n3 ≤ 2147483647) (f7 : (-2147483648) ≤ n3) (f8 : n4 ≤ 2147483647) (f9 : (-2147483648) ≤ n4) (f10 : n5 = 285) (f11 : n6 ≤ 2147483647) (f12 : (-2147483648) ≤ n6) (f13 : n7 ≤ 2147483647) (f14 : (-2147483648) ≤ n7) (f15 : n8 = 285) (f16 : (hLe T0 H0 H1 ∧ hFr s_300.2.2.2.2 H0 H1 ∧ hWt T0 H1) ∧ (Ab_300_39 n8 n7 n6 n5 n4 n3 n2 n1 n0 H0 H1 ∧ preb_300 n8 n7 n6 H0) ∧ some q0 = some (mub_300_39 n8 n7 n6 n5 n4 n3 n2 n1 n0 H0 H1)) (f17 : n9 ≤ 40) (f18 : 0 ≤ n9) (f19 : n9 = hV H1 (n5).toNat 82) (f20 : n0 < n9) (f21 : n10 = 298) (f22 : n10 = hV H1 (n5).toNat 24) (f23 : n11 = 344) (f24 : n11 = hV H1 (n5).toNat 83) (f25 : n12 ≤ 1007) (f26 : 0 ≤ n12) (f27 : n12 = hV H1 (n11).toNat (n1).toNat) (f28 : n13 ≤ 5) (f29 : 0 ≤ n13) (f30 : n13 = hV H1 (n10).toNat (n12).toNat) (f31 : n14 = 1) (f32 : n13 = n14) (f33 : n15 = 298) (f34 : n15 = hV H1 (n5).toNat 24) (f35 : n16 = 344) (f36 : n16 = hV H1 (n5).toNat 83) (f37 : n17 ≤ 1007) (f38 : 0 ≤ n17) (f39 : n17 = hV H1 (n16).toNat (n0).toNat) (f40 : n18 ≤ 5) (f41 : 0 ≤ n18) (f42 : n18 = hV H1 (n15).toNat (n17).toNat) (f43 : n19 = 1) (f44 : n18 = n19) (f45 : n20 = 300) (f46 : n20 = hV H1 (n5).toNat 26) (f47 : n21 = 344) (f48 : n21 = hV H1 (n5).toNat 83) (f49 : n22 ≤ 1007) (f50 : 0 ≤ n22) (f51 : n22 = hV H1 (n21).toNat (n1).toNat) (f52 : n23 ≤ 9999) (f53 : (-1) ≤ n23) (f54 : n23 = hV H1 (n20).toNat (n22).toNat) (f55 : n24 = 300) (f56 : n24 = hV H1 (n5).toNat 26) (f57 : n25 = 344) (f58 : n25 = hV H1 (n5).toNat 83) (f59 : n26 ≤ 1007) (f60 : 0 ≤ n26) (f61 : n26 = hV H1 (n25).toNat (n0).toNat) (f62 : n27 ≤ 9999) (f63 : (-1) ≤ n27) (f64 : n27 = hV H1 (n24).toNat (n26).toNat) (f65 : n23 ≠ n27) (f66 : n28 = w32 (n0 + 1)) : Ab_300_39 n8 n7 n6 n5 n4 n3 n2 n1 n28 H0 H1 ∧ ∀ q, some q0 = some q → mub_300_39 n8 n7 n6 n5 n4 n3 n2 n1 n28 H0 H1 < q := by
  have g4 := f16.2.1.1
  unfold Ab_300_39 at g4
  have g3 := f16.2.1.2
  unfold preb_300 at g3
  have g5 := Option.some.inj f16.2.2
  unfold mub_300_39 at g5
  unfold Ab_300_39
  unfold mub_300_39
  have e0 : n9 = hV H1 285 82 := (by rw [f10] at f19; exact f19 : n9 = hV H1 285 82)
  have e1 : n12 = hV H1 344 (n1).toNat := (by rw [f23] at f27; exact f27 : n12 = hV H1 344 (n1).toNat)
  have e3 : n13 = hV H0 298 (n12).toNat := (by rw [f21] at f30; exact f30 : n13 = hV H1 298 (n12).toNat).trans ((congrFun (fRow f16.1.2.1 298 kR_300_298) _))
  have e4 : n17 = hV H1 344 (n0).toNat := (by rw [f35] at f39; exact f39 : n17 = hV H1 344 (n0).toNat)
  have e5 : n18 = hV H0 298 (n17).toNat := (by rw [f33] at f42; exact f42 : n18 = hV H1 298 (n17).toNat).trans ((congrFun (fRow f16.1.2.1 298 kR_300_298) _))
  have e6 : n22 = hV H1 344 (n1).toNat := (by rw [f47] at f51; exact f51 : n22 = hV H1 344 (n1).toNat)
  have e8 : n23 = hV H0 300 (n22).toNat := (by rw [f45] at f54; exact f54 : n23 = hV H1 300 (n22).toNat).trans ((congrFun (fRow f16.1.2.1 300 kR_300_300) _))
  have e9 : n26 = hV H1 344 (n0).toNat := (by rw [f57] at f61; exact f61 : n26 = hV H1 344 (n0).toNat)
  have e10 : n27 = hV H0 300 (n26).toNat := (by rw [f55] at f64; exact f64 : n27 = hV H1 300 (n26).toNat).trans ((congrFun (fRow f16.1.2.1 300 kR_300_300) _))
  have e11 : (0 : Int) ≤ hV H1 285 82 ∧ hV H1 285 82 ≤ 40 := f16.1.2.2 285 82 _ _ kW_285_82
  have k0 := g4.1
  have k1 := g4.2.1
  have y0 := g4.2.2.1
  have y1 := g4.2.2.2
  have p0 := g3
  clear g3
  clear g4
  clear f19 f22 f24 f27 f30 f34 f36 f39 f42 f46 f48 f51 f54 f56 f58 f61 f64
  clear f16
  subst e0
  subst e1
  subst e3
  subst e4
  subst e5
  subst e6
  subst e8
  subst e9
  subst e10
  first
  | (have ix0 : n28 = n0 + 1 := Eq.trans f66 (w32_iv (Iad (Iat f1 f0) (IC 1)) (by decide)); subst ix0; clear f66)
  | (have ix0 : n28 = n0 + 1 := Eq.trans f66 (w32_id (by omega) (by omega)); subst ix0; clear f66)
  | (unfold w32 at f66; have ix0 : n28 = n0 + 1 := (by omega); subst ix0)
  | skip
  try unfold w32 at f66
  try subst k1
  try subst k0
  refine ⟨?_, fun q hq => ?_⟩
  · refine ⟨?_, ?_, ?_, ?_⟩ <;> first | assumption | omega | trivial
  · have g6 := Option.some.inj hq
    subst g6
    omega
def g_300_39_52 : vG := ([(10, [28, 8], [], 1), (41, [23, 27], [], 0), (22, [27, 24, 26], [1], 0), (90, [27], [], -1), (91, [27], [], 9999), (22, [26, 25, 8], [1], 0), (90, [26], [], 0), (91, [26], [], 1007), (20, [25, 3], [1], 83), (0, [25], [], 344), (20, [24, 3], [1], 26), (0, [24], [], 300), (22, [23, 20, 22], [1], 0), (90, [23], [], -1), (91, [23], [], 9999), (22, [22, 21, 7], [1], 0), (90, [22], [], 0), (91, [22], [], 1007), (20, [21, 3], [1], 83), (0, [21], [], 344), (20, [20, 3], [1], 26), (0, [20], [], 300), (40, [18, 19], [], 0), (0, [19], [], 1), (22, [18, 15, 17], [1], 0), (90, [18], [], 0), (91, [18], [], 5), (22, [17, 16, 8], [1], 0), (90, [17], [], 0), (91, [17], [], 1007), (20, [16, 3], [1], 83), (0, [16], [], 344), (20, [15, 3], [1], 24), (0, [15], [], 298), (40, [13, 14], [], 0), (0, [14], [], 1), (22, [13, 10, 12], [1], 0), (90, [13], [], 0), (91, [13], [], 5), (22, [12, 11, 7], [1], 0), (90, [12], [], 0), (91, [12], [], 1007), (20, [11, 3], [1], 83), (0, [11], [], 344), (20, [10, 3], [1], 24), (0, [10], [], 298), (42, [8, 9], [], 0), (20, [9, 3], [1], 82), (90, [9], [], 0), (91, [9], [], 40), (5000, [0, 1, 2, 3, 4, 5, 6, 7, 8], [0, 1], 39), (0, [0], [], 285), (90, [1], [], -2147483648), (91, [1], [], 2147483647), (90, [2], [], -2147483648), (91, [2], [], 2147483647), (0, [3], [], 285), (90, [4], [], -2147483648), (91, [4], [], 2147483647), (90, [5], [], -2147483648), (91, [5], [], 2147483647), (90, [6], [], -2147483648), (91, [6], [], 2147483647), (90, [7], [], 0), (91, [7], [], 39), (90, [8], [], 0), (91, [8], [], 40)], (4000, [3, 4, 5, 6, 7, 28], [1], 39))
theorem c_300_39_52 {q0 : Nat} : vOkm T0 (eP e_300 L_300 A_300 mu_300 (some q0)) 3 g_300_39_52 := vOk_inI fun ρ η f0 f1 f2 f3 f4 f5 f6 f7 f8 f9 f10 f11 f12 f13 f14 f15 f16 f17 f18 f19 f20 f21 f22 f23 f24 f25 f26 f27 f28 f29 f30 f31 f32 f33 f34 f35 f36 f37 f38 f39 f40 f41 f42 f43 f44 f45 f46 f47 f48 f49 f50 f51 f52 f53 f54 f55 f56 f57 f58 f59 f60 f61 f62 f63 f64 f65 f66 => q_300_38 (q0 := q0) (n0 := ρ 8) (n1 := ρ 7) (n2 := ρ 6) (n3 := ρ 5) (n4 := ρ 4) (n5 := ρ 3) (n6 := ρ 2) (n7 := ρ 1) (n8 := ρ 0) (n9 := ρ 9) (n10 := ρ 10) (n11 := ρ 11) (n12 := ρ 12) (n13 := ρ 13) (n14 := ρ 14) (n15 := ρ 15) (n16 := ρ 16) (n17 := ρ 17) (n18 := ρ 18) (n19 := ρ 19) (n20 := ρ 20) (n21 := ρ 21) (n22 := ρ 22) (n23 := ρ 23) (n24 := ρ 24) (n25 := ρ 25) (n26 := ρ 26) (n27 := ρ 27) (n28 := ρ 28) (H0 := η 0) (H1 := η 1) f66 f65 f64 f63 f62 f61 f60 f59 f58 f57 f56 f55 f54 f53 f52 f51 f50 f49 f48 f47 f46 f45 f44 f43 f42 f41 f40 f39 f38 f37 f36 f35 f34 f33 f32 f31 f30 f29 f28 f27 f26 f25 f24 f23 f22 f21 f20 f19 f18 f17 f16 f15 f14 f13 f12 f11 f10 f9 f8 f7 f6 f5 f4 f3 f2 f1 f0
def p_300_39 : List vG := [g_300_39_0,
  g_300_39_1,
  g_300_39_2,
  g_300_39_3,
  g_300_39_4,
  g_300_39_5,
  g_300_39_6,
  g_300_39_7,
  g_300_39_8,
  g_300_39_9,
  g_300_39_10,
  g_300_39_11,
  g_300_39_12,
  g_300_39_13,
  g_300_39_14,
  g_300_39_15,
  g_300_39_16,
  g_300_39_17,
  g_300_39_18,
  g_300_39_19,
  g_300_39_20,
  g_300_39_21,
  g_300_39_22,
  g_300_39_23,
  g_300_39_24,
  g_300_39_25,
  g_300_39_26,
  g_300_39_27,
  g_300_39_28,
  g_300_39_29,
  g_300_39_30,
  g_300_39_31,
  g_300_39_32,
  g_300_39_33,
  g_300_39_34,
  g_300_39_35,
  g_300_39_36,
  g_300_39_37,
  g_300_39_38,
  g_300_39_39,
  g_300_39_40,
  g_300_39_41,
  g_300_39_42,
  g_300_39_43,
  g_300_39_44,
  g_300_39_45,
  g_300_39_46,
  g_300_39_47,
  g_300_39_48,
  g_300_39_49,
  g_300_39_50,
  g_300_39_51,
  g_300_39_52]
theorem r_300_39 : vCovO true (eRc e_300 L_300 cs_300 2000 (39, [(0, (3, 12, 285, 0)), (1, (0, -2147483648, 2147483647, 0)), (2, (0, -2147483648, 2147483647, 0)), (3, (0, -2147483648, 2147483647, 0)), (4, (0, 0, 39, 0)), (5, (0, 0, 40, 0))])) p_300_39 = true := by decide +kernel
theorem m_300 (d : Nat) : eC e_300 (d + 3) := eC_ok (e := e_300) (L := L_300) (cs := cs_300) (n := 2000) (d := d + 2) (A := A_300) (μ := mu_300) (tp := true) (p0 := p_300_s) rfl ⟨m_270 d, ⟨m_271 d, ⟨m_272 d, ⟨m_282 (d + 1), trivial⟩⟩⟩⟩ rfl (.inl rfl) (by decide +kernel) (fun _ => post0_ok) r_300_s (allC c_300_s_0 (allC c_300_s_1 (allC c_300_s_2 (allC c_300_s_3 allN)))) (allC (.inl ⟨p_300_24, r_300_24, fun q0 => (allC c_300_24_0 (allC c_300_24_1 (allC c_300_24_2 (allC c_300_24_3 allN))))⟩) (allC (.inl ⟨p_300_39, r_300_39, fun q0 => (allC c_300_39_0 (allC c_300_39_1 (allC c_300_39_2 (allC c_300_39_3 (allC c_300_39_4 (allC c_300_39_5 (allC c_300_39_6 (allC c_300_39_7 (allC c_300_39_8 (allC c_300_39_9 (allC c_300_39_10 (allC c_300_39_11 (allC c_300_39_12 (allC c_300_39_13 (allC c_300_39_14 (allC c_300_39_15 (allC c_300_39_16 (allC c_300_39_17 (allC c_300_39_18 (allC c_300_39_19 (allC c_300_39_20 (allC c_300_39_21 (allC c_300_39_22 (allC c_300_39_23 (allC c_300_39_24 (allC c_300_39_25 (allC c_300_39_26 (allC c_300_39_27 (allC c_300_39_28 (allC c_300_39_29 (allC c_300_39_30 (allC c_300_39_31 (allC c_300_39_32 (allC c_300_39_33 (allC c_300_39_34 (allC c_300_39_35 (allC c_300_39_36 (allC c_300_39_37 (allC c_300_39_38 (allC c_300_39_39 (allC c_300_39_40 (allC c_300_39_41 (allC c_300_39_42 (allC c_300_39_43 (allC c_300_39_44 (allC c_300_39_45 (allC c_300_39_46 (allC c_300_39_47 (allC c_300_39_48 (allC c_300_39_49 (allC c_300_39_50 (allC c_300_39_51 (allC c_300_39_52 allN)))))))))))))))))))))))))))))))))))))))))))))))))))))⟩) allN))
