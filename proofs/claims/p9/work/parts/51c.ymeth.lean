/-! CONTRACTS of methods (printed by wip/gen/emit.py). -/
/- MixStageModel.tame (I)I -/
noncomputable def s_304 : vM := ([(3, 12, 285, 0), (0, -2147483648, 2147483647, 0)], (0, -2147483648, 2147483647, 0), 1, 0, [(12, 82), (12, 88), (12, 93), (12, 94), (572, 0), (580, 0), (588, 0), (596, 0), (604, 0), (612, 0), (621, 0), (631, 0), (637, 0), (644, 0), (684, 0)])
def preb_304 (a0 a1 : Int) (h : gH) : Prop := PG h ∧ SO h
def pre_304 : List Int → gH → Prop := fun xs h => match xs with
  | [a0, a1] => preb_304 a0 a1 h
  | _ => False
noncomputable def e_304 : vE := (304, s_304, pre_304, post0)
noncomputable def L_304 : List vE := [e_270, e_274, e_282, e_301, e_303]
def cs_304 : List vC := [(14, [(0, (3, 12, 285, 0)), (1, (0, -2147483648, 2147483647, 0)), (2, (0, -1, 23, 0)), (3, (0, -1, 11, 0))]), (77, [(0, (3, 12, 285, 0)), (1, (0, -2147483648, 2147483647, 0)), (2, (0, 0, 23, 0)), (3, (0, 0, 40, 0)), (4, (0, 0, 40, 0))]), (119, [(0, (3, 12, 285, 0)), (1, (0, -2147483648, 2147483647, 0)), (2, (0, 0, 23, 0)), (3, (0, 0, 8, 0)), (4, (0, -2147483648, 2147483647, 0))]), (126, [(0, (3, 12, 285, 0)), (1, (0, -2147483648, 2147483647, 0)), (2, (0, 0, 23, 0)), (3, (0, 0, 8, 0)), (4, (0, -2, 255, 0)), (5, (0, 0, 256, 0))]), (134, [(0, (3, 12, 285, 0)), (1, (0, -2147483648, 2147483647, 0)), (2, (0, 0, 23, 0)), (3, (0, 0, 8, 0)), (4, (0, -2, 255, 0)), (5, (0, 0, 255, 0))]), (189, [(0, (3, 12, 285, 0)), (1, (0, -2147483648, 2147483647, 0)), (2, (0, 0, 23, 0)), (3, (0, 0, 8, 0)), (4, (0, -2, 255, 0)), (5, (0, 0, 255, 0)), (6, (0, -2147483648, 2147483647, 0))]), (208, [(0, (3, 12, 285, 0)), (1, (0, -2147483648, 2147483647, 0)), (2, (0, 0, 23, 0)), (3, (0, 0, 8, 0)), (4, (0, -2, 255, 0)), (5, (0, 0, 255, 0)), (6, (0, -2147483648, 2147483647, 0)), (7, (0, 0, 240, 0))])]
def Ab_304_14 (a0 a1 x0 x1 x2 x3 : Int) (h0 h : gH) : Prop := x1 = a1 ∧ True
def mub_304_14 (a0 a1 x0 x1 x2 x3 : Int) (h0 h : gH) : Nat := 1000000 + (x3 + 1).toNat
def Ab_304_77 (a0 a1 x0 x1 x2 x3 x4 : Int) (h0 h : gH) : Prop := x1 = a1 ∧ 0 ≤ a1 ∧ a1 < hV h 285 18 ∧ x3 ≤ x4
def mub_304_77 (a0 a1 x0 x1 x2 x3 x4 : Int) (h0 h : gH) : Nat := 900000 + (40 - x4).toNat
def Ab_304_119 (a0 a1 x0 x1 x2 x3 x4 : Int) (h0 h : gH) : Prop := x1 = a1 ∧ 0 ≤ a1 ∧ a1 < hV h 285 18
def mub_304_119 (a0 a1 x0 x1 x2 x3 x4 : Int) (h0 h : gH) : Nat := 800000
def Ab_304_126 (a0 a1 x0 x1 x2 x3 x4 x5 : Int) (h0 h : gH) : Prop := x1 = a1 ∧ 0 ≤ a1 ∧ a1 < hV h 285 18
def mub_304_126 (a0 a1 x0 x1 x2 x3 x4 x5 : Int) (h0 h : gH) : Nat := 10000 + (257 - x5).toNat * 1000
def Ab_304_134 (a0 a1 x0 x1 x2 x3 x4 x5 : Int) (h0 h : gH) : Prop := x1 = a1 ∧ 0 ≤ a1 ∧ a1 < hV h 285 18
def mub_304_134 (a0 a1 x0 x1 x2 x3 x4 x5 : Int) (h0 h : gH) : Nat := 10000 + (257 - x5).toNat * 1000 - 1
def Ab_304_189 (a0 a1 x0 x1 x2 x3 x4 x5 x6 : Int) (h0 h : gH) : Prop := x1 = a1 ∧ 0 ≤ a1 ∧ a1 < hV h 285 18
def mub_304_189 (a0 a1 x0 x1 x2 x3 x4 x5 x6 : Int) (h0 h : gH) : Nat := 10000 + (257 - x5).toNat * 1000 - 2
def Ab_304_208 (a0 a1 x0 x1 x2 x3 x4 x5 x6 x7 : Int) (h0 h : gH) : Prop := x1 = a1 ∧ 0 ≤ a1 ∧ a1 < hV h 285 18
def mub_304_208 (a0 a1 x0 x1 x2 x3 x4 x5 x6 x7 : Int) (h0 h : gH) : Nat := 10000 + (257 - x5).toNat * 1000 - 500 - (x7).toNat
def A_304 : Int → List Int → gH → gH → Prop := fun c xs h0 h => match c.toNat with
  | 14 => (match xs with
    | [a0, a1, x0, x1, x2, x3] => Ab_304_14 a0 a1 x0 x1 x2 x3 h0 h
    | _ => False)
  | 77 => (match xs with
    | [a0, a1, x0, x1, x2, x3, x4] => Ab_304_77 a0 a1 x0 x1 x2 x3 x4 h0 h
    | _ => False)
  | 119 => (match xs with
    | [a0, a1, x0, x1, x2, x3, x4] => Ab_304_119 a0 a1 x0 x1 x2 x3 x4 h0 h
    | _ => False)
  | 126 => (match xs with
    | [a0, a1, x0, x1, x2, x3, x4, x5] => Ab_304_126 a0 a1 x0 x1 x2 x3 x4 x5 h0 h
    | _ => False)
  | 134 => (match xs with
    | [a0, a1, x0, x1, x2, x3, x4, x5] => Ab_304_134 a0 a1 x0 x1 x2 x3 x4 x5 h0 h
    | _ => False)
  | 189 => (match xs with
    | [a0, a1, x0, x1, x2, x3, x4, x5, x6] => Ab_304_189 a0 a1 x0 x1 x2 x3 x4 x5 x6 h0 h
    | _ => False)
  | 208 => (match xs with
    | [a0, a1, x0, x1, x2, x3, x4, x5, x6, x7] => Ab_304_208 a0 a1 x0 x1 x2 x3 x4 x5 x6 x7 h0 h
    | _ => False)
  | _ => True
def mu_304 : Int → List Int → gH → gH → Nat := fun c xs h0 h => match c.toNat with
  | 14 => (match xs with
    | [a0, a1, x0, x1, x2, x3] => mub_304_14 a0 a1 x0 x1 x2 x3 h0 h
    | _ => 0)
  | 77 => (match xs with
    | [a0, a1, x0, x1, x2, x3, x4] => mub_304_77 a0 a1 x0 x1 x2 x3 x4 h0 h
    | _ => 0)
  | 119 => 800000
  | 126 => (match xs with
    | [a0, a1, x0, x1, x2, x3, x4, x5] => mub_304_126 a0 a1 x0 x1 x2 x3 x4 x5 h0 h
    | _ => 0)
  | 134 => (match xs with
    | [a0, a1, x0, x1, x2, x3, x4, x5] => mub_304_134 a0 a1 x0 x1 x2 x3 x4 x5 h0 h
    | _ => 0)
  | 189 => (match xs with
    | [a0, a1, x0, x1, x2, x3, x4, x5, x6] => mub_304_189 a0 a1 x0 x1 x2 x3 x4 x5 x6 h0 h
    | _ => 0)
  | 208 => (match xs with
    | [a0, a1, x0, x1, x2, x3, x4, x5, x6, x7] => mub_304_208 a0 a1 x0 x1 x2 x3 x4 x5 x6 x7 h0 h
    | _ => 0)
  | _ => 0
theorem q_304_0 {n0 n1 n2 n3 n4 n5 n6 : Int} {H0 : gH} (f0 : n0 ≤ 2147483647) (f1 : (-2147483648) ≤ n0) (f2 : n1 = 285) (f3 : hWt T0 H0 ∧ preb_304 n1 n0 H0) (f4 : n2 = 306) (f5 : n2 = hV H0 (n1).toNat 36) (f6 : n3 ≤ 1) (f7 : 0 ≤ n3) (f8 : n3 = hV H0 (n1).toNat 34) (f9 : n4 ≤ 12) (f10 : 0 ≤ n4) (f11 : n4 = hV H0 (n2).toNat (n3).toNat) (f12 : n5 = 1) (f13 : n6 = w32 (n4 - n5)) : (-1) ≤ n6 := by
  unfold preb_304 at f3
  have e0 : n3 = hV H0 285 34 := (by rw [f2] at f8; exact f8 : n3 = hV H0 285 34)
  have e1 : n4 = hV H0 306 (n3).toNat := (by rw [f4] at f11; exact f11 : n4 = hV H0 306 (n3).toNat)
  have p0 := f3.2.1
  have p1 := f3.2.2
  clear f5 f8 f11
  clear f3
  subst e0
  subst e1
  first
  | (have ix0 : n6 = hV H0 306 (hV H0 285 34).toNat - 1 := Eq.trans f13 (w32_iv (Isu (Iat f10 f9) (IC 1)) (by decide)); subst ix0; clear f13)
  | (have ix0 : n6 = hV H0 306 (hV H0 285 34).toNat - 1 := Eq.trans f13 (w32_id (by omega) (by omega)); subst ix0; clear f13)
  | (unfold w32 at f13; have ix0 : n6 = hV H0 306 (hV H0 285 34).toNat - 1 := (by omega); subst ix0)
  | skip
  try unfold w32 at f13
  omega
def g_304_s_0 : vG := ([(2, [7, 5, 6], [], 0), (0, [6], [], 1), (22, [5, 3, 4], [0], 0), (90, [5], [], 0), (91, [5], [], 12), (20, [4, 0], [0], 34), (90, [4], [], 0), (91, [4], [], 1), (20, [3, 0], [0], 36), (0, [3], [], 306), (6000, [0, 1], [0], 0), (0, [0], [], 285), (90, [1], [], -2147483648), (91, [1], [], 2147483647)], (90, [7], [], -1))
theorem c_304_s_0 : vOkm T0 (eP e_304 L_304 A_304 mu_304 none) 2 g_304_s_0 := vOk_inI fun ρ η f0 f1 f2 f3 f4 f5 f6 f7 f8 f9 f10 f11 f12 f13 => q_304_0 (n0 := ρ 1) (n1 := ρ 0) (n2 := ρ 3) (n3 := ρ 4) (n4 := ρ 5) (n5 := ρ 6) (n6 := ρ 7) (H0 := η 0) f13 f12 f11 f10 f9 f8 f7 f6 f5 f4 f3 f2 f1 f0
theorem q_304_1 {n0 n1 n2 n3 n4 n5 n6 : Int} {H0 : gH} (f0 : n0 ≤ 2147483647) (f1 : (-2147483648) ≤ n0) (f2 : n1 = 285) (f3 : hWt T0 H0 ∧ preb_304 n1 n0 H0) (f4 : n2 = 306) (f5 : n2 = hV H0 (n1).toNat 36) (f6 : n3 ≤ 1) (f7 : 0 ≤ n3) (f8 : n3 = hV H0 (n1).toNat 34) (f9 : n4 ≤ 12) (f10 : 0 ≤ n4) (f11 : n4 = hV H0 (n2).toNat (n3).toNat) (f12 : n5 = 1) (f13 : n6 = w32 (n4 - n5)) : n6 ≤ 11 := by
  unfold preb_304 at f3
  have e0 : n3 = hV H0 285 34 := (by rw [f2] at f8; exact f8 : n3 = hV H0 285 34)
  have e1 : n4 = hV H0 306 (n3).toNat := (by rw [f4] at f11; exact f11 : n4 = hV H0 306 (n3).toNat)
  have p0 := f3.2.1
  have p1 := f3.2.2
  clear f5 f8 f11
  clear f3
  subst e0
  subst e1
  first
  | (have ix0 : n6 = hV H0 306 (hV H0 285 34).toNat - 1 := Eq.trans f13 (w32_iv (Isu (Iat f10 f9) (IC 1)) (by decide)); subst ix0; clear f13)
  | (have ix0 : n6 = hV H0 306 (hV H0 285 34).toNat - 1 := Eq.trans f13 (w32_id (by omega) (by omega)); subst ix0; clear f13)
  | (unfold w32 at f13; have ix0 : n6 = hV H0 306 (hV H0 285 34).toNat - 1 := (by omega); subst ix0)
  | skip
  try unfold w32 at f13
  omega
def g_304_s_1 : vG := ([(2, [7, 5, 6], [], 0), (0, [6], [], 1), (22, [5, 3, 4], [0], 0), (90, [5], [], 0), (91, [5], [], 12), (20, [4, 0], [0], 34), (90, [4], [], 0), (91, [4], [], 1), (20, [3, 0], [0], 36), (0, [3], [], 306), (6000, [0, 1], [0], 0), (0, [0], [], 285), (90, [1], [], -2147483648), (91, [1], [], 2147483647)], (91, [7], [], 11))
theorem c_304_s_1 : vOkm T0 (eP e_304 L_304 A_304 mu_304 none) 2 g_304_s_1 := vOk_inI fun ρ η f0 f1 f2 f3 f4 f5 f6 f7 f8 f9 f10 f11 f12 f13 => q_304_1 (n0 := ρ 1) (n1 := ρ 0) (n2 := ρ 3) (n3 := ρ 4) (n4 := ρ 5) (n5 := ρ 6) (n6 := ρ 7) (H0 := η 0) f13 f12 f11 f10 f9 f8 f7 f6 f5 f4 f3 f2 f1 f0
theorem q_304_2 {n0 n1 n2 n3 n4 n5 n6 n7 : Int} {H0 : gH} (f0 : n0 ≤ 2147483647) (f1 : (-2147483648) ≤ n0) (f2 : n1 = 285) (f3 : hWt T0 H0 ∧ preb_304 n1 n0 H0) (f4 : n2 = (-1)) (f5 : n3 = 306) (f6 : n3 = hV H0 (n1).toNat 36) (f7 : n4 ≤ 1) (f8 : 0 ≤ n4) (f9 : n4 = hV H0 (n1).toNat 34) (f10 : n5 ≤ 12) (f11 : 0 ≤ n5) (f12 : n5 = hV H0 (n3).toNat (n4).toNat) (f13 : n6 = 1) (f14 : n7 = w32 (n5 - n6)) : Ab_304_14 n1 n0 n1 n0 n2 n7 H0 H0 ∧ ∀ q, none = some q → mub_304_14 n1 n0 n1 n0 n2 n7 H0 H0 < q := by
  unfold preb_304 at f3
  unfold Ab_304_14
  have e0 : n4 = hV H0 285 34 := (by rw [f2] at f9; exact f9 : n4 = hV H0 285 34)
  have e1 : n5 = hV H0 306 (n4).toNat := (by rw [f5] at f12; exact f12 : n5 = hV H0 306 (n4).toNat)
  have p0 := f3.2.1
  have p1 := f3.2.2
  clear f6 f9 f12
  clear f3
  subst e0
  subst e1
  first
  | (have ix0 : n7 = hV H0 306 (hV H0 285 34).toNat - 1 := Eq.trans f14 (w32_iv (Isu (Iat f11 f10) (IC 1)) (by decide)); subst ix0; clear f14)
  | (have ix0 : n7 = hV H0 306 (hV H0 285 34).toNat - 1 := Eq.trans f14 (w32_id (by omega) (by omega)); subst ix0; clear f14)
  | (unfold w32 at f14; have ix0 : n7 = hV H0 306 (hV H0 285 34).toNat - 1 := (by omega); subst ix0)
  | skip
  try unfold w32 at f14
  refine ⟨?_, fun q hq => ?_⟩
  · refine ⟨?_, ?_⟩ <;> first | assumption | omega | trivial
  · exact nomatch hq
def g_304_s_2 : vG := ([(2, [7, 5, 6], [], 0), (0, [6], [], 1), (22, [5, 3, 4], [0], 0), (90, [5], [], 0), (91, [5], [], 12), (20, [4, 0], [0], 34), (90, [4], [], 0), (91, [4], [], 1), (20, [3, 0], [0], 36), (0, [3], [], 306), (0, [2], [], -1), (6000, [0, 1], [0], 0), (0, [0], [], 285), (90, [1], [], -2147483648), (91, [1], [], 2147483647)], (4000, [0, 1, 2, 7], [0], 14))
theorem c_304_s_2 : vOkm T0 (eP e_304 L_304 A_304 mu_304 none) 2 g_304_s_2 := vOk_inI fun ρ η f0 f1 f2 f3 f4 f5 f6 f7 f8 f9 f10 f11 f12 f13 f14 => q_304_2 (n0 := ρ 1) (n1 := ρ 0) (n2 := ρ 2) (n3 := ρ 3) (n4 := ρ 4) (n5 := ρ 5) (n6 := ρ 6) (n7 := ρ 7) (H0 := η 0) f14 f13 f12 f11 f10 f9 f8 f7 f6 f5 f4 f3 f2 f1 f0
def p_304_s : List vG := [g_304_s_0,
  g_304_s_1,
  g_304_s_2]
theorem r_304_s : vCovO true (eR0 e_304 L_304 cs_304 2000) p_304_s = true := by decide +kernel
theorem kF_304_285_18 : vFree s_304.2.2.2.2 285 18 = true := by decide +kernel
theorem q_304_3 {q0 : Nat} {n0 n1 n2 n3 n4 n5 n6 n7 : Int} {H0 H1 H2 : gH} (f0 : n0 ≤ 11) (f1 : (-1) ≤ n0) (f2 : n1 ≤ 23) (f3 : (-1) ≤ n1) (f4 : n2 ≤ 2147483647) (f5 : (-2147483648) ≤ n2) (f6 : n3 = 285) (f7 : n4 ≤ 2147483647) (f8 : (-2147483648) ≤ n4) (f9 : n5 = 285) (f10 : (hLe T0 H0 H1 ∧ hFr s_304.2.2.2.2 H0 H1 ∧ hWt T0 H1) ∧ (Ab_304_14 n5 n4 n3 n2 n1 n0 H0 H1 ∧ preb_304 n5 n4 H0) ∧ some q0 = some (mub_304_14 n5 n4 n3 n2 n1 n0 H0 H1)) (f11 : n0 < 0) (f12 : n6 ≤ 1) (f13 : 0 ≤ n6) (f14 : (hLe T0 H1 H2 ∧ hFr s_282.2.2.2.2 H1 H2 ∧ ((0 : Int) = 0 → H2.length = H1.length) ∧ hWt T0 H2) ∧ postb_282 n6 n3 n2 H1 H2) (f15 : n6 ≠ 0) (f16 : n7 = (-1)) (f17 : n1 ≠ n7) : 0 ≤ n2 := by
  have g4 := f10.2.1.1
  unfold Ab_304_14 at g4
  have g3 := f10.2.1.2
  unfold preb_304 at g3
  unfold postb_282 at f14
  have e3 : hV H2 285 18 = hV H0 285 18 := ((f14.1.2.1.1 285 18 kF_282_285_18)).trans (f10.1.2.1.1 285 18 kF_304_285_18)
  have e4 : (0 : Int) ≤ hV H0 285 18 ∧ hV H0 285 18 ≤ 8 := bTo ((f10.1.2.1.1 285 18 kF_304_285_18)) (f10.1.2.2 285 18 _ _ kW_285_18)
  have k0 := g4.1
  have y0 := g4.2
  have p0 := g3.1
  have p1 := g3.2
  have r0_0 := f14.2
  try simp only [e3] at r0_0
  clear g3
  clear g4
  clear e3
  clear f10 f14
  try subst k0
  omega
def g_304_14_0 : vG := ([(41, [4, 7], [], 0), (0, [7], [], -1), (31, [6], [], 0), (1282, [6, 2, 3], [1, 2], 0), (90, [6], [], 0), (91, [6], [], 1), (32, [5], [], 0), (5000, [0, 1, 2, 3, 4, 5], [0, 1], 14), (0, [0], [], 285), (90, [1], [], -2147483648), (91, [1], [], 2147483647), (0, [2], [], 285), (90, [3], [], -2147483648), (91, [3], [], 2147483647), (90, [4], [], -1), (91, [4], [], 23), (90, [5], [], -1), (91, [5], [], 11)], (90, [3], [], 0))
theorem c_304_14_0 {q0 : Nat} : vOkm T0 (eP e_304 L_304 A_304 mu_304 (some q0)) 2 g_304_14_0 := vOk_inI fun ρ η f0 f1 f2 f3 f4 f5 f6 f7 f8 f9 f10 f11 f12 f13 f14 f15 f16 f17 => q_304_3 (q0 := q0) (n0 := ρ 5) (n1 := ρ 4) (n2 := ρ 3) (n3 := ρ 2) (n4 := ρ 1) (n5 := ρ 0) (n6 := ρ 6) (n7 := ρ 7) (H0 := η 0) (H1 := η 1) (H2 := η 2) f17 f16 f15 f14 f13 f12 f11 f10 f9 f8 f7 f6 f5 f4 f3 f2 f1 f0
theorem q_304_4 {q0 : Nat} {n0 n1 n2 n3 n4 n5 n6 n7 : Int} {H0 H1 H2 : gH} (f0 : n0 ≤ 11) (f1 : (-1) ≤ n0) (f2 : n1 ≤ 23) (f3 : (-1) ≤ n1) (f4 : n2 ≤ 2147483647) (f5 : (-2147483648) ≤ n2) (f6 : n3 = 285) (f7 : n4 ≤ 2147483647) (f8 : (-2147483648) ≤ n4) (f9 : n5 = 285) (f10 : (hLe T0 H0 H1 ∧ hFr s_304.2.2.2.2 H0 H1 ∧ hWt T0 H1) ∧ (Ab_304_14 n5 n4 n3 n2 n1 n0 H0 H1 ∧ preb_304 n5 n4 H0) ∧ some q0 = some (mub_304_14 n5 n4 n3 n2 n1 n0 H0 H1)) (f11 : n0 < 0) (f12 : n6 ≤ 1) (f13 : 0 ≤ n6) (f14 : (hLe T0 H1 H2 ∧ hFr s_282.2.2.2.2 H1 H2 ∧ ((0 : Int) = 0 → H2.length = H1.length) ∧ hWt T0 H2) ∧ postb_282 n6 n3 n2 H1 H2) (f15 : n6 ≠ 0) (f16 : n7 = (-1)) (f17 : n1 ≠ n7) : n2 ≤ 7 := by
  have g4 := f10.2.1.1
  unfold Ab_304_14 at g4
  have g3 := f10.2.1.2
  unfold preb_304 at g3
  unfold postb_282 at f14
  have e3 : hV H2 285 18 = hV H0 285 18 := ((f14.1.2.1.1 285 18 kF_282_285_18)).trans (f10.1.2.1.1 285 18 kF_304_285_18)
  have e4 : (0 : Int) ≤ hV H0 285 18 ∧ hV H0 285 18 ≤ 8 := bTo ((f10.1.2.1.1 285 18 kF_304_285_18)) (f10.1.2.2 285 18 _ _ kW_285_18)
  have k0 := g4.1
  have y0 := g4.2
  have p0 := g3.1
  have p1 := g3.2
  have r0_0 := f14.2
  try simp only [e3] at r0_0
  clear g3
  clear g4
  clear e3
  clear f10 f14
  try subst k0
  omega
def g_304_14_1 : vG := ([(41, [4, 7], [], 0), (0, [7], [], -1), (31, [6], [], 0), (1282, [6, 2, 3], [1, 2], 0), (90, [6], [], 0), (91, [6], [], 1), (32, [5], [], 0), (5000, [0, 1, 2, 3, 4, 5], [0, 1], 14), (0, [0], [], 285), (90, [1], [], -2147483648), (91, [1], [], 2147483647), (0, [2], [], 285), (90, [3], [], -2147483648), (91, [3], [], 2147483647), (90, [4], [], -1), (91, [4], [], 23), (90, [5], [], -1), (91, [5], [], 11)], (91, [3], [], 7))
theorem c_304_14_1 {q0 : Nat} : vOkm T0 (eP e_304 L_304 A_304 mu_304 (some q0)) 2 g_304_14_1 := vOk_inI fun ρ η f0 f1 f2 f3 f4 f5 f6 f7 f8 f9 f10 f11 f12 f13 f14 f15 f16 f17 => q_304_4 (q0 := q0) (n0 := ρ 5) (n1 := ρ 4) (n2 := ρ 3) (n3 := ρ 2) (n4 := ρ 1) (n5 := ρ 0) (n6 := ρ 6) (n7 := ρ 7) (H0 := η 0) (H1 := η 1) (H2 := η 2) f17 f16 f15 f14 f13 f12 f11 f10 f9 f8 f7 f6 f5 f4 f3 f2 f1 f0
theorem q_304_5 {q0 : Nat} {n0 n1 n2 n3 n4 n5 n6 n7 : Int} {H0 H1 H2 : gH} (f0 : n0 ≤ 11) (f1 : (-1) ≤ n0) (f2 : n1 ≤ 23) (f3 : (-1) ≤ n1) (f4 : n2 ≤ 2147483647) (f5 : (-2147483648) ≤ n2) (f6 : n3 = 285) (f7 : n4 ≤ 2147483647) (f8 : (-2147483648) ≤ n4) (f9 : n5 = 285) (f10 : (hLe T0 H0 H1 ∧ hFr s_304.2.2.2.2 H0 H1 ∧ hWt T0 H1) ∧ (Ab_304_14 n5 n4 n3 n2 n1 n0 H0 H1 ∧ preb_304 n5 n4 H0) ∧ some q0 = some (mub_304_14 n5 n4 n3 n2 n1 n0 H0 H1)) (f11 : n0 < 0) (f12 : n6 ≤ 1) (f13 : 0 ≤ n6) (f14 : (hLe T0 H1 H2 ∧ hFr s_282.2.2.2.2 H1 H2 ∧ ((0 : Int) = 0 → H2.length = H1.length) ∧ hWt T0 H2) ∧ postb_282 n6 n3 n2 H1 H2) (f15 : n6 ≠ 0) (f16 : n7 = (-1)) (f17 : n1 ≠ n7) : preb_270 n3 n2 H2 := by
  have g4 := f10.2.1.1
  unfold Ab_304_14 at g4
  have g3 := f10.2.1.2
  unfold preb_304 at g3
  unfold postb_282 at f14
  unfold preb_270
  have e3 : hV H2 285 18 = hV H0 285 18 := ((f14.1.2.1.1 285 18 kF_282_285_18)).trans (f10.1.2.1.1 285 18 kF_304_285_18)
  have e4 : PG H1 = PG H0 := PG_fr f10.1.2.1 (by decide +kernel)
  have e5 : PG H2 = PG H1 := PG_fr f14.1.2.1 (by decide +kernel)
  have e6 : PG H2 = PG H0 := e5.trans e4
  have e7 : (0 : Int) ≤ hV H0 285 18 ∧ hV H0 285 18 ≤ 8 := bTo ((f10.1.2.1.1 285 18 kF_304_285_18)) (f10.1.2.2 285 18 _ _ kW_285_18)
  try simp only [e3, e6]
  have k0 := g4.1
  have y0 := g4.2
  have p0 := g3.1
  have p1 := g3.2
  have r0_0 := f14.2
  try simp only [e3] at r0_0
  clear g3
  clear g4
  clear e3 e4 e5 e6
  clear f10 f14
  try subst k0
  refine ⟨?_, ?_⟩ <;> first | assumption | omega | trivial
def g_304_14_2 : vG := ([(41, [4, 7], [], 0), (0, [7], [], -1), (31, [6], [], 0), (1282, [6, 2, 3], [1, 2], 0), (90, [6], [], 0), (91, [6], [], 1), (32, [5], [], 0), (5000, [0, 1, 2, 3, 4, 5], [0, 1], 14), (0, [0], [], 285), (90, [1], [], -2147483648), (91, [1], [], 2147483647), (0, [2], [], 285), (90, [3], [], -2147483648), (91, [3], [], 2147483647), (90, [4], [], -1), (91, [4], [], 23), (90, [5], [], -1), (91, [5], [], 11)], (2270, [2, 3], [2], 0))
theorem c_304_14_2 {q0 : Nat} : vOkm T0 (eP e_304 L_304 A_304 mu_304 (some q0)) 2 g_304_14_2 := vOk_inI fun ρ η f0 f1 f2 f3 f4 f5 f6 f7 f8 f9 f10 f11 f12 f13 f14 f15 f16 f17 => q_304_5 (q0 := q0) (n0 := ρ 5) (n1 := ρ 4) (n2 := ρ 3) (n3 := ρ 2) (n4 := ρ 1) (n5 := ρ 0) (n6 := ρ 6) (n7 := ρ 7) (H0 := η 0) (H1 := η 1) (H2 := η 2) f17 f16 f15 f14 f13 f12 f11 f10 f9 f8 f7 f6 f5 f4 f3 f2 f1 f0
theorem kR_304_296 : vFreeR s_304.2.2.2.2 296 = true := by decide +kernel
theorem kR_304_298 : vFreeR s_304.2.2.2.2 298 = true := by decide +kernel
theorem kR_304_300 : vFreeR s_304.2.2.2.2 300 = true := by decide +kernel
theorem q_304_6 {q0 : Nat} {n0 n1 n2 n3 n4 n5 n6 n7 : Int} {H0 H1 H2 H3 : gH} (f0 : n0 ≤ 11) (f1 : (-1) ≤ n0) (f2 : n1 ≤ 23) (f3 : (-1) ≤ n1) (f4 : n2 ≤ 2147483647) (f5 : (-2147483648) ≤ n2) (f6 : n3 = 285) (f7 : n4 ≤ 2147483647) (f8 : (-2147483648) ≤ n4) (f9 : n5 = 285) (f10 : (hLe T0 H0 H1 ∧ hFr s_304.2.2.2.2 H0 H1 ∧ hWt T0 H1) ∧ (Ab_304_14 n5 n4 n3 n2 n1 n0 H0 H1 ∧ preb_304 n5 n4 H0) ∧ some q0 = some (mub_304_14 n5 n4 n3 n2 n1 n0 H0 H1)) (f11 : n0 < 0) (f12 : n6 ≤ 1) (f13 : 0 ≤ n6) (f14 : (hLe T0 H1 H2 ∧ hFr s_282.2.2.2.2 H1 H2 ∧ ((0 : Int) = 0 → H2.length = H1.length) ∧ hWt T0 H2) ∧ postb_282 n6 n3 n2 H1 H2) (f15 : n6 ≠ 0) (f16 : n7 = (-1)) (f17 : n1 ≠ n7) (f18 : (hLe T0 H2 H3 ∧ hFr s_270.2.2.2.2 H2 H3 ∧ ((0 : Int) = 0 → H3.length = H2.length) ∧ hWt T0 H3) ∧ postb_270 n3 n2 H2 H3) : 0 ≤ n1 := by
  have g4 := f10.2.1.1
  unfold Ab_304_14 at g4
  have g3 := f10.2.1.2
  unfold preb_304 at g3
  unfold postb_282 at f14
  unfold postb_270 at f18
  have e3 : hV H2 285 18 = hV H0 285 18 := ((f14.1.2.1.1 285 18 kF_282_285_18)).trans (f10.1.2.1.1 285 18 kF_304_285_18)
  have e8 : hV H3 296 = hV H0 296 := (fRow f18.1.2.1 296 kR_270_296).trans ((fRow f14.1.2.1 296 kR_282_296).trans (fRow f10.1.2.1 296 kR_304_296))
  have e13 : hV H3 298 = hV H0 298 := (fRow f18.1.2.1 298 kR_270_298).trans ((fRow f14.1.2.1 298 kR_282_298).trans (fRow f10.1.2.1 298 kR_304_298))
  have e18 : hV H3 300 = hV H0 300 := (fRow f18.1.2.1 300 kR_270_300).trans ((fRow f14.1.2.1 300 kR_282_300).trans (fRow f10.1.2.1 300 kR_304_300))
  have e19 : (0 : Int) ≤ hV H0 285 18 ∧ hV H0 285 18 ≤ 8 := bTo ((f10.1.2.1.1 285 18 kF_304_285_18)) (f10.1.2.2 285 18 _ _ kW_285_18)
  have e20 : (0 : Int) ≤ hV H1 285 82 ∧ hV H1 285 82 ≤ 40 := f10.1.2.2 285 82 _ _ kW_285_82
  have e22 : (0 : Int) ≤ hV H3 285 82 ∧ hV H3 285 82 ≤ 40 := f18.1.2.2.2 285 82 _ _ kW_285_82
  have k0 := g4.1
  have y0 := g4.2
  have p0 := g3.1
  have p1 := g3.2
  have r0_0 := f14.2
  have r1_0 := f18.2.1
  have r1_1 := f18.2.2
  try simp only [e3] at r0_0
  try simp only [e8, e13, e18] at r1_0
  clear g3
  clear g4
  clear e3 e8 e13 e18
  clear f10 f14 f18
  try subst k0
  omega
def g_304_14_3 : vG := ([(1270, [2, 3], [2, 3], 0), (41, [4, 7], [], 0), (0, [7], [], -1), (31, [6], [], 0), (1282, [6, 2, 3], [1, 2], 0), (90, [6], [], 0), (91, [6], [], 1), (32, [5], [], 0), (5000, [0, 1, 2, 3, 4, 5], [0, 1], 14), (0, [0], [], 285), (90, [1], [], -2147483648), (91, [1], [], 2147483647), (0, [2], [], 285), (90, [3], [], -2147483648), (91, [3], [], 2147483647), (90, [4], [], -1), (91, [4], [], 23), (90, [5], [], -1), (91, [5], [], 11)], (90, [4], [], 0))
theorem c_304_14_3 {q0 : Nat} : vOkm T0 (eP e_304 L_304 A_304 mu_304 (some q0)) 2 g_304_14_3 := vOk_inI fun ρ η f0 f1 f2 f3 f4 f5 f6 f7 f8 f9 f10 f11 f12 f13 f14 f15 f16 f17 f18 => q_304_6 (q0 := q0) (n0 := ρ 5) (n1 := ρ 4) (n2 := ρ 3) (n3 := ρ 2) (n4 := ρ 1) (n5 := ρ 0) (n6 := ρ 6) (n7 := ρ 7) (H0 := η 0) (H1 := η 1) (H2 := η 2) (H3 := η 3) f18 f17 f16 f15 f14 f13 f12 f11 f10 f9 f8 f7 f6 f5 f4 f3 f2 f1 f0
theorem q_304_7 {q0 : Nat} {n0 n1 n2 n3 n4 n5 n6 n7 n8 n9 : Int} {H0 H1 H2 H3 : gH} (f0 : n0 ≤ 11) (f1 : (-1) ≤ n0) (f2 : n1 ≤ 23) (f3 : (-1) ≤ n1) (f4 : n2 ≤ 2147483647) (f5 : (-2147483648) ≤ n2) (f6 : n3 = 285) (f7 : n4 ≤ 2147483647) (f8 : (-2147483648) ≤ n4) (f9 : n5 = 285) (f10 : (hLe T0 H0 H1 ∧ hFr s_304.2.2.2.2 H0 H1 ∧ hWt T0 H1) ∧ (Ab_304_14 n5 n4 n3 n2 n1 n0 H0 H1 ∧ preb_304 n5 n4 H0) ∧ some q0 = some (mub_304_14 n5 n4 n3 n2 n1 n0 H0 H1)) (f11 : n0 < 0) (f12 : n6 ≤ 1) (f13 : 0 ≤ n6) (f14 : (hLe T0 H1 H2 ∧ hFr s_282.2.2.2.2 H1 H2 ∧ ((0 : Int) = 0 → H2.length = H1.length) ∧ hWt T0 H2) ∧ postb_282 n6 n3 n2 H1 H2) (f15 : n6 ≠ 0) (f16 : n7 = (-1)) (f17 : n1 ≠ n7) (f18 : (hLe T0 H2 H3 ∧ hFr s_270.2.2.2.2 H2 H3 ∧ ((0 : Int) = 0 → H3.length = H2.length) ∧ hWt T0 H3) ∧ postb_270 n3 n2 H2 H3) (f19 : n8 = 0) (f20 : n9 = 0) : Ab_304_77 n5 n4 n3 n2 n1 n8 n9 H0 H3 ∧ ∀ q, some q0 = some q → mub_304_77 n5 n4 n3 n2 n1 n8 n9 H0 H3 < q := by
  have g4 := f10.2.1.1
  unfold Ab_304_14 at g4
  have g3 := f10.2.1.2
  unfold preb_304 at g3
  have g5 := Option.some.inj f10.2.2
  unfold mub_304_14 at g5
  unfold postb_282 at f14
  unfold postb_270 at f18
  unfold Ab_304_77
  unfold mub_304_77
  have e3 : hV H2 285 18 = hV H0 285 18 := ((f14.1.2.1.1 285 18 kF_282_285_18)).trans (f10.1.2.1.1 285 18 kF_304_285_18)
  have e5 : hV H3 285 18 = hV H0 285 18 := ((f18.1.2.1.1 285 18 kF_270_285_18)).trans (((f14.1.2.1.1 285 18 kF_282_285_18)).trans (f10.1.2.1.1 285 18 kF_304_285_18))
  have e10 : hV H3 296 = hV H0 296 := (fRow f18.1.2.1 296 kR_270_296).trans ((fRow f14.1.2.1 296 kR_282_296).trans (fRow f10.1.2.1 296 kR_304_296))
  have e15 : hV H3 298 = hV H0 298 := (fRow f18.1.2.1 298 kR_270_298).trans ((fRow f14.1.2.1 298 kR_282_298).trans (fRow f10.1.2.1 298 kR_304_298))
  have e20 : hV H3 300 = hV H0 300 := (fRow f18.1.2.1 300 kR_270_300).trans ((fRow f14.1.2.1 300 kR_282_300).trans (fRow f10.1.2.1 300 kR_304_300))
  have e21 : (0 : Int) ≤ hV H0 285 18 ∧ hV H0 285 18 ≤ 8 := bTo ((f10.1.2.1.1 285 18 kF_304_285_18)) (f10.1.2.2 285 18 _ _ kW_285_18)
  have e22 : (0 : Int) ≤ hV H1 285 82 ∧ hV H1 285 82 ≤ 40 := f10.1.2.2 285 82 _ _ kW_285_82
  have e25 : (0 : Int) ≤ hV H3 285 82 ∧ hV H3 285 82 ≤ 40 := f18.1.2.2.2 285 82 _ _ kW_285_82
  try simp only [e5]
  have k0 := g4.1
  have y0 := g4.2
  have p0 := g3.1
  have p1 := g3.2
  have r0_0 := f14.2
  have r1_0 := f18.2.1
  have r1_1 := f18.2.2
  try simp only [e3] at r0_0
  try simp only [e10, e15, e20] at r1_0
  clear g3
  clear g4
  clear e3 e5 e10 e15 e20
  clear f10 f14 f18
  try subst k0
  refine ⟨?_, fun q hq => ?_⟩
  · refine ⟨?_, ?_, ?_, ?_⟩ <;> first | assumption | omega | trivial
  · have g6 := Option.some.inj hq
    subst g6
    omega
def g_304_14_4 : vG := ([(0, [9], [], 0), (0, [8], [], 0), (1270, [2, 3], [2, 3], 0), (41, [4, 7], [], 0), (0, [7], [], -1), (31, [6], [], 0), (1282, [6, 2, 3], [1, 2], 0), (90, [6], [], 0), (91, [6], [], 1), (32, [5], [], 0), (5000, [0, 1, 2, 3, 4, 5], [0, 1], 14), (0, [0], [], 285), (90, [1], [], -2147483648), (91, [1], [], 2147483647), (0, [2], [], 285), (90, [3], [], -2147483648), (91, [3], [], 2147483647), (90, [4], [], -1), (91, [4], [], 23), (90, [5], [], -1), (91, [5], [], 11)], (4000, [2, 3, 4, 8, 9], [3], 77))
theorem c_304_14_4 {q0 : Nat} : vOkm T0 (eP e_304 L_304 A_304 mu_304 (some q0)) 2 g_304_14_4 := vOk_inI fun ρ η f0 f1 f2 f3 f4 f5 f6 f7 f8 f9 f10 f11 f12 f13 f14 f15 f16 f17 f18 f19 f20 => q_304_7 (q0 := q0) (n0 := ρ 5) (n1 := ρ 4) (n2 := ρ 3) (n3 := ρ 2) (n4 := ρ 1) (n5 := ρ 0) (n6 := ρ 6) (n7 := ρ 7) (n8 := ρ 8) (n9 := ρ 9) (H0 := η 0) (H1 := η 1) (H2 := η 2) (H3 := η 3) f20 f19 f18 f17 f16 f15 f14 f13 f12 f11 f10 f9 f8 f7 f6 f5 f4 f3 f2 f1 f0
theorem kF_304_285_34 : vFree s_304.2.2.2.2 285 34 = true := by decide +kernel
theorem q_304_8 {q0 : Nat} {n0 n1 n2 n3 n4 n5 n6 n7 n8 n9 : Int} {H0 H1 : gH} (f0 : n0 ≤ 11) (f1 : (-1) ≤ n0) (f2 : n1 ≤ 23) (f3 : (-1) ≤ n1) (f4 : n2 ≤ 2147483647) (f5 : (-2147483648) ≤ n2) (f6 : n3 = 285) (f7 : n4 ≤ 2147483647) (f8 : (-2147483648) ≤ n4) (f9 : n5 = 285) (f10 : (hLe T0 H0 H1 ∧ hFr s_304.2.2.2.2 H0 H1 ∧ hWt T0 H1) ∧ (Ab_304_14 n5 n4 n3 n2 n1 n0 H0 H1 ∧ preb_304 n5 n4 H0) ∧ some q0 = some (mub_304_14 n5 n4 n3 n2 n1 n0 H0 H1)) (f11 : 0 ≤ n0) (f12 : n6 = 12) (f13 : n7 ≤ 1) (f14 : 0 ≤ n7) (f15 : n7 = hV H1 (n3).toNat 34) (f16 : n8 = w32 (n6 * n7)) (f17 : n9 = w32 (n8 + n0)) : 0 ≤ n9 ∧ n9 < 24 := by
  have g4 := f10.2.1.1
  unfold Ab_304_14 at g4
  have g3 := f10.2.1.2
  unfold preb_304 at g3
  have e1 : n7 = hV H0 285 34 := (by rw [f6] at f15; exact f15 : n7 = hV H1 285 34).trans ((f10.1.2.1.1 285 34 kF_304_285_34))
  have k0 := g4.1
  have y0 := g4.2
  have p0 := g3.1
  have p1 := g3.2
  clear g3
  clear g4
  clear f15
  clear f10
  subst e1
  rw [f12] at f16
  first
  | (have ix0 : n8 = 12 * (hV H0 285 34) := Eq.trans f16 (w32_iv (Iml 12 rfl (Iat f14 f13)) (by decide)); subst ix0; clear f16)
  | (have ix0 : n8 = 12 * (hV H0 285 34) := Eq.trans f16 (w32_id (by omega) (by omega)); subst ix0; clear f16)
  | (unfold w32 at f16; have ix0 : n8 = 12 * (hV H0 285 34) := (by omega); subst ix0)
  | skip
  first
  | (have ix1 : n9 = (12 * (hV H0 285 34)) + n0 := Eq.trans f17 (w32_iv (Iad (Iml 12 rfl (Iat f14 f13)) (Iat f1 f0)) (by decide)); subst ix1; clear f17)
  | (have ix1 : n9 = (12 * (hV H0 285 34)) + n0 := Eq.trans f17 (w32_id (by omega) (by omega)); subst ix1; clear f17)
  | (unfold w32 at f17; have ix1 : n9 = (12 * (hV H0 285 34)) + n0 := (by omega); subst ix1)
  | skip
  try unfold w32 at f16
  try unfold w32 at f17
  try subst k0
  omega
def g_304_14_5 : vG := ([(1, [10, 9, 5], [], 0), (3, [9, 7, 8], [], 0), (20, [8, 2], [1], 34), (90, [8], [], 0), (91, [8], [], 1), (0, [7], [], 12), (33, [5], [], 0), (5000, [0, 1, 2, 3, 4, 5], [0, 1], 14), (0, [0], [], 285), (90, [1], [], -2147483648), (91, [1], [], 2147483647), (0, [2], [], 285), (90, [3], [], -2147483648), (91, [3], [], 2147483647), (90, [4], [], -1), (91, [4], [], 23), (90, [5], [], -1), (91, [5], [], 11)], (70, [10], [], 24))
theorem c_304_14_5 {q0 : Nat} : vOkm T0 (eP e_304 L_304 A_304 mu_304 (some q0)) 2 g_304_14_5 := vOk_inI fun ρ η f0 f1 f2 f3 f4 f5 f6 f7 f8 f9 f10 f11 f12 f13 f14 f15 f16 f17 => q_304_8 (q0 := q0) (n0 := ρ 5) (n1 := ρ 4) (n2 := ρ 3) (n3 := ρ 2) (n4 := ρ 1) (n5 := ρ 0) (n6 := ρ 7) (n7 := ρ 8) (n8 := ρ 9) (n9 := ρ 10) (H0 := η 0) (H1 := η 1) f17 f16 f15 f14 f13 f12 f11 f10 f9 f8 f7 f6 f5 f4 f3 f2 f1 f0
theorem q_304_9 {q0 : Nat} {n0 n1 n2 n3 n4 n5 n6 : Int} {H0 H1 : gH} (f0 : n0 ≤ 11) (f1 : (-1) ≤ n0) (f2 : n1 ≤ 23) (f3 : (-1) ≤ n1) (f4 : n2 ≤ 2147483647) (f5 : (-2147483648) ≤ n2) (f6 : n3 = 285) (f7 : n4 ≤ 2147483647) (f8 : (-2147483648) ≤ n4) (f9 : n5 = 285) (f10 : (hLe T0 H0 H1 ∧ hFr s_304.2.2.2.2 H0 H1 ∧ hWt T0 H1) ∧ (Ab_304_14 n5 n4 n3 n2 n1 n0 H0 H1 ∧ preb_304 n5 n4 H0) ∧ some q0 = some (mub_304_14 n5 n4 n3 n2 n1 n0 H0 H1)) (f11 : 0 ≤ n0) (f12 : n6 = w32 (n0 + (-1))) : (-1) ≤ n6 := by
  have g4 := f10.2.1.1
  unfold Ab_304_14 at g4
  have g3 := f10.2.1.2
  unfold preb_304 at g3
  have k0 := g4.1
  have y0 := g4.2
  have p0 := g3.1
  have p1 := g3.2
  clear g3
  clear g4
  clear f10
  first
  | (have ix0 : n6 = n0 + -1 := Eq.trans f12 (w32_iv (Iad (Iat f1 f0) (IC (-1))) (by decide)); subst ix0; clear f12)
  | (have ix0 : n6 = n0 + -1 := Eq.trans f12 (w32_id (by omega) (by omega)); subst ix0; clear f12)
  | (unfold w32 at f12; have ix0 : n6 = n0 + -1 := (by omega); subst ix0)
  | skip
  try unfold w32 at f12
  try subst k0
  omega
def g_304_14_6 : vG := ([(10, [13, 5], [], -1), (33, [5], [], 0), (5000, [0, 1, 2, 3, 4, 5], [0, 1], 14), (0, [0], [], 285), (90, [1], [], -2147483648), (91, [1], [], 2147483647), (0, [2], [], 285), (90, [3], [], -2147483648), (91, [3], [], 2147483647), (90, [4], [], -1), (91, [4], [], 23), (90, [5], [], -1), (91, [5], [], 11)], (90, [13], [], -1))
theorem c_304_14_6 {q0 : Nat} : vOkm T0 (eP e_304 L_304 A_304 mu_304 (some q0)) 2 g_304_14_6 := vOk_inI fun ρ η f0 f1 f2 f3 f4 f5 f6 f7 f8 f9 f10 f11 f12 => q_304_9 (q0 := q0) (n0 := ρ 5) (n1 := ρ 4) (n2 := ρ 3) (n3 := ρ 2) (n4 := ρ 1) (n5 := ρ 0) (n6 := ρ 13) (H0 := η 0) (H1 := η 1) f12 f11 f10 f9 f8 f7 f6 f5 f4 f3 f2 f1 f0
theorem q_304_10 {q0 : Nat} {n0 n1 n2 n3 n4 n5 n6 : Int} {H0 H1 : gH} (f0 : n0 ≤ 11) (f1 : (-1) ≤ n0) (f2 : n1 ≤ 23) (f3 : (-1) ≤ n1) (f4 : n2 ≤ 2147483647) (f5 : (-2147483648) ≤ n2) (f6 : n3 = 285) (f7 : n4 ≤ 2147483647) (f8 : (-2147483648) ≤ n4) (f9 : n5 = 285) (f10 : (hLe T0 H0 H1 ∧ hFr s_304.2.2.2.2 H0 H1 ∧ hWt T0 H1) ∧ (Ab_304_14 n5 n4 n3 n2 n1 n0 H0 H1 ∧ preb_304 n5 n4 H0) ∧ some q0 = some (mub_304_14 n5 n4 n3 n2 n1 n0 H0 H1)) (f11 : 0 ≤ n0) (f12 : n6 = w32 (n0 + (-1))) : n6 ≤ 11 := by
  have g4 := f10.2.1.1
  unfold Ab_304_14 at g4
  have g3 := f10.2.1.2
  unfold preb_304 at g3
  have k0 := g4.1
  have y0 := g4.2
  have p0 := g3.1
  have p1 := g3.2
  clear g3
  clear g4
  clear f10
  first
  | (have ix0 : n6 = n0 + -1 := Eq.trans f12 (w32_iv (Iad (Iat f1 f0) (IC (-1))) (by decide)); subst ix0; clear f12)
  | (have ix0 : n6 = n0 + -1 := Eq.trans f12 (w32_id (by omega) (by omega)); subst ix0; clear f12)
  | (unfold w32 at f12; have ix0 : n6 = n0 + -1 := (by omega); subst ix0)
  | skip
  try unfold w32 at f12
  try subst k0
  omega
def g_304_14_7 : vG := ([(10, [13, 5], [], -1), (33, [5], [], 0), (5000, [0, 1, 2, 3, 4, 5], [0, 1], 14), (0, [0], [], 285), (90, [1], [], -2147483648), (91, [1], [], 2147483647), (0, [2], [], 285), (90, [3], [], -2147483648), (91, [3], [], 2147483647), (90, [4], [], -1), (91, [4], [], 23), (90, [5], [], -1), (91, [5], [], 11)], (91, [13], [], 11))
theorem c_304_14_7 {q0 : Nat} : vOkm T0 (eP e_304 L_304 A_304 mu_304 (some q0)) 2 g_304_14_7 := vOk_inI fun ρ η f0 f1 f2 f3 f4 f5 f6 f7 f8 f9 f10 f11 f12 => q_304_10 (q0 := q0) (n0 := ρ 5) (n1 := ρ 4) (n2 := ρ 3) (n3 := ρ 2) (n4 := ρ 1) (n5 := ρ 0) (n6 := ρ 13) (H0 := η 0) (H1 := η 1) f12 f11 f10 f9 f8 f7 f6 f5 f4 f3 f2 f1 f0
theorem q_304_11 {q0 : Nat} {n0 n1 n2 n3 n4 n5 n6 : Int} {H0 H1 : gH} (f0 : n0 ≤ 11) (f1 : (-1) ≤ n0) (f2 : n1 ≤ 23) (f3 : (-1) ≤ n1) (f4 : n2 ≤ 2147483647) (f5 : (-2147483648) ≤ n2) (f6 : n3 = 285) (f7 : n4 ≤ 2147483647) (f8 : (-2147483648) ≤ n4) (f9 : n5 = 285) (f10 : (hLe T0 H0 H1 ∧ hFr s_304.2.2.2.2 H0 H1 ∧ hWt T0 H1) ∧ (Ab_304_14 n5 n4 n3 n2 n1 n0 H0 H1 ∧ preb_304 n5 n4 H0) ∧ some q0 = some (mub_304_14 n5 n4 n3 n2 n1 n0 H0 H1)) (f11 : 0 ≤ n0) (f12 : n6 = w32 (n0 + (-1))) : Ab_304_14 n5 n4 n3 n2 n1 n6 H0 H1 ∧ ∀ q, some q0 = some q → mub_304_14 n5 n4 n3 n2 n1 n6 H0 H1 < q := by
  have g4 := f10.2.1.1
  unfold Ab_304_14 at g4
  have g3 := f10.2.1.2
  unfold preb_304 at g3
  have g5 := Option.some.inj f10.2.2
  unfold mub_304_14 at g5
  unfold Ab_304_14
  unfold mub_304_14
  have k0 := g4.1
  have y0 := g4.2
  have p0 := g3.1
  have p1 := g3.2
  clear g3
  clear g4
  clear f10
  first
  | (have ix0 : n6 = n0 + -1 := Eq.trans f12 (w32_iv (Iad (Iat f1 f0) (IC (-1))) (by decide)); subst ix0; clear f12)
  | (have ix0 : n6 = n0 + -1 := Eq.trans f12 (w32_id (by omega) (by omega)); subst ix0; clear f12)
  | (unfold w32 at f12; have ix0 : n6 = n0 + -1 := (by omega); subst ix0)
  | skip
  try unfold w32 at f12
  try subst k0
  refine ⟨?_, fun q hq => ?_⟩
  · refine ⟨?_, ?_⟩ <;> first | assumption | omega | trivial
  · have g6 := Option.some.inj hq
    subst g6
    omega
def g_304_14_8 : vG := ([(10, [13, 5], [], -1), (33, [5], [], 0), (5000, [0, 1, 2, 3, 4, 5], [0, 1], 14), (0, [0], [], 285), (90, [1], [], -2147483648), (91, [1], [], 2147483647), (0, [2], [], 285), (90, [3], [], -2147483648), (91, [3], [], 2147483647), (90, [4], [], -1), (91, [4], [], 23), (90, [5], [], -1), (91, [5], [], 11)], (4000, [2, 3, 4, 13], [1], 14))
theorem c_304_14_8 {q0 : Nat} : vOkm T0 (eP e_304 L_304 A_304 mu_304 (some q0)) 2 g_304_14_8 := vOk_inI fun ρ η f0 f1 f2 f3 f4 f5 f6 f7 f8 f9 f10 f11 f12 => q_304_11 (q0 := q0) (n0 := ρ 5) (n1 := ρ 4) (n2 := ρ 3) (n3 := ρ 2) (n4 := ρ 1) (n5 := ρ 0) (n6 := ρ 13) (H0 := η 0) (H1 := η 1) f12 f11 f10 f9 f8 f7 f6 f5 f4 f3 f2 f1 f0
theorem q_304_12 {q0 : Nat} {n0 n1 n2 n3 n4 n5 n6 n7 n8 n9 n10 n11 n12 n13 n14 : Int} {H0 H1 : gH} (f0 : n0 ≤ 11) (f1 : (-1) ≤ n0) (f2 : n1 ≤ 23) (f3 : (-1) ≤ n1) (f4 : n2 ≤ 2147483647) (f5 : (-2147483648) ≤ n2) (f6 : n3 = 285) (f7 : n4 ≤ 2147483647) (f8 : (-2147483648) ≤ n4) (f9 : n5 = 285) (f10 : (hLe T0 H0 H1 ∧ hFr s_304.2.2.2.2 H0 H1 ∧ hWt T0 H1) ∧ (Ab_304_14 n5 n4 n3 n2 n1 n0 H0 H1 ∧ preb_304 n5 n4 H0) ∧ some q0 = some (mub_304_14 n5 n4 n3 n2 n1 n0 H0 H1)) (f11 : 0 ≤ n0) (f12 : n6 = 12) (f13 : n7 ≤ 1) (f14 : 0 ≤ n7) (f15 : n7 = hV H1 (n3).toNat 34) (f16 : n8 = w32 (n6 * n7)) (f17 : n9 = w32 (n8 + n0)) (f18 : n10 = 12) (f19 : n11 ≤ 1) (f20 : 0 ≤ n11) (f21 : n11 = hV H1 (n3).toNat 34) (f22 : n12 = w32 (n10 * n11)) (f23 : n13 = w32 (n12 + n0)) (f24 : n14 = w32 (n0 + (-1))) : (-1) ≤ n13 := by
  have g4 := f10.2.1.1
  unfold Ab_304_14 at g4
  have g3 := f10.2.1.2
  unfold preb_304 at g3
  have e1 : n7 = hV H0 285 34 := (by rw [f6] at f15; exact f15 : n7 = hV H1 285 34).trans ((f10.1.2.1.1 285 34 kF_304_285_34))
  have e2 : n11 = hV H0 285 34 := (by rw [f6] at f21; exact f21 : n11 = hV H1 285 34).trans ((f10.1.2.1.1 285 34 kF_304_285_34))
  have k0 := g4.1
  have y0 := g4.2
  have p0 := g3.1
  have p1 := g3.2
  clear g3
  clear g4
  clear f15 f21
  clear f10
  subst e1
  subst e2
  rw [f12] at f16
  rw [f18] at f22
  first
  | (have ix0 : n12 = 12 * (hV H0 285 34) := Eq.trans f22 (w32_iv (Iml 12 rfl (Iat f14 f13)) (by decide)); subst ix0; clear f22)
  | (have ix0 : n12 = 12 * (hV H0 285 34) := Eq.trans f22 (w32_id (by omega) (by omega)); subst ix0; clear f22)
  | (unfold w32 at f22; have ix0 : n12 = 12 * (hV H0 285 34) := (by omega); subst ix0)
  | skip
  first
  | (have ix1 : n13 = (12 * (hV H0 285 34)) + n0 := Eq.trans f23 (w32_iv (Iad (Iml 12 rfl (Iat f14 f13)) (Iat f1 f0)) (by decide)); subst ix1; clear f23)
  | (have ix1 : n13 = (12 * (hV H0 285 34)) + n0 := Eq.trans f23 (w32_id (by omega) (by omega)); subst ix1; clear f23)
  | (unfold w32 at f23; have ix1 : n13 = (12 * (hV H0 285 34)) + n0 := (by omega); subst ix1)
  | skip
  try unfold w32 at f16
  try unfold w32 at f17
  try unfold w32 at f22
  try unfold w32 at f23
  try unfold w32 at f24
  try subst k0
  omega
def g_304_14_9 : vG := ([(10, [17, 5], [], -1), (1, [16, 15, 5], [], 0), (3, [15, 13, 14], [], 0), (20, [14, 2], [1], 34), (90, [14], [], 0), (91, [14], [], 1), (0, [13], [], 12), (1, [10, 9, 5], [], 0), (3, [9, 7, 8], [], 0), (20, [8, 2], [1], 34), (90, [8], [], 0), (91, [8], [], 1), (0, [7], [], 12), (33, [5], [], 0), (5000, [0, 1, 2, 3, 4, 5], [0, 1], 14), (0, [0], [], 285), (90, [1], [], -2147483648), (91, [1], [], 2147483647), (0, [2], [], 285), (90, [3], [], -2147483648), (91, [3], [], 2147483647), (90, [4], [], -1), (91, [4], [], 23), (90, [5], [], -1), (91, [5], [], 11)], (90, [16], [], -1))
theorem c_304_14_9 {q0 : Nat} : vOkm T0 (eP e_304 L_304 A_304 mu_304 (some q0)) 2 g_304_14_9 := vOk_inI fun ρ η f0 f1 f2 f3 f4 f5 f6 f7 f8 f9 f10 f11 f12 f13 f14 f15 f16 f17 f18 f19 f20 f21 f22 f23 f24 => q_304_12 (q0 := q0) (n0 := ρ 5) (n1 := ρ 4) (n2 := ρ 3) (n3 := ρ 2) (n4 := ρ 1) (n5 := ρ 0) (n6 := ρ 7) (n7 := ρ 8) (n8 := ρ 9) (n9 := ρ 10) (n10 := ρ 13) (n11 := ρ 14) (n12 := ρ 15) (n13 := ρ 16) (n14 := ρ 17) (H0 := η 0) (H1 := η 1) f24 f23 f22 f21 f20 f19 f18 f17 f16 f15 f14 f13 f12 f11 f10 f9 f8 f7 f6 f5 f4 f3 f2 f1 f0
theorem q_304_13 {q0 : Nat} {n0 n1 n2 n3 n4 n5 n6 n7 n8 n9 n10 n11 n12 n13 n14 : Int} {H0 H1 : gH} (f0 : n0 ≤ 11) (f1 : (-1) ≤ n0) (f2 : n1 ≤ 23) (f3 : (-1) ≤ n1) (f4 : n2 ≤ 2147483647) (f5 : (-2147483648) ≤ n2) (f6 : n3 = 285) (f7 : n4 ≤ 2147483647) (f8 : (-2147483648) ≤ n4) (f9 : n5 = 285) (f10 : (hLe T0 H0 H1 ∧ hFr s_304.2.2.2.2 H0 H1 ∧ hWt T0 H1) ∧ (Ab_304_14 n5 n4 n3 n2 n1 n0 H0 H1 ∧ preb_304 n5 n4 H0) ∧ some q0 = some (mub_304_14 n5 n4 n3 n2 n1 n0 H0 H1)) (f11 : 0 ≤ n0) (f12 : n6 = 12) (f13 : n7 ≤ 1) (f14 : 0 ≤ n7) (f15 : n7 = hV H1 (n3).toNat 34) (f16 : n8 = w32 (n6 * n7)) (f17 : n9 = w32 (n8 + n0)) (f18 : n10 = 12) (f19 : n11 ≤ 1) (f20 : 0 ≤ n11) (f21 : n11 = hV H1 (n3).toNat 34) (f22 : n12 = w32 (n10 * n11)) (f23 : n13 = w32 (n12 + n0)) (f24 : n14 = w32 (n0 + (-1))) : n13 ≤ 23 := by
  have g4 := f10.2.1.1
  unfold Ab_304_14 at g4
  have g3 := f10.2.1.2
  unfold preb_304 at g3
  have e1 : n7 = hV H0 285 34 := (by rw [f6] at f15; exact f15 : n7 = hV H1 285 34).trans ((f10.1.2.1.1 285 34 kF_304_285_34))
  have e2 : n11 = hV H0 285 34 := (by rw [f6] at f21; exact f21 : n11 = hV H1 285 34).trans ((f10.1.2.1.1 285 34 kF_304_285_34))
  have k0 := g4.1
  have y0 := g4.2
  have p0 := g3.1
  have p1 := g3.2
  clear g3
  clear g4
  clear f15 f21
  clear f10
  subst e1
  subst e2
  rw [f12] at f16
  rw [f18] at f22
  first
  | (have ix0 : n12 = 12 * (hV H0 285 34) := Eq.trans f22 (w32_iv (Iml 12 rfl (Iat f14 f13)) (by decide)); subst ix0; clear f22)
  | (have ix0 : n12 = 12 * (hV H0 285 34) := Eq.trans f22 (w32_id (by omega) (by omega)); subst ix0; clear f22)
  | (unfold w32 at f22; have ix0 : n12 = 12 * (hV H0 285 34) := (by omega); subst ix0)
  | skip
  first
  | (have ix1 : n13 = (12 * (hV H0 285 34)) + n0 := Eq.trans f23 (w32_iv (Iad (Iml 12 rfl (Iat f14 f13)) (Iat f1 f0)) (by decide)); subst ix1; clear f23)
  | (have ix1 : n13 = (12 * (hV H0 285 34)) + n0 := Eq.trans f23 (w32_id (by omega) (by omega)); subst ix1; clear f23)
  | (unfold w32 at f23; have ix1 : n13 = (12 * (hV H0 285 34)) + n0 := (by omega); subst ix1)
  | skip
  try unfold w32 at f16
  try unfold w32 at f17
  try unfold w32 at f22
  try unfold w32 at f23
  try unfold w32 at f24
  try subst k0
  omega
def g_304_14_10 : vG := ([(10, [17, 5], [], -1), (1, [16, 15, 5], [], 0), (3, [15, 13, 14], [], 0), (20, [14, 2], [1], 34), (90, [14], [], 0), (91, [14], [], 1), (0, [13], [], 12), (1, [10, 9, 5], [], 0), (3, [9, 7, 8], [], 0), (20, [8, 2], [1], 34), (90, [8], [], 0), (91, [8], [], 1), (0, [7], [], 12), (33, [5], [], 0), (5000, [0, 1, 2, 3, 4, 5], [0, 1], 14), (0, [0], [], 285), (90, [1], [], -2147483648), (91, [1], [], 2147483647), (0, [2], [], 285), (90, [3], [], -2147483648), (91, [3], [], 2147483647), (90, [4], [], -1), (91, [4], [], 23), (90, [5], [], -1), (91, [5], [], 11)], (91, [16], [], 23))
theorem c_304_14_10 {q0 : Nat} : vOkm T0 (eP e_304 L_304 A_304 mu_304 (some q0)) 2 g_304_14_10 := vOk_inI fun ρ η f0 f1 f2 f3 f4 f5 f6 f7 f8 f9 f10 f11 f12 f13 f14 f15 f16 f17 f18 f19 f20 f21 f22 f23 f24 => q_304_13 (q0 := q0) (n0 := ρ 5) (n1 := ρ 4) (n2 := ρ 3) (n3 := ρ 2) (n4 := ρ 1) (n5 := ρ 0) (n6 := ρ 7) (n7 := ρ 8) (n8 := ρ 9) (n9 := ρ 10) (n10 := ρ 13) (n11 := ρ 14) (n12 := ρ 15) (n13 := ρ 16) (n14 := ρ 17) (H0 := η 0) (H1 := η 1) f24 f23 f22 f21 f20 f19 f18 f17 f16 f15 f14 f13 f12 f11 f10 f9 f8 f7 f6 f5 f4 f3 f2 f1 f0
def g_304_14_11 : vG := ([(10, [17, 5], [], -1), (33, [5], [], 0), (5000, [0, 1, 2, 3, 4, 5], [0, 1], 14), (0, [0], [], 285), (90, [1], [], -2147483648), (91, [1], [], 2147483647), (0, [2], [], 285), (90, [3], [], -2147483648), (91, [3], [], 2147483647), (90, [4], [], -1), (91, [4], [], 23), (90, [5], [], -1), (91, [5], [], 11)], (90, [17], [], -1))
theorem c_304_14_11 {q0 : Nat} : vOkm T0 (eP e_304 L_304 A_304 mu_304 (some q0)) 2 g_304_14_11 := vOk_inI fun ρ η f0 f1 f2 f3 f4 f5 f6 f7 f8 f9 f10 f11 f12 => q_304_9 (q0 := q0) (n0 := ρ 5) (n1 := ρ 4) (n2 := ρ 3) (n3 := ρ 2) (n4 := ρ 1) (n5 := ρ 0) (n6 := ρ 17) (H0 := η 0) (H1 := η 1) f12 f11 f10 f9 f8 f7 f6 f5 f4 f3 f2 f1 f0
def g_304_14_12 : vG := ([(10, [17, 5], [], -1), (33, [5], [], 0), (5000, [0, 1, 2, 3, 4, 5], [0, 1], 14), (0, [0], [], 285), (90, [1], [], -2147483648), (91, [1], [], 2147483647), (0, [2], [], 285), (90, [3], [], -2147483648), (91, [3], [], 2147483647), (90, [4], [], -1), (91, [4], [], 23), (90, [5], [], -1), (91, [5], [], 11)], (91, [17], [], 11))
theorem c_304_14_12 {q0 : Nat} : vOkm T0 (eP e_304 L_304 A_304 mu_304 (some q0)) 2 g_304_14_12 := vOk_inI fun ρ η f0 f1 f2 f3 f4 f5 f6 f7 f8 f9 f10 f11 f12 => q_304_10 (q0 := q0) (n0 := ρ 5) (n1 := ρ 4) (n2 := ρ 3) (n3 := ρ 2) (n4 := ρ 1) (n5 := ρ 0) (n6 := ρ 17) (H0 := η 0) (H1 := η 1) f12 f11 f10 f9 f8 f7 f6 f5 f4 f3 f2 f1 f0
theorem q_304_14 {q0 : Nat} {n0 n1 n2 n3 n4 n5 n6 n7 n8 n9 n10 n11 n12 n13 n14 : Int} {H0 H1 : gH} (f0 : n0 ≤ 11) (f1 : (-1) ≤ n0) (f2 : n1 ≤ 23) (f3 : (-1) ≤ n1) (f4 : n2 ≤ 2147483647) (f5 : (-2147483648) ≤ n2) (f6 : n3 = 285) (f7 : n4 ≤ 2147483647) (f8 : (-2147483648) ≤ n4) (f9 : n5 = 285) (f10 : (hLe T0 H0 H1 ∧ hFr s_304.2.2.2.2 H0 H1 ∧ hWt T0 H1) ∧ (Ab_304_14 n5 n4 n3 n2 n1 n0 H0 H1 ∧ preb_304 n5 n4 H0) ∧ some q0 = some (mub_304_14 n5 n4 n3 n2 n1 n0 H0 H1)) (f11 : 0 ≤ n0) (f12 : n6 = 12) (f13 : n7 ≤ 1) (f14 : 0 ≤ n7) (f15 : n7 = hV H1 (n3).toNat 34) (f16 : n8 = w32 (n6 * n7)) (f17 : n9 = w32 (n8 + n0)) (f18 : n10 = 12) (f19 : n11 ≤ 1) (f20 : 0 ≤ n11) (f21 : n11 = hV H1 (n3).toNat 34) (f22 : n12 = w32 (n10 * n11)) (f23 : n13 = w32 (n12 + n0)) (f24 : n14 = w32 (n0 + (-1))) : Ab_304_14 n5 n4 n3 n2 n13 n14 H0 H1 ∧ ∀ q, some q0 = some q → mub_304_14 n5 n4 n3 n2 n13 n14 H0 H1 < q := by
  have g4 := f10.2.1.1
  unfold Ab_304_14 at g4
  have g3 := f10.2.1.2
  unfold preb_304 at g3
  have g5 := Option.some.inj f10.2.2
  unfold mub_304_14 at g5
  unfold Ab_304_14
  unfold mub_304_14
  have e1 : n7 = hV H0 285 34 := (by rw [f6] at f15; exact f15 : n7 = hV H1 285 34).trans ((f10.1.2.1.1 285 34 kF_304_285_34))
  have e2 : n11 = hV H0 285 34 := (by rw [f6] at f21; exact f21 : n11 = hV H1 285 34).trans ((f10.1.2.1.1 285 34 kF_304_285_34))
  have k0 := g4.1
  have y0 := g4.2
  have p0 := g3.1
  have p1 := g3.2
  clear g3
  clear g4
  clear f15 f21
  clear f10
  subst e1
  subst e2
  rw [f12] at f16
  rw [f18] at f22
  first
  | (have ix0 : n12 = 12 * (hV H0 285 34) := Eq.trans f22 (w32_iv (Iml 12 rfl (Iat f14 f13)) (by decide)); subst ix0; clear f22)
  | (have ix0 : n12 = 12 * (hV H0 285 34) := Eq.trans f22 (w32_id (by omega) (by omega)); subst ix0; clear f22)
  | (unfold w32 at f22; have ix0 : n12 = 12 * (hV H0 285 34) := (by omega); subst ix0)
  | skip
  first
  | (have ix1 : n13 = (12 * (hV H0 285 34)) + n0 := Eq.trans f23 (w32_iv (Iad (Iml 12 rfl (Iat f14 f13)) (Iat f1 f0)) (by decide)); subst ix1; clear f23)
  | (have ix1 : n13 = (12 * (hV H0 285 34)) + n0 := Eq.trans f23 (w32_id (by omega) (by omega)); subst ix1; clear f23)
  | (unfold w32 at f23; have ix1 : n13 = (12 * (hV H0 285 34)) + n0 := (by omega); subst ix1)
  | skip
  first
  | (have ix2 : n14 = n0 + -1 := Eq.trans f24 (w32_iv (Iad (Iat f1 f0) (IC (-1))) (by decide)); subst ix2; clear f24)
  | (have ix2 : n14 = n0 + -1 := Eq.trans f24 (w32_id (by omega) (by omega)); subst ix2; clear f24)
  | (unfold w32 at f24; have ix2 : n14 = n0 + -1 := (by omega); subst ix2)
  | skip
  try unfold w32 at f16
  try unfold w32 at f17
  try unfold w32 at f22
  try unfold w32 at f23
  try unfold w32 at f24
  try subst k0
  refine ⟨?_, fun q hq => ?_⟩
  · refine ⟨?_, ?_⟩ <;> first | assumption | omega | trivial
  · have g6 := Option.some.inj hq
    subst g6
    omega
def g_304_14_13 : vG := ([(10, [17, 5], [], -1), (1, [16, 15, 5], [], 0), (3, [15, 13, 14], [], 0), (20, [14, 2], [1], 34), (90, [14], [], 0), (91, [14], [], 1), (0, [13], [], 12), (1, [10, 9, 5], [], 0), (3, [9, 7, 8], [], 0), (20, [8, 2], [1], 34), (90, [8], [], 0), (91, [8], [], 1), (0, [7], [], 12), (33, [5], [], 0), (5000, [0, 1, 2, 3, 4, 5], [0, 1], 14), (0, [0], [], 285), (90, [1], [], -2147483648), (91, [1], [], 2147483647), (0, [2], [], 285), (90, [3], [], -2147483648), (91, [3], [], 2147483647), (90, [4], [], -1), (91, [4], [], 23), (90, [5], [], -1), (91, [5], [], 11)], (4000, [2, 3, 16, 17], [1], 14))
theorem c_304_14_13 {q0 : Nat} : vOkm T0 (eP e_304 L_304 A_304 mu_304 (some q0)) 2 g_304_14_13 := vOk_inI fun ρ η f0 f1 f2 f3 f4 f5 f6 f7 f8 f9 f10 f11 f12 f13 f14 f15 f16 f17 f18 f19 f20 f21 f22 f23 f24 => q_304_14 (q0 := q0) (n0 := ρ 5) (n1 := ρ 4) (n2 := ρ 3) (n3 := ρ 2) (n4 := ρ 1) (n5 := ρ 0) (n6 := ρ 7) (n7 := ρ 8) (n8 := ρ 9) (n9 := ρ 10) (n10 := ρ 13) (n11 := ρ 14) (n12 := ρ 15) (n13 := ρ 16) (n14 := ρ 17) (H0 := η 0) (H1 := η 1) f24 f23 f22 f21 f20 f19 f18 f17 f16 f15 f14 f13 f12 f11 f10 f9 f8 f7 f6 f5 f4 f3 f2 f1 f0
def p_304_14 : List vG := [g_304_14_0,
  g_304_14_1,
  g_304_14_2,
  g_304_14_3,
  g_304_14_4,
  g_304_14_5,
  g_304_14_6,
  g_304_14_7,
  g_304_14_8,
  g_304_14_9,
  g_304_14_10,
  g_304_14_11,
  g_304_14_12,
  g_304_14_13]
theorem r_304_14 : vCovO true (eRc e_304 L_304 cs_304 2000 (14, [(0, (3, 12, 285, 0)), (1, (0, -2147483648, 2147483647, 0)), (2, (0, -1, 23, 0)), (3, (0, -1, 11, 0))])) p_304_14 = true := by decide +kernel
theorem q_304_15 {q0 : Nat} {n0 n1 n2 n3 n4 n5 n6 n7 n8 : Int} {H0 H1 : gH} (f0 : n0 ≤ 40) (f1 : 0 ≤ n0) (f2 : n1 ≤ 40) (f3 : 0 ≤ n1) (f4 : n2 ≤ 23) (f5 : 0 ≤ n2) (f6 : n3 ≤ 2147483647) (f7 : (-2147483648) ≤ n3) (f8 : n4 = 285) (f9 : n5 ≤ 2147483647) (f10 : (-2147483648) ≤ n5) (f11 : n6 = 285) (f12 : (hLe T0 H0 H1 ∧ hFr s_304.2.2.2.2 H0 H1 ∧ hWt T0 H1) ∧ (Ab_304_77 n6 n5 n4 n3 n2 n1 n0 H0 H1 ∧ preb_304 n6 n5 H0) ∧ some q0 = some (mub_304_77 n6 n5 n4 n3 n2 n1 n0 H0 H1)) (f13 : n7 ≤ 40) (f14 : 0 ≤ n7) (f15 : n7 = hV H1 (n4).toNat 82) (f16 : n7 ≤ n0) (f17 : n8 = 8) (f18 : n1 ≤ n8) : n1 ≤ 8 := by
  have g4 := f12.2.1.1
  unfold Ab_304_77 at g4
  have g3 := f12.2.1.2
  unfold preb_304 at g3
  have e0 : n7 = hV H1 285 82 := (by rw [f8] at f15; exact f15 : n7 = hV H1 285 82)
  have e2 : hV H1 285 18 = hV H0 285 18 := (f12.1.2.1.1 285 18 kF_304_285_18)
  have e3 : (0 : Int) ≤ hV H0 285 18 ∧ hV H0 285 18 ≤ 8 := bTo e2 (f12.1.2.2 285 18 _ _ kW_285_18)
  have k0 := g4.1
  have y0 := g4.2.1
  have y1 := g4.2.2.1
  have y2 := g4.2.2.2
  have p0 := g3.1
  have p1 := g3.2
  try simp only [e2] at y1
  clear g3
  clear g4
  clear f15 e2
  clear f12
  subst e0
  try subst k0
  omega
def g_304_77_0 : vG := ([(45, [5, 8], [], 0), (0, [8], [], 8), (43, [6, 7], [], 0), (20, [7, 2], [1], 82), (90, [7], [], 0), (91, [7], [], 40), (5000, [0, 1, 2, 3, 4, 5, 6], [0, 1], 77), (0, [0], [], 285), (90, [1], [], -2147483648), (91, [1], [], 2147483647), (0, [2], [], 285), (90, [3], [], -2147483648), (91, [3], [], 2147483647), (90, [4], [], 0), (91, [4], [], 23), (90, [5], [], 0), (91, [5], [], 40), (90, [6], [], 0), (91, [6], [], 40)], (91, [5], [], 8))
theorem c_304_77_0 {q0 : Nat} : vOkm T0 (eP e_304 L_304 A_304 mu_304 (some q0)) 2 g_304_77_0 := vOk_inI fun ρ η f0 f1 f2 f3 f4 f5 f6 f7 f8 f9 f10 f11 f12 f13 f14 f15 f16 f17 f18 => q_304_15 (q0 := q0) (n0 := ρ 6) (n1 := ρ 5) (n2 := ρ 4) (n3 := ρ 3) (n4 := ρ 2) (n5 := ρ 1) (n6 := ρ 0) (n7 := ρ 7) (n8 := ρ 8) (H0 := η 0) (H1 := η 1) f18 f17 f16 f15 f14 f13 f12 f11 f10 f9 f8 f7 f6 f5 f4 f3 f2 f1 f0
theorem q_304_16 {q0 : Nat} {n0 n1 n2 n3 n4 n5 n6 n7 n8 : Int} {H0 H1 : gH} (f0 : n0 ≤ 40) (f1 : 0 ≤ n0) (f2 : n1 ≤ 40) (f3 : 0 ≤ n1) (f4 : n2 ≤ 23) (f5 : 0 ≤ n2) (f6 : n3 ≤ 2147483647) (f7 : (-2147483648) ≤ n3) (f8 : n4 = 285) (f9 : n5 ≤ 2147483647) (f10 : (-2147483648) ≤ n5) (f11 : n6 = 285) (f12 : (hLe T0 H0 H1 ∧ hFr s_304.2.2.2.2 H0 H1 ∧ hWt T0 H1) ∧ (Ab_304_77 n6 n5 n4 n3 n2 n1 n0 H0 H1 ∧ preb_304 n6 n5 H0) ∧ some q0 = some (mub_304_77 n6 n5 n4 n3 n2 n1 n0 H0 H1)) (f13 : n7 ≤ 40) (f14 : 0 ≤ n7) (f15 : n7 = hV H1 (n4).toNat 82) (f16 : n7 ≤ n0) (f17 : n8 = 8) (f18 : n1 ≤ n8) : Ab_304_119 n6 n5 n4 n3 n2 n1 n0 H0 H1 ∧ ∀ q, some q0 = some q → mub_304_119 n6 n5 n4 n3 n2 n1 n0 H0 H1 < q := by
  have g4 := f12.2.1.1
  unfold Ab_304_77 at g4
  have g3 := f12.2.1.2
  unfold preb_304 at g3
  have g5 := Option.some.inj f12.2.2
  unfold mub_304_77 at g5
  unfold Ab_304_119
  unfold mub_304_119
  have e0 : n7 = hV H1 285 82 := (by rw [f8] at f15; exact f15 : n7 = hV H1 285 82)
  have e2 : hV H1 285 18 = hV H0 285 18 := (f12.1.2.1.1 285 18 kF_304_285_18)
  have e3 : (0 : Int) ≤ hV H0 285 18 ∧ hV H0 285 18 ≤ 8 := bTo e2 (f12.1.2.2 285 18 _ _ kW_285_18)
  try simp only [e2]
  have k0 := g4.1
  have y0 := g4.2.1
  have y1 := g4.2.2.1
  have y2 := g4.2.2.2
  have p0 := g3.1
  have p1 := g3.2
  try simp only [e2] at y1
  clear g3
  clear g4
  clear f15 e2
  clear f12
  subst e0
  try subst k0
  refine ⟨?_, fun q hq => ?_⟩
  · refine ⟨?_, ?_, ?_⟩ <;> first | assumption | omega | trivial
  · have g6 := Option.some.inj hq
    subst g6
    omega
def g_304_77_1 : vG := ([(45, [5, 8], [], 0), (0, [8], [], 8), (43, [6, 7], [], 0), (20, [7, 2], [1], 82), (90, [7], [], 0), (91, [7], [], 40), (5000, [0, 1, 2, 3, 4, 5, 6], [0, 1], 77), (0, [0], [], 285), (90, [1], [], -2147483648), (91, [1], [], 2147483647), (0, [2], [], 285), (90, [3], [], -2147483648), (91, [3], [], 2147483647), (90, [4], [], 0), (91, [4], [], 23), (90, [5], [], 0), (91, [5], [], 40), (90, [6], [], 0), (91, [6], [], 40)], (4000, [2, 3, 4, 5, 6], [1], 119))
theorem c_304_77_1 {q0 : Nat} : vOkm T0 (eP e_304 L_304 A_304 mu_304 (some q0)) 2 g_304_77_1 := vOk_inI fun ρ η f0 f1 f2 f3 f4 f5 f6 f7 f8 f9 f10 f11 f12 f13 f14 f15 f16 f17 f18 => q_304_16 (q0 := q0) (n0 := ρ 6) (n1 := ρ 5) (n2 := ρ 4) (n3 := ρ 3) (n4 := ρ 2) (n5 := ρ 1) (n6 := ρ 0) (n7 := ρ 7) (n8 := ρ 8) (H0 := η 0) (H1 := η 1) f18 f17 f16 f15 f14 f13 f12 f11 f10 f9 f8 f7 f6 f5 f4 f3 f2 f1 f0
theorem q_304_17 {q0 : Nat} {n0 n1 n2 n3 n4 n5 n6 n7 n8 n9 : Int} {H0 H1 : gH} (f0 : n0 ≤ 40) (f1 : 0 ≤ n0) (f2 : n1 ≤ 40) (f3 : 0 ≤ n1) (f4 : n2 ≤ 23) (f5 : 0 ≤ n2) (f6 : n3 ≤ 2147483647) (f7 : (-2147483648) ≤ n3) (f8 : n4 = 285) (f9 : n5 ≤ 2147483647) (f10 : (-2147483648) ≤ n5) (f11 : n6 = 285) (f12 : (hLe T0 H0 H1 ∧ hFr s_304.2.2.2.2 H0 H1 ∧ hWt T0 H1) ∧ (Ab_304_77 n6 n5 n4 n3 n2 n1 n0 H0 H1 ∧ preb_304 n6 n5 H0) ∧ some q0 = some (mub_304_77 n6 n5 n4 n3 n2 n1 n0 H0 H1)) (f13 : n7 ≤ 40) (f14 : 0 ≤ n7) (f15 : n7 = hV H1 (n4).toNat 82) (f16 : n7 ≤ n0) (f17 : n8 = 8) (f18 : n8 < n1) (f19 : n9 = 8) : Ab_304_119 n6 n5 n4 n3 n2 n9 n0 H0 H1 ∧ ∀ q, some q0 = some q → mub_304_119 n6 n5 n4 n3 n2 n9 n0 H0 H1 < q := by
  have g4 := f12.2.1.1
  unfold Ab_304_77 at g4
  have g3 := f12.2.1.2
  unfold preb_304 at g3
  have g5 := Option.some.inj f12.2.2
  unfold mub_304_77 at g5
  unfold Ab_304_119
  unfold mub_304_119
  have e0 : n7 = hV H1 285 82 := (by rw [f8] at f15; exact f15 : n7 = hV H1 285 82)
  have e2 : hV H1 285 18 = hV H0 285 18 := (f12.1.2.1.1 285 18 kF_304_285_18)
  have e3 : (0 : Int) ≤ hV H0 285 18 ∧ hV H0 285 18 ≤ 8 := bTo e2 (f12.1.2.2 285 18 _ _ kW_285_18)
  try simp only [e2]
  have k0 := g4.1
  have y0 := g4.2.1
  have y1 := g4.2.2.1
  have y2 := g4.2.2.2
  have p0 := g3.1
  have p1 := g3.2
  try simp only [e2] at y1
  clear g3
  clear g4
  clear f15 e2
  clear f12
  subst e0
  try subst k0
  refine ⟨?_, fun q hq => ?_⟩
  · refine ⟨?_, ?_, ?_⟩ <;> first | assumption | omega | trivial
  · have g6 := Option.some.inj hq
    subst g6
    omega
def g_304_77_2 : vG := ([(0, [9], [], 8), (44, [5, 8], [], 0), (0, [8], [], 8), (43, [6, 7], [], 0), (20, [7, 2], [1], 82), (90, [7], [], 0), (91, [7], [], 40), (5000, [0, 1, 2, 3, 4, 5, 6], [0, 1], 77), (0, [0], [], 285), (90, [1], [], -2147483648), (91, [1], [], 2147483647), (0, [2], [], 285), (90, [3], [], -2147483648), (91, [3], [], 2147483647), (90, [4], [], 0), (91, [4], [], 23), (90, [5], [], 0), (91, [5], [], 40), (90, [6], [], 0), (91, [6], [], 40)], (4000, [2, 3, 4, 9, 6], [1], 119))
theorem c_304_77_2 {q0 : Nat} : vOkm T0 (eP e_304 L_304 A_304 mu_304 (some q0)) 2 g_304_77_2 := vOk_inI fun ρ η f0 f1 f2 f3 f4 f5 f6 f7 f8 f9 f10 f11 f12 f13 f14 f15 f16 f17 f18 f19 => q_304_17 (q0 := q0) (n0 := ρ 6) (n1 := ρ 5) (n2 := ρ 4) (n3 := ρ 3) (n4 := ρ 2) (n5 := ρ 1) (n6 := ρ 0) (n7 := ρ 7) (n8 := ρ 8) (n9 := ρ 9) (H0 := η 0) (H1 := η 1) f19 f18 f17 f16 f15 f14 f13 f12 f11 f10 f9 f8 f7 f6 f5 f4 f3 f2 f1 f0
theorem q_304_18 {q0 : Nat} {n0 n1 n2 n3 n4 n5 n6 n7 : Int} {H0 H1 : gH} (f0 : n0 ≤ 40) (f1 : 0 ≤ n0) (f2 : n1 ≤ 40) (f3 : 0 ≤ n1) (f4 : n2 ≤ 23) (f5 : 0 ≤ n2) (f6 : n3 ≤ 2147483647) (f7 : (-2147483648) ≤ n3) (f8 : n4 = 285) (f9 : n5 ≤ 2147483647) (f10 : (-2147483648) ≤ n5) (f11 : n6 = 285) (f12 : (hLe T0 H0 H1 ∧ hFr s_304.2.2.2.2 H0 H1 ∧ hWt T0 H1) ∧ (Ab_304_77 n6 n5 n4 n3 n2 n1 n0 H0 H1 ∧ preb_304 n6 n5 H0) ∧ some q0 = some (mub_304_77 n6 n5 n4 n3 n2 n1 n0 H0 H1)) (f13 : n7 ≤ 40) (f14 : 0 ≤ n7) (f15 : n7 = hV H1 (n4).toNat 82) (f16 : n0 < n7) : 0 ≤ n0 ∧ n0 < 40 := by
  have g4 := f12.2.1.1
  unfold Ab_304_77 at g4
  have g3 := f12.2.1.2
  unfold preb_304 at g3
  have e0 : n7 = hV H1 285 82 := (by rw [f8] at f15; exact f15 : n7 = hV H1 285 82)
  have e2 : hV H1 285 18 = hV H0 285 18 := (f12.1.2.1.1 285 18 kF_304_285_18)
  have e3 : (0 : Int) ≤ hV H0 285 18 ∧ hV H0 285 18 ≤ 8 := bTo e2 (f12.1.2.2 285 18 _ _ kW_285_18)
  have k0 := g4.1
  have y0 := g4.2.1
  have y1 := g4.2.2.1
  have y2 := g4.2.2.2
  have p0 := g3.1
  have p1 := g3.2
  try simp only [e2] at y1
  clear g3
  clear g4
  clear f15 e2
  clear f12
  subst e0
  try subst k0
  omega
def g_304_77_3 : vG := ([(42, [6, 7], [], 0), (20, [7, 2], [1], 82), (90, [7], [], 0), (91, [7], [], 40), (5000, [0, 1, 2, 3, 4, 5, 6], [0, 1], 77), (0, [0], [], 285), (90, [1], [], -2147483648), (91, [1], [], 2147483647), (0, [2], [], 285), (90, [3], [], -2147483648), (91, [3], [], 2147483647), (90, [4], [], 0), (91, [4], [], 23), (90, [5], [], 0), (91, [5], [], 40), (90, [6], [], 0), (91, [6], [], 40)], (70, [6], [], 40))
theorem c_304_77_3 {q0 : Nat} : vOkm T0 (eP e_304 L_304 A_304 mu_304 (some q0)) 2 g_304_77_3 := vOk_inI fun ρ η f0 f1 f2 f3 f4 f5 f6 f7 f8 f9 f10 f11 f12 f13 f14 f15 f16 => q_304_18 (q0 := q0) (n0 := ρ 6) (n1 := ρ 5) (n2 := ρ 4) (n3 := ρ 3) (n4 := ρ 2) (n5 := ρ 1) (n6 := ρ 0) (n7 := ρ 7) (H0 := η 0) (H1 := η 1) f16 f15 f14 f13 f12 f11 f10 f9 f8 f7 f6 f5 f4 f3 f2 f1 f0
theorem q_304_19 {q0 : Nat} {n0 n1 n2 n3 n4 n5 n6 n7 n8 : Int} {H0 H1 : gH} (f0 : n0 ≤ 40) (f1 : 0 ≤ n0) (f2 : n1 ≤ 40) (f3 : 0 ≤ n1) (f4 : n2 ≤ 23) (f5 : 0 ≤ n2) (f6 : n3 ≤ 2147483647) (f7 : (-2147483648) ≤ n3) (f8 : n4 = 285) (f9 : n5 ≤ 2147483647) (f10 : (-2147483648) ≤ n5) (f11 : n6 = 285) (f12 : (hLe T0 H0 H1 ∧ hFr s_304.2.2.2.2 H0 H1 ∧ hWt T0 H1) ∧ (Ab_304_77 n6 n5 n4 n3 n2 n1 n0 H0 H1 ∧ preb_304 n6 n5 H0) ∧ some q0 = some (mub_304_77 n6 n5 n4 n3 n2 n1 n0 H0 H1)) (f13 : n7 ≤ 40) (f14 : 0 ≤ n7) (f15 : n7 = hV H1 (n4).toNat 82) (f16 : n0 < n7) (f17 : n8 = w32 (n0 + 1)) : 0 ≤ n8 := by
  have g4 := f12.2.1.1
  unfold Ab_304_77 at g4
  have g3 := f12.2.1.2
  unfold preb_304 at g3
  have e0 : n7 = hV H1 285 82 := (by rw [f8] at f15; exact f15 : n7 = hV H1 285 82)
  have e2 : hV H1 285 18 = hV H0 285 18 := (f12.1.2.1.1 285 18 kF_304_285_18)
  have e3 : (0 : Int) ≤ hV H0 285 18 ∧ hV H0 285 18 ≤ 8 := bTo e2 (f12.1.2.2 285 18 _ _ kW_285_18)
  have k0 := g4.1
  have y0 := g4.2.1
  have y1 := g4.2.2.1
  have y2 := g4.2.2.2
  have p0 := g3.1
  have p1 := g3.2
  try simp only [e2] at y1
  clear g3
  clear g4
  clear f15 e2
  clear f12
  subst e0
  first
  | (have ix0 : n8 = n0 + 1 := Eq.trans f17 (w32_iv (Iad (Iat f1 f0) (IC 1)) (by decide)); subst ix0; clear f17)
  | (have ix0 : n8 = n0 + 1 := Eq.trans f17 (w32_id (by omega) (by omega)); subst ix0; clear f17)
  | (unfold w32 at f17; have ix0 : n8 = n0 + 1 := (by omega); subst ix0)
  | skip
  try unfold w32 at f17
  try subst k0
  omega
def g_304_77_4 : vG := ([(10, [12, 6], [], 1), (42, [6, 7], [], 0), (20, [7, 2], [1], 82), (90, [7], [], 0), (91, [7], [], 40), (5000, [0, 1, 2, 3, 4, 5, 6], [0, 1], 77), (0, [0], [], 285), (90, [1], [], -2147483648), (91, [1], [], 2147483647), (0, [2], [], 285), (90, [3], [], -2147483648), (91, [3], [], 2147483647), (90, [4], [], 0), (91, [4], [], 23), (90, [5], [], 0), (91, [5], [], 40), (90, [6], [], 0), (91, [6], [], 40)], (90, [12], [], 0))
theorem c_304_77_4 {q0 : Nat} : vOkm T0 (eP e_304 L_304 A_304 mu_304 (some q0)) 2 g_304_77_4 := vOk_inI fun ρ η f0 f1 f2 f3 f4 f5 f6 f7 f8 f9 f10 f11 f12 f13 f14 f15 f16 f17 => q_304_19 (q0 := q0) (n0 := ρ 6) (n1 := ρ 5) (n2 := ρ 4) (n3 := ρ 3) (n4 := ρ 2) (n5 := ρ 1) (n6 := ρ 0) (n7 := ρ 7) (n8 := ρ 12) (H0 := η 0) (H1 := η 1) f17 f16 f15 f14 f13 f12 f11 f10 f9 f8 f7 f6 f5 f4 f3 f2 f1 f0
theorem q_304_20 {q0 : Nat} {n0 n1 n2 n3 n4 n5 n6 n7 n8 : Int} {H0 H1 : gH} (f0 : n0 ≤ 40) (f1 : 0 ≤ n0) (f2 : n1 ≤ 40) (f3 : 0 ≤ n1) (f4 : n2 ≤ 23) (f5 : 0 ≤ n2) (f6 : n3 ≤ 2147483647) (f7 : (-2147483648) ≤ n3) (f8 : n4 = 285) (f9 : n5 ≤ 2147483647) (f10 : (-2147483648) ≤ n5) (f11 : n6 = 285) (f12 : (hLe T0 H0 H1 ∧ hFr s_304.2.2.2.2 H0 H1 ∧ hWt T0 H1) ∧ (Ab_304_77 n6 n5 n4 n3 n2 n1 n0 H0 H1 ∧ preb_304 n6 n5 H0) ∧ some q0 = some (mub_304_77 n6 n5 n4 n3 n2 n1 n0 H0 H1)) (f13 : n7 ≤ 40) (f14 : 0 ≤ n7) (f15 : n7 = hV H1 (n4).toNat 82) (f16 : n0 < n7) (f17 : n8 = w32 (n0 + 1)) : n8 ≤ 40 := by
  have g4 := f12.2.1.1
  unfold Ab_304_77 at g4
  have g3 := f12.2.1.2
  unfold preb_304 at g3
  have e0 : n7 = hV H1 285 82 := (by rw [f8] at f15; exact f15 : n7 = hV H1 285 82)
  have e2 : hV H1 285 18 = hV H0 285 18 := (f12.1.2.1.1 285 18 kF_304_285_18)
  have e3 : (0 : Int) ≤ hV H0 285 18 ∧ hV H0 285 18 ≤ 8 := bTo e2 (f12.1.2.2 285 18 _ _ kW_285_18)
  have k0 := g4.1
  have y0 := g4.2.1
  have y1 := g4.2.2.1
  have y2 := g4.2.2.2
  have p0 := g3.1
  have p1 := g3.2
  try simp only [e2] at y1
  clear g3
  clear g4
  clear f15 e2
  clear f12
  subst e0
  first
  | (have ix0 : n8 = n0 + 1 := Eq.trans f17 (w32_iv (Iad (Iat f1 f0) (IC 1)) (by decide)); subst ix0; clear f17)
  | (have ix0 : n8 = n0 + 1 := Eq.trans f17 (w32_id (by omega) (by omega)); subst ix0; clear f17)
  | (unfold w32 at f17; have ix0 : n8 = n0 + 1 := (by omega); subst ix0)
  | skip
  try unfold w32 at f17
  try subst k0
  omega
def g_304_77_5 : vG := ([(10, [12, 6], [], 1), (42, [6, 7], [], 0), (20, [7, 2], [1], 82), (90, [7], [], 0), (91, [7], [], 40), (5000, [0, 1, 2, 3, 4, 5, 6], [0, 1], 77), (0, [0], [], 285), (90, [1], [], -2147483648), (91, [1], [], 2147483647), (0, [2], [], 285), (90, [3], [], -2147483648), (91, [3], [], 2147483647), (90, [4], [], 0), (91, [4], [], 23), (90, [5], [], 0), (91, [5], [], 40), (90, [6], [], 0), (91, [6], [], 40)], (91, [12], [], 40))
theorem c_304_77_5 {q0 : Nat} : vOkm T0 (eP e_304 L_304 A_304 mu_304 (some q0)) 2 g_304_77_5 := vOk_inI fun ρ η f0 f1 f2 f3 f4 f5 f6 f7 f8 f9 f10 f11 f12 f13 f14 f15 f16 f17 => q_304_20 (q0 := q0) (n0 := ρ 6) (n1 := ρ 5) (n2 := ρ 4) (n3 := ρ 3) (n4 := ρ 2) (n5 := ρ 1) (n6 := ρ 0) (n7 := ρ 7) (n8 := ρ 12) (H0 := η 0) (H1 := η 1) f17 f16 f15 f14 f13 f12 f11 f10 f9 f8 f7 f6 f5 f4 f3 f2 f1 f0
theorem q_304_21 {q0 : Nat} {n0 n1 n2 n3 n4 n5 n6 n7 n8 : Int} {H0 H1 : gH} (f0 : n0 ≤ 40) (f1 : 0 ≤ n0) (f2 : n1 ≤ 40) (f3 : 0 ≤ n1) (f4 : n2 ≤ 23) (f5 : 0 ≤ n2) (f6 : n3 ≤ 2147483647) (f7 : (-2147483648) ≤ n3) (f8 : n4 = 285) (f9 : n5 ≤ 2147483647) (f10 : (-2147483648) ≤ n5) (f11 : n6 = 285) (f12 : (hLe T0 H0 H1 ∧ hFr s_304.2.2.2.2 H0 H1 ∧ hWt T0 H1) ∧ (Ab_304_77 n6 n5 n4 n3 n2 n1 n0 H0 H1 ∧ preb_304 n6 n5 H0) ∧ some q0 = some (mub_304_77 n6 n5 n4 n3 n2 n1 n0 H0 H1)) (f13 : n7 ≤ 40) (f14 : 0 ≤ n7) (f15 : n7 = hV H1 (n4).toNat 82) (f16 : n0 < n7) (f17 : n8 = w32 (n0 + 1)) : Ab_304_77 n6 n5 n4 n3 n2 n1 n8 H0 H1 ∧ ∀ q, some q0 = some q → mub_304_77 n6 n5 n4 n3 n2 n1 n8 H0 H1 < q := by
  have g4 := f12.2.1.1
  unfold Ab_304_77 at g4
  have g3 := f12.2.1.2
  unfold preb_304 at g3
  have g5 := Option.some.inj f12.2.2
  unfold mub_304_77 at g5
  unfold Ab_304_77
  unfold mub_304_77
  have e0 : n7 = hV H1 285 82 := (by rw [f8] at f15; exact f15 : n7 = hV H1 285 82)
  have e2 : hV H1 285 18 = hV H0 285 18 := (f12.1.2.1.1 285 18 kF_304_285_18)
  have e3 : (0 : Int) ≤ hV H0 285 18 ∧ hV H0 285 18 ≤ 8 := bTo e2 (f12.1.2.2 285 18 _ _ kW_285_18)
  try simp only [e2]
  have k0 := g4.1
  have y0 := g4.2.1
  have y1 := g4.2.2.1
  have y2 := g4.2.2.2
  have p0 := g3.1
  have p1 := g3.2
  try simp only [e2] at y1
  clear g3
  clear g4
  clear f15 e2
  clear f12
  subst e0
  first
  | (have ix0 : n8 = n0 + 1 := Eq.trans f17 (w32_iv (Iad (Iat f1 f0) (IC 1)) (by decide)); subst ix0; clear f17)
  | (have ix0 : n8 = n0 + 1 := Eq.trans f17 (w32_id (by omega) (by omega)); subst ix0; clear f17)
  | (unfold w32 at f17; have ix0 : n8 = n0 + 1 := (by omega); subst ix0)
  | skip
  try unfold w32 at f17
  try subst k0
  refine ⟨?_, fun q hq => ?_⟩
  · refine ⟨?_, ?_, ?_, ?_⟩ <;> first | assumption | omega | trivial
  · have g6 := Option.some.inj hq
    subst g6
    omega
def g_304_77_6 : vG := ([(10, [12, 6], [], 1), (42, [6, 7], [], 0), (20, [7, 2], [1], 82), (90, [7], [], 0), (91, [7], [], 40), (5000, [0, 1, 2, 3, 4, 5, 6], [0, 1], 77), (0, [0], [], 285), (90, [1], [], -2147483648), (91, [1], [], 2147483647), (0, [2], [], 285), (90, [3], [], -2147483648), (91, [3], [], 2147483647), (90, [4], [], 0), (91, [4], [], 23), (90, [5], [], 0), (91, [5], [], 40), (90, [6], [], 0), (91, [6], [], 40)], (4000, [2, 3, 4, 5, 12], [1], 77))
theorem c_304_77_6 {q0 : Nat} : vOkm T0 (eP e_304 L_304 A_304 mu_304 (some q0)) 2 g_304_77_6 := vOk_inI fun ρ η f0 f1 f2 f3 f4 f5 f6 f7 f8 f9 f10 f11 f12 f13 f14 f15 f16 f17 => q_304_21 (q0 := q0) (n0 := ρ 6) (n1 := ρ 5) (n2 := ρ 4) (n3 := ρ 3) (n4 := ρ 2) (n5 := ρ 1) (n6 := ρ 0) (n7 := ρ 7) (n8 := ρ 12) (H0 := η 0) (H1 := η 1) f17 f16 f15 f14 f13 f12 f11 f10 f9 f8 f7 f6 f5 f4 f3 f2 f1 f0
theorem q_304_22 {q0 : Nat} {n0 n1 n2 n3 n4 n5 n6 n7 n8 n9 : Int} {H0 H1 : gH} (f0 : n0 ≤ 40) (f1 : 0 ≤ n0) (f2 : n1 ≤ 40) (f3 : 0 ≤ n1) (f4 : n2 ≤ 23) (f5 : 0 ≤ n2) (f6 : n3 ≤ 2147483647) (f7 : (-2147483648) ≤ n3) (f8 : n4 = 285) (f9 : n5 ≤ 2147483647) (f10 : (-2147483648) ≤ n5) (f11 : n6 = 285) (f12 : (hLe T0 H0 H1 ∧ hFr s_304.2.2.2.2 H0 H1 ∧ hWt T0 H1) ∧ (Ab_304_77 n6 n5 n4 n3 n2 n1 n0 H0 H1 ∧ preb_304 n6 n5 H0) ∧ some q0 = some (mub_304_77 n6 n5 n4 n3 n2 n1 n0 H0 H1)) (f13 : n7 ≤ 40) (f14 : 0 ≤ n7) (f15 : n7 = hV H1 (n4).toNat 82) (f16 : n0 < n7) (f17 : n8 = w32 (n1 + 1)) (f18 : n9 = w32 (n0 + 1)) : 0 ≤ n8 := by
  have g4 := f12.2.1.1
  unfold Ab_304_77 at g4
  have g3 := f12.2.1.2
  unfold preb_304 at g3
  have e0 : n7 = hV H1 285 82 := (by rw [f8] at f15; exact f15 : n7 = hV H1 285 82)
  have e2 : hV H1 285 18 = hV H0 285 18 := (f12.1.2.1.1 285 18 kF_304_285_18)
  have e3 : (0 : Int) ≤ hV H0 285 18 ∧ hV H0 285 18 ≤ 8 := bTo e2 (f12.1.2.2 285 18 _ _ kW_285_18)
  have k0 := g4.1
  have y0 := g4.2.1
  have y1 := g4.2.2.1
  have y2 := g4.2.2.2
  have p0 := g3.1
  have p1 := g3.2
  try simp only [e2] at y1
  clear g3
  clear g4
  clear f15 e2
  clear f12
  subst e0
  first
  | (have ix0 : n8 = n1 + 1 := Eq.trans f17 (w32_iv (Iad (Iat f3 f2) (IC 1)) (by decide)); subst ix0; clear f17)
  | (have ix0 : n8 = n1 + 1 := Eq.trans f17 (w32_id (by omega) (by omega)); subst ix0; clear f17)
  | (unfold w32 at f17; have ix0 : n8 = n1 + 1 := (by omega); subst ix0)
  | skip
  try unfold w32 at f17
  try unfold w32 at f18
  try subst k0
  omega
def g_304_77_7 : vG := ([(10, [13, 6], [], 1), (10, [12, 5], [], 1), (42, [6, 7], [], 0), (20, [7, 2], [1], 82), (90, [7], [], 0), (91, [7], [], 40), (5000, [0, 1, 2, 3, 4, 5, 6], [0, 1], 77), (0, [0], [], 285), (90, [1], [], -2147483648), (91, [1], [], 2147483647), (0, [2], [], 285), (90, [3], [], -2147483648), (91, [3], [], 2147483647), (90, [4], [], 0), (91, [4], [], 23), (90, [5], [], 0), (91, [5], [], 40), (90, [6], [], 0), (91, [6], [], 40)], (90, [12], [], 0))
theorem c_304_77_7 {q0 : Nat} : vOkm T0 (eP e_304 L_304 A_304 mu_304 (some q0)) 2 g_304_77_7 := vOk_inI fun ρ η f0 f1 f2 f3 f4 f5 f6 f7 f8 f9 f10 f11 f12 f13 f14 f15 f16 f17 f18 => q_304_22 (q0 := q0) (n0 := ρ 6) (n1 := ρ 5) (n2 := ρ 4) (n3 := ρ 3) (n4 := ρ 2) (n5 := ρ 1) (n6 := ρ 0) (n7 := ρ 7) (n8 := ρ 12) (n9 := ρ 13) (H0 := η 0) (H1 := η 1) f18 f17 f16 f15 f14 f13 f12 f11 f10 f9 f8 f7 f6 f5 f4 f3 f2 f1 f0
theorem q_304_23 {q0 : Nat} {n0 n1 n2 n3 n4 n5 n6 n7 n8 n9 : Int} {H0 H1 : gH} (f0 : n0 ≤ 40) (f1 : 0 ≤ n0) (f2 : n1 ≤ 40) (f3 : 0 ≤ n1) (f4 : n2 ≤ 23) (f5 : 0 ≤ n2) (f6 : n3 ≤ 2147483647) (f7 : (-2147483648) ≤ n3) (f8 : n4 = 285) (f9 : n5 ≤ 2147483647) (f10 : (-2147483648) ≤ n5) (f11 : n6 = 285) (f12 : (hLe T0 H0 H1 ∧ hFr s_304.2.2.2.2 H0 H1 ∧ hWt T0 H1) ∧ (Ab_304_77 n6 n5 n4 n3 n2 n1 n0 H0 H1 ∧ preb_304 n6 n5 H0) ∧ some q0 = some (mub_304_77 n6 n5 n4 n3 n2 n1 n0 H0 H1)) (f13 : n7 ≤ 40) (f14 : 0 ≤ n7) (f15 : n7 = hV H1 (n4).toNat 82) (f16 : n0 < n7) (f17 : n8 = w32 (n1 + 1)) (f18 : n9 = w32 (n0 + 1)) : n8 ≤ 40 := by
  have g4 := f12.2.1.1
  unfold Ab_304_77 at g4
  have g3 := f12.2.1.2
  unfold preb_304 at g3
  have e0 : n7 = hV H1 285 82 := (by rw [f8] at f15; exact f15 : n7 = hV H1 285 82)
  have e2 : hV H1 285 18 = hV H0 285 18 := (f12.1.2.1.1 285 18 kF_304_285_18)
  have e3 : (0 : Int) ≤ hV H0 285 18 ∧ hV H0 285 18 ≤ 8 := bTo e2 (f12.1.2.2 285 18 _ _ kW_285_18)
  have k0 := g4.1
  have y0 := g4.2.1
  have y1 := g4.2.2.1
  have y2 := g4.2.2.2
  have p0 := g3.1
  have p1 := g3.2
  try simp only [e2] at y1
  clear g3
  clear g4
  clear f15 e2
  clear f12
  subst e0
  first
  | (have ix0 : n8 = n1 + 1 := Eq.trans f17 (w32_iv (Iad (Iat f3 f2) (IC 1)) (by decide)); subst ix0; clear f17)
  | (have ix0 : n8 = n1 + 1 := Eq.trans f17 (w32_id (by omega) (by omega)); subst ix0; clear f17)
  | (unfold w32 at f17; have ix0 : n8 = n1 + 1 := (by omega); subst ix0)
  | skip
  try unfold w32 at f17
  try unfold w32 at f18
  try subst k0
  omega
def g_304_77_8 : vG := ([(10, [13, 6], [], 1), (10, [12, 5], [], 1), (42, [6, 7], [], 0), (20, [7, 2], [1], 82), (90, [7], [], 0), (91, [7], [], 40), (5000, [0, 1, 2, 3, 4, 5, 6], [0, 1], 77), (0, [0], [], 285), (90, [1], [], -2147483648), (91, [1], [], 2147483647), (0, [2], [], 285), (90, [3], [], -2147483648), (91, [3], [], 2147483647), (90, [4], [], 0), (91, [4], [], 23), (90, [5], [], 0), (91, [5], [], 40), (90, [6], [], 0), (91, [6], [], 40)], (91, [12], [], 40))
theorem c_304_77_8 {q0 : Nat} : vOkm T0 (eP e_304 L_304 A_304 mu_304 (some q0)) 2 g_304_77_8 := vOk_inI fun ρ η f0 f1 f2 f3 f4 f5 f6 f7 f8 f9 f10 f11 f12 f13 f14 f15 f16 f17 f18 => q_304_23 (q0 := q0) (n0 := ρ 6) (n1 := ρ 5) (n2 := ρ 4) (n3 := ρ 3) (n4 := ρ 2) (n5 := ρ 1) (n6 := ρ 0) (n7 := ρ 7) (n8 := ρ 12) (n9 := ρ 13) (H0 := η 0) (H1 := η 1) f18 f17 f16 f15 f14 f13 f12 f11 f10 f9 f8 f7 f6 f5 f4 f3 f2 f1 f0
theorem q_304_24 {q0 : Nat} {n0 n1 n2 n3 n4 n5 n6 n7 n8 n9 : Int} {H0 H1 : gH} (f0 : n0 ≤ 40) (f1 : 0 ≤ n0) (f2 : n1 ≤ 40) (f3 : 0 ≤ n1) (f4 : n2 ≤ 23) (f5 : 0 ≤ n2) (f6 : n3 ≤ 2147483647) (f7 : (-2147483648) ≤ n3) (f8 : n4 = 285) (f9 : n5 ≤ 2147483647) (f10 : (-2147483648) ≤ n5) (f11 : n6 = 285) (f12 : (hLe T0 H0 H1 ∧ hFr s_304.2.2.2.2 H0 H1 ∧ hWt T0 H1) ∧ (Ab_304_77 n6 n5 n4 n3 n2 n1 n0 H0 H1 ∧ preb_304 n6 n5 H0) ∧ some q0 = some (mub_304_77 n6 n5 n4 n3 n2 n1 n0 H0 H1)) (f13 : n7 ≤ 40) (f14 : 0 ≤ n7) (f15 : n7 = hV H1 (n4).toNat 82) (f16 : n0 < n7) (f17 : n8 = w32 (n1 + 1)) (f18 : n9 = w32 (n0 + 1)) : 0 ≤ n9 := by
  have g4 := f12.2.1.1
  unfold Ab_304_77 at g4
  have g3 := f12.2.1.2
  unfold preb_304 at g3
  have e0 : n7 = hV H1 285 82 := (by rw [f8] at f15; exact f15 : n7 = hV H1 285 82)
  have e2 : hV H1 285 18 = hV H0 285 18 := (f12.1.2.1.1 285 18 kF_304_285_18)
  have e3 : (0 : Int) ≤ hV H0 285 18 ∧ hV H0 285 18 ≤ 8 := bTo e2 (f12.1.2.2 285 18 _ _ kW_285_18)
  have k0 := g4.1
  have y0 := g4.2.1
  have y1 := g4.2.2.1
  have y2 := g4.2.2.2
  have p0 := g3.1
  have p1 := g3.2
  try simp only [e2] at y1
  clear g3
  clear g4
  clear f15 e2
  clear f12
  subst e0
  first
  | (have ix0 : n9 = n0 + 1 := Eq.trans f18 (w32_iv (Iad (Iat f1 f0) (IC 1)) (by decide)); subst ix0; clear f18)
  | (have ix0 : n9 = n0 + 1 := Eq.trans f18 (w32_id (by omega) (by omega)); subst ix0; clear f18)
  | (unfold w32 at f18; have ix0 : n9 = n0 + 1 := (by omega); subst ix0)
  | skip
  try unfold w32 at f17
  try unfold w32 at f18
  try subst k0
  omega
def g_304_77_9 : vG := ([(10, [13, 6], [], 1), (10, [12, 5], [], 1), (42, [6, 7], [], 0), (20, [7, 2], [1], 82), (90, [7], [], 0), (91, [7], [], 40), (5000, [0, 1, 2, 3, 4, 5, 6], [0, 1], 77), (0, [0], [], 285), (90, [1], [], -2147483648), (91, [1], [], 2147483647), (0, [2], [], 285), (90, [3], [], -2147483648), (91, [3], [], 2147483647), (90, [4], [], 0), (91, [4], [], 23), (90, [5], [], 0), (91, [5], [], 40), (90, [6], [], 0), (91, [6], [], 40)], (90, [13], [], 0))
theorem c_304_77_9 {q0 : Nat} : vOkm T0 (eP e_304 L_304 A_304 mu_304 (some q0)) 2 g_304_77_9 := vOk_inI fun ρ η f0 f1 f2 f3 f4 f5 f6 f7 f8 f9 f10 f11 f12 f13 f14 f15 f16 f17 f18 => q_304_24 (q0 := q0) (n0 := ρ 6) (n1 := ρ 5) (n2 := ρ 4) (n3 := ρ 3) (n4 := ρ 2) (n5 := ρ 1) (n6 := ρ 0) (n7 := ρ 7) (n8 := ρ 12) (n9 := ρ 13) (H0 := η 0) (H1 := η 1) f18 f17 f16 f15 f14 f13 f12 f11 f10 f9 f8 f7 f6 f5 f4 f3 f2 f1 f0
theorem q_304_25 {q0 : Nat} {n0 n1 n2 n3 n4 n5 n6 n7 n8 n9 : Int} {H0 H1 : gH} (f0 : n0 ≤ 40) (f1 : 0 ≤ n0) (f2 : n1 ≤ 40) (f3 : 0 ≤ n1) (f4 : n2 ≤ 23) (f5 : 0 ≤ n2) (f6 : n3 ≤ 2147483647) (f7 : (-2147483648) ≤ n3) (f8 : n4 = 285) (f9 : n5 ≤ 2147483647) (f10 : (-2147483648) ≤ n5) (f11 : n6 = 285) (f12 : (hLe T0 H0 H1 ∧ hFr s_304.2.2.2.2 H0 H1 ∧ hWt T0 H1) ∧ (Ab_304_77 n6 n5 n4 n3 n2 n1 n0 H0 H1 ∧ preb_304 n6 n5 H0) ∧ some q0 = some (mub_304_77 n6 n5 n4 n3 n2 n1 n0 H0 H1)) (f13 : n7 ≤ 40) (f14 : 0 ≤ n7) (f15 : n7 = hV H1 (n4).toNat 82) (f16 : n0 < n7) (f17 : n8 = w32 (n1 + 1)) (f18 : n9 = w32 (n0 + 1)) : n9 ≤ 40 := by
  have g4 := f12.2.1.1
  unfold Ab_304_77 at g4
  have g3 := f12.2.1.2
  unfold preb_304 at g3
  have e0 : n7 = hV H1 285 82 := (by rw [f8] at f15; exact f15 : n7 = hV H1 285 82)
  have e2 : hV H1 285 18 = hV H0 285 18 := (f12.1.2.1.1 285 18 kF_304_285_18)
  have e3 : (0 : Int) ≤ hV H0 285 18 ∧ hV H0 285 18 ≤ 8 := bTo e2 (f12.1.2.2 285 18 _ _ kW_285_18)
  have k0 := g4.1
  have y0 := g4.2.1
  have y1 := g4.2.2.1
  have y2 := g4.2.2.2
  have p0 := g3.1
  have p1 := g3.2
  try simp only [e2] at y1
  clear g3
  clear g4
  clear f15 e2
  clear f12
  subst e0
  first
  | (have ix0 : n9 = n0 + 1 := Eq.trans f18 (w32_iv (Iad (Iat f1 f0) (IC 1)) (by decide)); subst ix0; clear f18)
  | (have ix0 : n9 = n0 + 1 := Eq.trans f18 (w32_id (by omega) (by omega)); subst ix0; clear f18)
  | (unfold w32 at f18; have ix0 : n9 = n0 + 1 := (by omega); subst ix0)
  | skip
  try unfold w32 at f17
  try unfold w32 at f18
  try subst k0
  omega
def g_304_77_10 : vG := ([(10, [13, 6], [], 1), (10, [12, 5], [], 1), (42, [6, 7], [], 0), (20, [7, 2], [1], 82), (90, [7], [], 0), (91, [7], [], 40), (5000, [0, 1, 2, 3, 4, 5, 6], [0, 1], 77), (0, [0], [], 285), (90, [1], [], -2147483648), (91, [1], [], 2147483647), (0, [2], [], 285), (90, [3], [], -2147483648), (91, [3], [], 2147483647), (90, [4], [], 0), (91, [4], [], 23), (90, [5], [], 0), (91, [5], [], 40), (90, [6], [], 0), (91, [6], [], 40)], (91, [13], [], 40))
theorem c_304_77_10 {q0 : Nat} : vOkm T0 (eP e_304 L_304 A_304 mu_304 (some q0)) 2 g_304_77_10 := vOk_inI fun ρ η f0 f1 f2 f3 f4 f5 f6 f7 f8 f9 f10 f11 f12 f13 f14 f15 f16 f17 f18 => q_304_25 (q0 := q0) (n0 := ρ 6) (n1 := ρ 5) (n2 := ρ 4) (n3 := ρ 3) (n4 := ρ 2) (n5 := ρ 1) (n6 := ρ 0) (n7 := ρ 7) (n8 := ρ 12) (n9 := ρ 13) (H0 := η 0) (H1 := η 1) f18 f17 f16 f15 f14 f13 f12 f11 f10 f9 f8 f7 f6 f5 f4 f3 f2 f1 f0
theorem q_304_26 {q0 : Nat} {n0 n1 n2 n3 n4 n5 n6 n7 n8 n9 : Int} {H0 H1 : gH} (f0 : n0 ≤ 40) (f1 : 0 ≤ n0) (f2 : n1 ≤ 40) (f3 : 0 ≤ n1) (f4 : n2 ≤ 23) (f5 : 0 ≤ n2) (f6 : n3 ≤ 2147483647) (f7 : (-2147483648) ≤ n3) (f8 : n4 = 285) (f9 : n5 ≤ 2147483647) (f10 : (-2147483648) ≤ n5) (f11 : n6 = 285) (f12 : (hLe T0 H0 H1 ∧ hFr s_304.2.2.2.2 H0 H1 ∧ hWt T0 H1) ∧ (Ab_304_77 n6 n5 n4 n3 n2 n1 n0 H0 H1 ∧ preb_304 n6 n5 H0) ∧ some q0 = some (mub_304_77 n6 n5 n4 n3 n2 n1 n0 H0 H1)) (f13 : n7 ≤ 40) (f14 : 0 ≤ n7) (f15 : n7 = hV H1 (n4).toNat 82) (f16 : n0 < n7) (f17 : n8 = w32 (n1 + 1)) (f18 : n9 = w32 (n0 + 1)) : Ab_304_77 n6 n5 n4 n3 n2 n8 n9 H0 H1 ∧ ∀ q, some q0 = some q → mub_304_77 n6 n5 n4 n3 n2 n8 n9 H0 H1 < q := by
  have g4 := f12.2.1.1
  unfold Ab_304_77 at g4
  have g3 := f12.2.1.2
  unfold preb_304 at g3
  have g5 := Option.some.inj f12.2.2
  unfold mub_304_77 at g5
  unfold Ab_304_77
  unfold mub_304_77
  have e0 : n7 = hV H1 285 82 := (by rw [f8] at f15; exact f15 : n7 = hV H1 285 82)
  have e2 : hV H1 285 18 = hV H0 285 18 := (f12.1.2.1.1 285 18 kF_304_285_18)
  have e3 : (0 : Int) ≤ hV H0 285 18 ∧ hV H0 285 18 ≤ 8 := bTo e2 (f12.1.2.2 285 18 _ _ kW_285_18)
  try simp only [e2]
  have k0 := g4.1
  have y0 := g4.2.1
  have y1 := g4.2.2.1
  have y2 := g4.2.2.2
  have p0 := g3.1
  have p1 := g3.2
  try simp only [e2] at y1
  clear g3
  clear g4
  clear f15 e2
  clear f12
  subst e0
  first
  | (have ix0 : n8 = n1 + 1 := Eq.trans f17 (w32_iv (Iad (Iat f3 f2) (IC 1)) (by decide)); subst ix0; clear f17)
  | (have ix0 : n8 = n1 + 1 := Eq.trans f17 (w32_id (by omega) (by omega)); subst ix0; clear f17)
  | (unfold w32 at f17; have ix0 : n8 = n1 + 1 := (by omega); subst ix0)
  | skip
  first
  | (have ix1 : n9 = n0 + 1 := Eq.trans f18 (w32_iv (Iad (Iat f1 f0) (IC 1)) (by decide)); subst ix1; clear f18)
  | (have ix1 : n9 = n0 + 1 := Eq.trans f18 (w32_id (by omega) (by omega)); subst ix1; clear f18)
  | (unfold w32 at f18; have ix1 : n9 = n0 + 1 := (by omega); subst ix1)
  | skip
  try unfold w32 at f17
  try unfold w32 at f18
  try subst k0
  refine ⟨?_, fun q hq => ?_⟩
  · refine ⟨?_, ?_, ?_, ?_⟩ <;> first | assumption | omega | trivial
  · have g6 := Option.some.inj hq
    subst g6
    omega
def g_304_77_11 : vG := ([(10, [13, 6], [], 1), (10, [12, 5], [], 1), (42, [6, 7], [], 0), (20, [7, 2], [1], 82), (90, [7], [], 0), (91, [7], [], 40), (5000, [0, 1, 2, 3, 4, 5, 6], [0, 1], 77), (0, [0], [], 285), (90, [1], [], -2147483648), (91, [1], [], 2147483647), (0, [2], [], 285), (90, [3], [], -2147483648), (91, [3], [], 2147483647), (90, [4], [], 0), (91, [4], [], 23), (90, [5], [], 0), (91, [5], [], 40), (90, [6], [], 0), (91, [6], [], 40)], (4000, [2, 3, 4, 12, 13], [1], 77))
theorem c_304_77_11 {q0 : Nat} : vOkm T0 (eP e_304 L_304 A_304 mu_304 (some q0)) 2 g_304_77_11 := vOk_inI fun ρ η f0 f1 f2 f3 f4 f5 f6 f7 f8 f9 f10 f11 f12 f13 f14 f15 f16 f17 f18 => q_304_26 (q0 := q0) (n0 := ρ 6) (n1 := ρ 5) (n2 := ρ 4) (n3 := ρ 3) (n4 := ρ 2) (n5 := ρ 1) (n6 := ρ 0) (n7 := ρ 7) (n8 := ρ 12) (n9 := ρ 13) (H0 := η 0) (H1 := η 1) f18 f17 f16 f15 f14 f13 f12 f11 f10 f9 f8 f7 f6 f5 f4 f3 f2 f1 f0
def p_304_77 : List vG := [g_304_77_0,
  g_304_77_1,
  g_304_77_2,
  g_304_77_3,
  g_304_77_4,
  g_304_77_5,
  g_304_77_6,
  g_304_77_7,
  g_304_77_8,
  g_304_77_9,
  g_304_77_10,
  g_304_77_11]
theorem r_304_77 : vCovO true (eRc e_304 L_304 cs_304 2000 (77, [(0, (3, 12, 285, 0)), (1, (0, -2147483648, 2147483647, 0)), (2, (0, 0, 23, 0)), (3, (0, 0, 40, 0)), (4, (0, 0, 40, 0))])) p_304_77 = true := by decide +kernel
theorem q_304_27 {q0 : Nat} {n0 n1 n2 n3 n4 n5 n6 n7 n8 : Int} {H0 H1 : gH} (f0 : n0 ≤ 2147483647) (f1 : (-2147483648) ≤ n0) (f2 : n1 ≤ 8) (f3 : 0 ≤ n1) (f4 : n2 ≤ 23) (f5 : 0 ≤ n2) (f6 : n3 ≤ 2147483647) (f7 : (-2147483648) ≤ n3) (f8 : n4 = 285) (f9 : n5 ≤ 2147483647) (f10 : (-2147483648) ≤ n5) (f11 : n6 = 285) (f12 : (hLe T0 H0 H1 ∧ hFr s_304.2.2.2.2 H0 H1 ∧ hWt T0 H1) ∧ (Ab_304_119 n6 n5 n4 n3 n2 n1 n0 H0 H1 ∧ preb_304 n6 n5 H0) ∧ some q0 = some (mub_304_119 n6 n5 n4 n3 n2 n1 n0 H0 H1)) (f13 : n7 = (-2)) (f14 : n8 = 0) : Ab_304_126 n6 n5 n4 n3 n2 n1 n7 n8 H0 H1 ∧ ∀ q, some q0 = some q → mub_304_126 n6 n5 n4 n3 n2 n1 n7 n8 H0 H1 < q := by
  have g4 := f12.2.1.1
  unfold Ab_304_119 at g4
  have g3 := f12.2.1.2
  unfold preb_304 at g3
  have g5 := Option.some.inj f12.2.2
  unfold mub_304_119 at g5
  unfold Ab_304_126
  unfold mub_304_126
  have e1 : hV H1 285 18 = hV H0 285 18 := (f12.1.2.1.1 285 18 kF_304_285_18)
  have e2 : (0 : Int) ≤ hV H0 285 18 ∧ hV H0 285 18 ≤ 8 := bTo e1 (f12.1.2.2 285 18 _ _ kW_285_18)
  try simp only [e1]
  have k0 := g4.1
  have y0 := g4.2.1
  have y1 := g4.2.2
  have p0 := g3.1
  have p1 := g3.2
  try simp only [e1] at y1
  clear g3
  clear g4
  clear e1
  clear f12
  try subst k0
  refine ⟨?_, fun q hq => ?_⟩
  · refine ⟨?_, ?_, ?_⟩ <;> first | assumption | omega | trivial
  · have g6 := Option.some.inj hq
    subst g6
    omega
def g_304_119_0 : vG := ([(0, [8], [], 0), (0, [7], [], -2), (5000, [0, 1, 2, 3, 4, 5, 6], [0, 1], 119), (0, [0], [], 285), (90, [1], [], -2147483648), (91, [1], [], 2147483647), (0, [2], [], 285), (90, [3], [], -2147483648), (91, [3], [], 2147483647), (90, [4], [], 0), (91, [4], [], 23), (90, [5], [], 0), (91, [5], [], 8), (90, [6], [], -2147483648), (91, [6], [], 2147483647)], (4000, [2, 3, 4, 5, 7, 8], [1], 126))
theorem c_304_119_0 {q0 : Nat} : vOkm T0 (eP e_304 L_304 A_304 mu_304 (some q0)) 2 g_304_119_0 := vOk_inI fun ρ η f0 f1 f2 f3 f4 f5 f6 f7 f8 f9 f10 f11 f12 f13 f14 => q_304_27 (q0 := q0) (n0 := ρ 6) (n1 := ρ 5) (n2 := ρ 4) (n3 := ρ 3) (n4 := ρ 2) (n5 := ρ 1) (n6 := ρ 0) (n7 := ρ 7) (n8 := ρ 8) (H0 := η 0) (H1 := η 1) f14 f13 f12 f11 f10 f9 f8 f7 f6 f5 f4 f3 f2 f1 f0
def p_304_119 : List vG := [g_304_119_0]
theorem r_304_119 : vCovO true (eRc e_304 L_304 cs_304 2000 (119, [(0, (3, 12, 285, 0)), (1, (0, -2147483648, 2147483647, 0)), (2, (0, 0, 23, 0)), (3, (0, 0, 8, 0)), (4, (0, -2147483648, 2147483647, 0))])) p_304_119 = true := by decide +kernel
theorem q_304_28 {q0 : Nat} {n0 n1 n2 n3 n4 n5 n6 n7 n8 n9 : Int} {H0 H1 : gH} (f0 : n0 ≤ 256) (f1 : 0 ≤ n0) (f2 : n1 ≤ 255) (f3 : (-2) ≤ n1) (f4 : n2 ≤ 8) (f5 : 0 ≤ n2) (f6 : n3 ≤ 23) (f7 : 0 ≤ n3) (f8 : n4 ≤ 2147483647) (f9 : (-2147483648) ≤ n4) (f10 : n5 = 285) (f11 : n6 ≤ 2147483647) (f12 : (-2147483648) ≤ n6) (f13 : n7 = 285) (f14 : (hLe T0 H0 H1 ∧ hFr s_304.2.2.2.2 H0 H1 ∧ hWt T0 H1) ∧ (Ab_304_126 n7 n6 n5 n4 n3 n2 n1 n0 H0 H1 ∧ preb_304 n7 n6 H0) ∧ some q0 = some (mub_304_126 n7 n6 n5 n4 n3 n2 n1 n0 H0 H1)) (f15 : n8 = 1) (f16 : n9 = o32 (fun x y => x <<< (y &&& 31)) n8 n2) (f17 : n0 < n9) : n0 ≤ 255 := by
  have g4 := f14.2.1.1
  unfold Ab_304_126 at g4
  have g3 := f14.2.1.2
  unfold preb_304 at g3
  have e1 : hV H1 285 18 = hV H0 285 18 := (f14.1.2.1.1 285 18 kF_304_285_18)
  have e2 : (0 : Int) ≤ hV H0 285 18 ∧ hV H0 285 18 ≤ 8 := bTo e1 (f14.1.2.2 285 18 _ _ kW_285_18)
  have k0 := g4.1
  have y0 := g4.2.1
  have y1 := g4.2.2
  have p0 := g3.1
  have p1 := g3.2
  try simp only [e1] at y1
  clear g3
  clear g4
  clear e1
  clear f14

  have sh := shl_8 f16 (by omega) (by omega) (by omega)
  omega
def g_304_126_0 : vG := ([(42, [7, 9], [], 0), (7, [9, 8, 5], [], 0), (0, [8], [], 1), (5000, [0, 1, 2, 3, 4, 5, 6, 7], [0, 1], 126), (0, [0], [], 285), (90, [1], [], -2147483648), (91, [1], [], 2147483647), (0, [2], [], 285), (90, [3], [], -2147483648), (91, [3], [], 2147483647), (90, [4], [], 0), (91, [4], [], 23), (90, [5], [], 0), (91, [5], [], 8), (90, [6], [], -2), (91, [6], [], 255), (90, [7], [], 0), (91, [7], [], 256)], (91, [7], [], 255))
theorem c_304_126_0 {q0 : Nat} : vOkm T0 (eP e_304 L_304 A_304 mu_304 (some q0)) 2 g_304_126_0 := vOk_inI fun ρ η f0 f1 f2 f3 f4 f5 f6 f7 f8 f9 f10 f11 f12 f13 f14 f15 f16 f17 => q_304_28 (q0 := q0) (n0 := ρ 7) (n1 := ρ 6) (n2 := ρ 5) (n3 := ρ 4) (n4 := ρ 3) (n5 := ρ 2) (n6 := ρ 1) (n7 := ρ 0) (n8 := ρ 8) (n9 := ρ 9) (H0 := η 0) (H1 := η 1) f17 f16 f15 f14 f13 f12 f11 f10 f9 f8 f7 f6 f5 f4 f3 f2 f1 f0
theorem q_304_29 {q0 : Nat} {n0 n1 n2 n3 n4 n5 n6 n7 n8 n9 : Int} {H0 H1 : gH} (f0 : n0 ≤ 256) (f1 : 0 ≤ n0) (f2 : n1 ≤ 255) (f3 : (-2) ≤ n1) (f4 : n2 ≤ 8) (f5 : 0 ≤ n2) (f6 : n3 ≤ 23) (f7 : 0 ≤ n3) (f8 : n4 ≤ 2147483647) (f9 : (-2147483648) ≤ n4) (f10 : n5 = 285) (f11 : n6 ≤ 2147483647) (f12 : (-2147483648) ≤ n6) (f13 : n7 = 285) (f14 : (hLe T0 H0 H1 ∧ hFr s_304.2.2.2.2 H0 H1 ∧ hWt T0 H1) ∧ (Ab_304_126 n7 n6 n5 n4 n3 n2 n1 n0 H0 H1 ∧ preb_304 n7 n6 H0) ∧ some q0 = some (mub_304_126 n7 n6 n5 n4 n3 n2 n1 n0 H0 H1)) (f15 : n8 = 1) (f16 : n9 = o32 (fun x y => x <<< (y &&& 31)) n8 n2) (f17 : n0 < n9) : Ab_304_134 n7 n6 n5 n4 n3 n2 n1 n0 H0 H1 ∧ ∀ q, some q0 = some q → mub_304_134 n7 n6 n5 n4 n3 n2 n1 n0 H0 H1 < q := by
  have g4 := f14.2.1.1
  unfold Ab_304_126 at g4
  have g3 := f14.2.1.2
  unfold preb_304 at g3
  have g5 := Option.some.inj f14.2.2
  unfold mub_304_126 at g5
  unfold Ab_304_134
  unfold mub_304_134
  have e1 : hV H1 285 18 = hV H0 285 18 := (f14.1.2.1.1 285 18 kF_304_285_18)
  have e2 : (0 : Int) ≤ hV H0 285 18 ∧ hV H0 285 18 ≤ 8 := bTo e1 (f14.1.2.2 285 18 _ _ kW_285_18)
  try simp only [e1]
  have k0 := g4.1
  have y0 := g4.2.1
  have y1 := g4.2.2
  have p0 := g3.1
  have p1 := g3.2
  try simp only [e1] at y1
  clear g3
  clear g4
  clear e1
  clear f14

  have sh := shl_8 f16 (by omega) (by omega) (by omega)
  refine ⟨?_, fun q hq => ?_⟩
  · refine ⟨?_, ?_, ?_⟩ <;> omega
  · have g6 := Option.some.inj hq
    subst g6
    omega
def g_304_126_1 : vG := ([(42, [7, 9], [], 0), (7, [9, 8, 5], [], 0), (0, [8], [], 1), (5000, [0, 1, 2, 3, 4, 5, 6, 7], [0, 1], 126), (0, [0], [], 285), (90, [1], [], -2147483648), (91, [1], [], 2147483647), (0, [2], [], 285), (90, [3], [], -2147483648), (91, [3], [], 2147483647), (90, [4], [], 0), (91, [4], [], 23), (90, [5], [], 0), (91, [5], [], 8), (90, [6], [], -2), (91, [6], [], 255), (90, [7], [], 0), (91, [7], [], 256)], (4000, [2, 3, 4, 5, 6, 7], [1], 134))
theorem c_304_126_1 {q0 : Nat} : vOkm T0 (eP e_304 L_304 A_304 mu_304 (some q0)) 2 g_304_126_1 := vOk_inI fun ρ η f0 f1 f2 f3 f4 f5 f6 f7 f8 f9 f10 f11 f12 f13 f14 f15 f16 f17 => q_304_29 (q0 := q0) (n0 := ρ 7) (n1 := ρ 6) (n2 := ρ 5) (n3 := ρ 4) (n4 := ρ 3) (n5 := ρ 2) (n6 := ρ 1) (n7 := ρ 0) (n8 := ρ 8) (n9 := ρ 9) (H0 := η 0) (H1 := η 1) f17 f16 f15 f14 f13 f12 f11 f10 f9 f8 f7 f6 f5 f4 f3 f2 f1 f0
def p_304_126 : List vG := [g_304_126_0,
  g_304_126_1]
theorem r_304_126 : vCovO true (eRc e_304 L_304 cs_304 2000 (126, [(0, (3, 12, 285, 0)), (1, (0, -2147483648, 2147483647, 0)), (2, (0, 0, 23, 0)), (3, (0, 0, 8, 0)), (4, (0, -2, 255, 0)), (5, (0, 0, 256, 0))])) p_304_126 = true := by decide +kernel
theorem q_304_30 {q0 : Nat} {n0 n1 n2 n3 n4 n5 n6 n7 n8 n9 : Int} {H0 H1 : gH} (f0 : n0 ≤ 255) (f1 : 0 ≤ n0) (f2 : n1 ≤ 255) (f3 : (-2) ≤ n1) (f4 : n2 ≤ 8) (f5 : 0 ≤ n2) (f6 : n3 ≤ 23) (f7 : 0 ≤ n3) (f8 : n4 ≤ 2147483647) (f9 : (-2147483648) ≤ n4) (f10 : n5 = 285) (f11 : n6 ≤ 2147483647) (f12 : (-2147483648) ≤ n6) (f13 : n7 = 285) (f14 : (hLe T0 H0 H1 ∧ hFr s_304.2.2.2.2 H0 H1 ∧ hWt T0 H1) ∧ (Ab_304_134 n7 n6 n5 n4 n3 n2 n1 n0 H0 H1 ∧ preb_304 n7 n6 H0) ∧ some q0 = some (mub_304_134 n7 n6 n5 n4 n3 n2 n1 n0 H0 H1)) (f15 : n8 = o32 (fun x y => x ^^^ y) n0 n1) (f16 : n9 = (-2)) (f17 : n1 = n9) : Ab_304_189 n7 n6 n5 n4 n3 n2 n1 n0 n8 H0 H1 ∧ ∀ q, some q0 = some q → mub_304_189 n7 n6 n5 n4 n3 n2 n1 n0 n8 H0 H1 < q := by
  have g4 := f14.2.1.1
  unfold Ab_304_134 at g4
  have g3 := f14.2.1.2
  unfold preb_304 at g3
  have g5 := Option.some.inj f14.2.2
  unfold mub_304_134 at g5
  unfold Ab_304_189
  unfold mub_304_189
  have e1 : hV H1 285 18 = hV H0 285 18 := (f14.1.2.1.1 285 18 kF_304_285_18)
  have e2 : (0 : Int) ≤ hV H0 285 18 ∧ hV H0 285 18 ≤ 8 := bTo e1 (f14.1.2.2 285 18 _ _ kW_285_18)
  try simp only [e1]
  have k0 := g4.1
  have y0 := g4.2.1
  have y1 := g4.2.2
  have p0 := g3.1
  have p1 := g3.2
  try simp only [e1] at y1
  clear g3
  clear g4
  clear e1
  clear f14
  try subst k0
  refine ⟨?_, fun q hq => ?_⟩
  · refine ⟨?_, ?_, ?_⟩ <;> first | assumption | omega | trivial
  · have g6 := Option.some.inj hq
    subst g6
    omega
def g_304_134_0 : vG := ([(40, [6, 9], [], 0), (0, [9], [], -2), (6, [8, 7, 6], [], 0), (5000, [0, 1, 2, 3, 4, 5, 6, 7], [0, 1], 134), (0, [0], [], 285), (90, [1], [], -2147483648), (91, [1], [], 2147483647), (0, [2], [], 285), (90, [3], [], -2147483648), (91, [3], [], 2147483647), (90, [4], [], 0), (91, [4], [], 23), (90, [5], [], 0), (91, [5], [], 8), (90, [6], [], -2), (91, [6], [], 255), (90, [7], [], 0), (91, [7], [], 255)], (4000, [2, 3, 4, 5, 6, 7, 8], [1], 189))
theorem c_304_134_0 {q0 : Nat} : vOkm T0 (eP e_304 L_304 A_304 mu_304 (some q0)) 2 g_304_134_0 := vOk_inI fun ρ η f0 f1 f2 f3 f4 f5 f6 f7 f8 f9 f10 f11 f12 f13 f14 f15 f16 f17 => q_304_30 (q0 := q0) (n0 := ρ 7) (n1 := ρ 6) (n2 := ρ 5) (n3 := ρ 4) (n4 := ρ 3) (n5 := ρ 2) (n6 := ρ 1) (n7 := ρ 0) (n8 := ρ 8) (n9 := ρ 9) (H0 := η 0) (H1 := η 1) f17 f16 f15 f14 f13 f12 f11 f10 f9 f8 f7 f6 f5 f4 f3 f2 f1 f0
theorem q_304_31 {q0 : Nat} {n0 n1 n2 n3 n4 n5 n6 n7 n8 n9 n10 : Int} {H0 H1 : gH} (f0 : n0 ≤ 255) (f1 : 0 ≤ n0) (f2 : n1 ≤ 255) (f3 : (-2) ≤ n1) (f4 : n2 ≤ 8) (f5 : 0 ≤ n2) (f6 : n3 ≤ 23) (f7 : 0 ≤ n3) (f8 : n4 ≤ 2147483647) (f9 : (-2147483648) ≤ n4) (f10 : n5 = 285) (f11 : n6 ≤ 2147483647) (f12 : (-2147483648) ≤ n6) (f13 : n7 = 285) (f14 : (hLe T0 H0 H1 ∧ hFr s_304.2.2.2.2 H0 H1 ∧ hWt T0 H1) ∧ (Ab_304_134 n7 n6 n5 n4 n3 n2 n1 n0 H0 H1 ∧ preb_304 n7 n6 H0) ∧ some q0 = some (mub_304_134 n7 n6 n5 n4 n3 n2 n1 n0 H0 H1)) (f15 : n8 = o32 (fun x y => x ^^^ y) n0 n1) (f16 : n9 = (-2)) (f17 : n1 ≠ n9) (f18 : n10 = w32 (n0 + 1)) : 0 ≤ n10 := by
  have g4 := f14.2.1.1
  unfold Ab_304_134 at g4
  have g3 := f14.2.1.2
  unfold preb_304 at g3
  have e1 : hV H1 285 18 = hV H0 285 18 := (f14.1.2.1.1 285 18 kF_304_285_18)
  have e2 : (0 : Int) ≤ hV H0 285 18 ∧ hV H0 285 18 ≤ 8 := bTo e1 (f14.1.2.2 285 18 _ _ kW_285_18)
  have k0 := g4.1
  have y0 := g4.2.1
  have y1 := g4.2.2
  have p0 := g3.1
  have p1 := g3.2
  try simp only [e1] at y1
  clear g3
  clear g4
  clear e1
  clear f14
  first
  | (have ix0 : n10 = n0 + 1 := Eq.trans f18 (w32_iv (Iad (Iat f1 f0) (IC 1)) (by decide)); subst ix0; clear f18)
  | (have ix0 : n10 = n0 + 1 := Eq.trans f18 (w32_id (by omega) (by omega)); subst ix0; clear f18)
  | (unfold w32 at f18; have ix0 : n10 = n0 + 1 := (by omega); subst ix0)
  | skip
  try unfold w32 at f18
  try subst k0
  omega
def g_304_134_1 : vG := ([(10, [12, 7], [], 1), (41, [6, 9], [], 0), (0, [9], [], -2), (6, [8, 7, 6], [], 0), (5000, [0, 1, 2, 3, 4, 5, 6, 7], [0, 1], 134), (0, [0], [], 285), (90, [1], [], -2147483648), (91, [1], [], 2147483647), (0, [2], [], 285), (90, [3], [], -2147483648), (91, [3], [], 2147483647), (90, [4], [], 0), (91, [4], [], 23), (90, [5], [], 0), (91, [5], [], 8), (90, [6], [], -2), (91, [6], [], 255), (90, [7], [], 0), (91, [7], [], 255)], (90, [12], [], 0))
theorem c_304_134_1 {q0 : Nat} : vOkm T0 (eP e_304 L_304 A_304 mu_304 (some q0)) 2 g_304_134_1 := vOk_inI fun ρ η f0 f1 f2 f3 f4 f5 f6 f7 f8 f9 f10 f11 f12 f13 f14 f15 f16 f17 f18 => q_304_31 (q0 := q0) (n0 := ρ 7) (n1 := ρ 6) (n2 := ρ 5) (n3 := ρ 4) (n4 := ρ 3) (n5 := ρ 2) (n6 := ρ 1) (n7 := ρ 0) (n8 := ρ 8) (n9 := ρ 9) (n10 := ρ 12) (H0 := η 0) (H1 := η 1) f18 f17 f16 f15 f14 f13 f12 f11 f10 f9 f8 f7 f6 f5 f4 f3 f2 f1 f0
theorem q_304_32 {q0 : Nat} {n0 n1 n2 n3 n4 n5 n6 n7 n8 n9 n10 : Int} {H0 H1 : gH} (f0 : n0 ≤ 255) (f1 : 0 ≤ n0) (f2 : n1 ≤ 255) (f3 : (-2) ≤ n1) (f4 : n2 ≤ 8) (f5 : 0 ≤ n2) (f6 : n3 ≤ 23) (f7 : 0 ≤ n3) (f8 : n4 ≤ 2147483647) (f9 : (-2147483648) ≤ n4) (f10 : n5 = 285) (f11 : n6 ≤ 2147483647) (f12 : (-2147483648) ≤ n6) (f13 : n7 = 285) (f14 : (hLe T0 H0 H1 ∧ hFr s_304.2.2.2.2 H0 H1 ∧ hWt T0 H1) ∧ (Ab_304_134 n7 n6 n5 n4 n3 n2 n1 n0 H0 H1 ∧ preb_304 n7 n6 H0) ∧ some q0 = some (mub_304_134 n7 n6 n5 n4 n3 n2 n1 n0 H0 H1)) (f15 : n8 = o32 (fun x y => x ^^^ y) n0 n1) (f16 : n9 = (-2)) (f17 : n1 ≠ n9) (f18 : n10 = w32 (n0 + 1)) : n10 ≤ 256 := by
  have g4 := f14.2.1.1
  unfold Ab_304_134 at g4
  have g3 := f14.2.1.2
  unfold preb_304 at g3
  have e1 : hV H1 285 18 = hV H0 285 18 := (f14.1.2.1.1 285 18 kF_304_285_18)
  have e2 : (0 : Int) ≤ hV H0 285 18 ∧ hV H0 285 18 ≤ 8 := bTo e1 (f14.1.2.2 285 18 _ _ kW_285_18)
  have k0 := g4.1
  have y0 := g4.2.1
  have y1 := g4.2.2
  have p0 := g3.1
  have p1 := g3.2
  try simp only [e1] at y1
  clear g3
  clear g4
  clear e1
  clear f14
  first
  | (have ix0 : n10 = n0 + 1 := Eq.trans f18 (w32_iv (Iad (Iat f1 f0) (IC 1)) (by decide)); subst ix0; clear f18)
  | (have ix0 : n10 = n0 + 1 := Eq.trans f18 (w32_id (by omega) (by omega)); subst ix0; clear f18)
  | (unfold w32 at f18; have ix0 : n10 = n0 + 1 := (by omega); subst ix0)
  | skip
  try unfold w32 at f18
  try subst k0
  omega
def g_304_134_2 : vG := ([(10, [12, 7], [], 1), (41, [6, 9], [], 0), (0, [9], [], -2), (6, [8, 7, 6], [], 0), (5000, [0, 1, 2, 3, 4, 5, 6, 7], [0, 1], 134), (0, [0], [], 285), (90, [1], [], -2147483648), (91, [1], [], 2147483647), (0, [2], [], 285), (90, [3], [], -2147483648), (91, [3], [], 2147483647), (90, [4], [], 0), (91, [4], [], 23), (90, [5], [], 0), (91, [5], [], 8), (90, [6], [], -2), (91, [6], [], 255), (90, [7], [], 0), (91, [7], [], 255)], (91, [12], [], 256))
theorem c_304_134_2 {q0 : Nat} : vOkm T0 (eP e_304 L_304 A_304 mu_304 (some q0)) 2 g_304_134_2 := vOk_inI fun ρ η f0 f1 f2 f3 f4 f5 f6 f7 f8 f9 f10 f11 f12 f13 f14 f15 f16 f17 f18 => q_304_32 (q0 := q0) (n0 := ρ 7) (n1 := ρ 6) (n2 := ρ 5) (n3 := ρ 4) (n4 := ρ 3) (n5 := ρ 2) (n6 := ρ 1) (n7 := ρ 0) (n8 := ρ 8) (n9 := ρ 9) (n10 := ρ 12) (H0 := η 0) (H1 := η 1) f18 f17 f16 f15 f14 f13 f12 f11 f10 f9 f8 f7 f6 f5 f4 f3 f2 f1 f0
theorem kF_303_285_18 : vFree s_303.2.2.2.2 285 18 = true := by decide +kernel
theorem q_304_33 {q0 : Nat} {n0 n1 n2 n3 n4 n5 n6 n7 n8 n9 n10 n11 n12 : Int} {H0 H1 H2 H3 : gH} (f0 : n0 ≤ 255) (f1 : 0 ≤ n0) (f2 : n1 ≤ 255) (f3 : (-2) ≤ n1) (f4 : n2 ≤ 8) (f5 : 0 ≤ n2) (f6 : n3 ≤ 23) (f7 : 0 ≤ n3) (f8 : n4 ≤ 2147483647) (f9 : (-2147483648) ≤ n4) (f10 : n5 = 285) (f11 : n6 ≤ 2147483647) (f12 : (-2147483648) ≤ n6) (f13 : n7 = 285) (f14 : (hLe T0 H0 H1 ∧ hFr s_304.2.2.2.2 H0 H1 ∧ hWt T0 H1) ∧ (Ab_304_134 n7 n6 n5 n4 n3 n2 n1 n0 H0 H1 ∧ preb_304 n7 n6 H0) ∧ some q0 = some (mub_304_134 n7 n6 n5 n4 n3 n2 n1 n0 H0 H1)) (f15 : n8 = o32 (fun x y => x ^^^ y) n0 n1) (f16 : n9 = (-2)) (f17 : n1 ≠ n9) (f18 : n10 ≤ 2147483647) (f19 : (-2147483648) ≤ n10) (f20 : (hLe T0 H1 H2 ∧ hFr s_303.2.2.2.2 H1 H2 ∧ ((0 : Int) = 0 → H2.length = H1.length) ∧ hWt T0 H2) ∧ True) (f21 : n11 ≤ 2147483647) (f22 : (-2147483648) ≤ n11) (f23 : (hLe T0 H2 H3 ∧ hFr s_303.2.2.2.2 H2 H3 ∧ ((0 : Int) = 0 → H3.length = H2.length) ∧ hWt T0 H3) ∧ True) (f24 : n11 < n10) (f25 : n12 = w32 (n0 + 1)) : Ab_304_126 n7 n6 n5 n4 n3 n2 n1 n12 H0 H3 ∧ ∀ q, some q0 = some q → mub_304_126 n7 n6 n5 n4 n3 n2 n1 n12 H0 H3 < q := by
  have g4 := f14.2.1.1
  unfold Ab_304_134 at g4
  have g3 := f14.2.1.2
  unfold preb_304 at g3
  have g5 := Option.some.inj f14.2.2
  unfold mub_304_134 at g5
  unfold Ab_304_126
  unfold mub_304_126
  have e1 : hV H1 285 18 = hV H0 285 18 := (f14.1.2.1.1 285 18 kF_304_285_18)
  have e4 : hV H3 285 18 = hV H0 285 18 := ((f23.1.2.1.1 285 18 kF_303_285_18)).trans (((f20.1.2.1.1 285 18 kF_303_285_18)).trans (f14.1.2.1.1 285 18 kF_304_285_18))
  have e5 : (0 : Int) ≤ hV H0 285 18 ∧ hV H0 285 18 ≤ 8 := bTo e1 (f14.1.2.2 285 18 _ _ kW_285_18)
  try simp only [e4]
  have k0 := g4.1
  have y0 := g4.2.1
  have y1 := g4.2.2
  have p0 := g3.1
  have p1 := g3.2
  try simp only [e1] at y1
  clear g3
  clear g4
  clear e1 e4
  clear f14 f20 f23
  first
  | (have ix0 : n12 = n0 + 1 := Eq.trans f25 (w32_iv (Iad (Iat f1 f0) (IC 1)) (by decide)); subst ix0; clear f25)
  | (have ix0 : n12 = n0 + 1 := Eq.trans f25 (w32_id (by omega) (by omega)); subst ix0; clear f25)
  | (unfold w32 at f25; have ix0 : n12 = n0 + 1 := (by omega); subst ix0)
  | skip
  try unfold w32 at f25
  try subst k0
  refine ⟨?_, fun q hq => ?_⟩
  · refine ⟨?_, ?_, ?_⟩ <;> first | assumption | omega | trivial
  · have g6 := Option.some.inj hq
    subst g6
    omega
def g_304_134_3 : vG := ([(10, [12, 7], [], 1), (44, [10, 11], [], 0), (1303, [11, 6], [2, 3], 0), (90, [11], [], -2147483648), (91, [11], [], 2147483647), (1303, [10, 7], [1, 2], 0), (90, [10], [], -2147483648), (91, [10], [], 2147483647), (41, [6, 9], [], 0), (0, [9], [], -2), (6, [8, 7, 6], [], 0), (5000, [0, 1, 2, 3, 4, 5, 6, 7], [0, 1], 134), (0, [0], [], 285), (90, [1], [], -2147483648), (91, [1], [], 2147483647), (0, [2], [], 285), (90, [3], [], -2147483648), (91, [3], [], 2147483647), (90, [4], [], 0), (91, [4], [], 23), (90, [5], [], 0), (91, [5], [], 8), (90, [6], [], -2), (91, [6], [], 255), (90, [7], [], 0), (91, [7], [], 255)], (4000, [2, 3, 4, 5, 6, 12], [3], 126))
theorem c_304_134_3 {q0 : Nat} : vOkm T0 (eP e_304 L_304 A_304 mu_304 (some q0)) 2 g_304_134_3 := vOk_inI fun ρ η f0 f1 f2 f3 f4 f5 f6 f7 f8 f9 f10 f11 f12 f13 f14 f15 f16 f17 f18 f19 f20 f21 f22 f23 f24 f25 => q_304_33 (q0 := q0) (n0 := ρ 7) (n1 := ρ 6) (n2 := ρ 5) (n3 := ρ 4) (n4 := ρ 3) (n5 := ρ 2) (n6 := ρ 1) (n7 := ρ 0) (n8 := ρ 8) (n9 := ρ 9) (n10 := ρ 10) (n11 := ρ 11) (n12 := ρ 12) (H0 := η 0) (H1 := η 1) (H2 := η 2) (H3 := η 3) f25 f24 f23 f22 f21 f20 f19 f18 f17 f16 f15 f14 f13 f12 f11 f10 f9 f8 f7 f6 f5 f4 f3 f2 f1 f0
theorem q_304_34 {q0 : Nat} {n0 n1 n2 n3 n4 n5 n6 n7 n8 n9 n10 n11 n12 n13 : Int} {H0 H1 H2 H3 H4 H5 : gH} (f0 : n0 ≤ 255) (f1 : 0 ≤ n0) (f2 : n1 ≤ 255) (f3 : (-2) ≤ n1) (f4 : n2 ≤ 8) (f5 : 0 ≤ n2) (f6 : n3 ≤ 23) (f7 : 0 ≤ n3) (f8 : n4 ≤ 2147483647) (f9 : (-2147483648) ≤ n4) (f10 : n5 = 285) (f11 : n6 ≤ 2147483647) (f12 : (-2147483648) ≤ n6) (f13 : n7 = 285) (f14 : (hLe T0 H0 H1 ∧ hFr s_304.2.2.2.2 H0 H1 ∧ hWt T0 H1) ∧ (Ab_304_134 n7 n6 n5 n4 n3 n2 n1 n0 H0 H1 ∧ preb_304 n7 n6 H0) ∧ some q0 = some (mub_304_134 n7 n6 n5 n4 n3 n2 n1 n0 H0 H1)) (f15 : n8 = o32 (fun x y => x ^^^ y) n0 n1) (f16 : n9 = (-2)) (f17 : n1 ≠ n9) (f18 : n10 ≤ 2147483647) (f19 : (-2147483648) ≤ n10) (f20 : (hLe T0 H1 H2 ∧ hFr s_303.2.2.2.2 H1 H2 ∧ ((0 : Int) = 0 → H2.length = H1.length) ∧ hWt T0 H2) ∧ True) (f21 : n11 ≤ 2147483647) (f22 : (-2147483648) ≤ n11) (f23 : (hLe T0 H2 H3 ∧ hFr s_303.2.2.2.2 H2 H3 ∧ ((0 : Int) = 0 → H3.length = H2.length) ∧ hWt T0 H3) ∧ True) (f24 : n10 ≤ n11) (f25 : n12 ≤ 2147483647) (f26 : (-2147483648) ≤ n12) (f27 : (hLe T0 H3 H4 ∧ hFr s_303.2.2.2.2 H3 H4 ∧ ((0 : Int) = 0 → H4.length = H3.length) ∧ hWt T0 H4) ∧ True) (f28 : n13 ≤ 2147483647) (f29 : (-2147483648) ≤ n13) (f30 : (hLe T0 H4 H5 ∧ hFr s_303.2.2.2.2 H4 H5 ∧ ((0 : Int) = 0 → H5.length = H4.length) ∧ hWt T0 H5) ∧ True) (f31 : n12 ≠ n13) : Ab_304_189 n7 n6 n5 n4 n3 n2 n1 n0 n8 H0 H5 ∧ ∀ q, some q0 = some q → mub_304_189 n7 n6 n5 n4 n3 n2 n1 n0 n8 H0 H5 < q := by
  have g4 := f14.2.1.1
  unfold Ab_304_134 at g4
  have g3 := f14.2.1.2
  unfold preb_304 at g3
  have g5 := Option.some.inj f14.2.2
  unfold mub_304_134 at g5
  unfold Ab_304_189
  unfold mub_304_189
  have e1 : hV H1 285 18 = hV H0 285 18 := (f14.1.2.1.1 285 18 kF_304_285_18)
  have e6 : hV H5 285 18 = hV H0 285 18 := ((f30.1.2.1.1 285 18 kF_303_285_18)).trans (((f27.1.2.1.1 285 18 kF_303_285_18)).trans (((f23.1.2.1.1 285 18 kF_303_285_18)).trans (((f20.1.2.1.1 285 18 kF_303_285_18)).trans (f14.1.2.1.1 285 18 kF_304_285_18))))
  have e7 : (0 : Int) ≤ hV H0 285 18 ∧ hV H0 285 18 ≤ 8 := bTo e1 (f14.1.2.2 285 18 _ _ kW_285_18)
  try simp only [e6]
  have k0 := g4.1
  have y0 := g4.2.1
  have y1 := g4.2.2
  have p0 := g3.1
  have p1 := g3.2
  try simp only [e1] at y1
  clear g3
  clear g4
  clear e1 e6
  clear f14 f20 f23 f27 f30
  try subst k0
  refine ⟨?_, fun q hq => ?_⟩
  · refine ⟨?_, ?_, ?_⟩ <;> first | assumption | omega | trivial
  · have g6 := Option.some.inj hq
    subst g6
    omega
def g_304_134_4 : vG := ([(41, [12, 13], [], 0), (1303, [13, 6], [4, 5], 0), (90, [13], [], -2147483648), (91, [13], [], 2147483647), (1303, [12, 7], [3, 4], 0), (90, [12], [], -2147483648), (91, [12], [], 2147483647), (45, [10, 11], [], 0), (1303, [11, 6], [2, 3], 0), (90, [11], [], -2147483648), (91, [11], [], 2147483647), (1303, [10, 7], [1, 2], 0), (90, [10], [], -2147483648), (91, [10], [], 2147483647), (41, [6, 9], [], 0), (0, [9], [], -2), (6, [8, 7, 6], [], 0), (5000, [0, 1, 2, 3, 4, 5, 6, 7], [0, 1], 134), (0, [0], [], 285), (90, [1], [], -2147483648), (91, [1], [], 2147483647), (0, [2], [], 285), (90, [3], [], -2147483648), (91, [3], [], 2147483647), (90, [4], [], 0), (91, [4], [], 23), (90, [5], [], 0), (91, [5], [], 8), (90, [6], [], -2), (91, [6], [], 255), (90, [7], [], 0), (91, [7], [], 255)], (4000, [2, 3, 4, 5, 6, 7, 8], [5], 189))
theorem c_304_134_4 {q0 : Nat} : vOkm T0 (eP e_304 L_304 A_304 mu_304 (some q0)) 2 g_304_134_4 := vOk_inI fun ρ η f0 f1 f2 f3 f4 f5 f6 f7 f8 f9 f10 f11 f12 f13 f14 f15 f16 f17 f18 f19 f20 f21 f22 f23 f24 f25 f26 f27 f28 f29 f30 f31 => q_304_34 (q0 := q0) (n0 := ρ 7) (n1 := ρ 6) (n2 := ρ 5) (n3 := ρ 4) (n4 := ρ 3) (n5 := ρ 2) (n6 := ρ 1) (n7 := ρ 0) (n8 := ρ 8) (n9 := ρ 9) (n10 := ρ 10) (n11 := ρ 11) (n12 := ρ 12) (n13 := ρ 13) (H0 := η 0) (H1 := η 1) (H2 := η 2) (H3 := η 3) (H4 := η 4) (H5 := η 5) f31 f30 f29 f28 f27 f26 f25 f24 f23 f22 f21 f20 f19 f18 f17 f16 f15 f14 f13 f12 f11 f10 f9 f8 f7 f6 f5 f4 f3 f2 f1 f0
theorem q_304_35 {q0 : Nat} {n0 n1 n2 n3 n4 n5 n6 n7 n8 n9 n10 n11 n12 n13 n14 : Int} {H0 H1 H2 H3 H4 H5 : gH} (f0 : n0 ≤ 255) (f1 : 0 ≤ n0) (f2 : n1 ≤ 255) (f3 : (-2) ≤ n1) (f4 : n2 ≤ 8) (f5 : 0 ≤ n2) (f6 : n3 ≤ 23) (f7 : 0 ≤ n3) (f8 : n4 ≤ 2147483647) (f9 : (-2147483648) ≤ n4) (f10 : n5 = 285) (f11 : n6 ≤ 2147483647) (f12 : (-2147483648) ≤ n6) (f13 : n7 = 285) (f14 : (hLe T0 H0 H1 ∧ hFr s_304.2.2.2.2 H0 H1 ∧ hWt T0 H1) ∧ (Ab_304_134 n7 n6 n5 n4 n3 n2 n1 n0 H0 H1 ∧ preb_304 n7 n6 H0) ∧ some q0 = some (mub_304_134 n7 n6 n5 n4 n3 n2 n1 n0 H0 H1)) (f15 : n8 = o32 (fun x y => x ^^^ y) n0 n1) (f16 : n9 = (-2)) (f17 : n1 ≠ n9) (f18 : n10 ≤ 2147483647) (f19 : (-2147483648) ≤ n10) (f20 : (hLe T0 H1 H2 ∧ hFr s_303.2.2.2.2 H1 H2 ∧ ((0 : Int) = 0 → H2.length = H1.length) ∧ hWt T0 H2) ∧ True) (f21 : n11 ≤ 2147483647) (f22 : (-2147483648) ≤ n11) (f23 : (hLe T0 H2 H3 ∧ hFr s_303.2.2.2.2 H2 H3 ∧ ((0 : Int) = 0 → H3.length = H2.length) ∧ hWt T0 H3) ∧ True) (f24 : n10 ≤ n11) (f25 : n12 ≤ 2147483647) (f26 : (-2147483648) ≤ n12) (f27 : (hLe T0 H3 H4 ∧ hFr s_303.2.2.2.2 H3 H4 ∧ ((0 : Int) = 0 → H4.length = H3.length) ∧ hWt T0 H4) ∧ True) (f28 : n13 ≤ 2147483647) (f29 : (-2147483648) ≤ n13) (f30 : (hLe T0 H4 H5 ∧ hFr s_303.2.2.2.2 H4 H5 ∧ ((0 : Int) = 0 → H5.length = H4.length) ∧ hWt T0 H5) ∧ True) (f31 : n12 = n13) (f32 : n14 = o32 (fun x y => x &&& y) n0 n8) : Ab_304_189 n7 n6 n5 n4 n3 n2 n1 n0 n8 H0 H5 ∧ ∀ q, some q0 = some q → mub_304_189 n7 n6 n5 n4 n3 n2 n1 n0 n8 H0 H5 < q := by
  have g4 := f14.2.1.1
  unfold Ab_304_134 at g4
  have g3 := f14.2.1.2
  unfold preb_304 at g3
  have g5 := Option.some.inj f14.2.2
  unfold mub_304_134 at g5
  unfold Ab_304_189
  unfold mub_304_189
  have e1 : hV H1 285 18 = hV H0 285 18 := (f14.1.2.1.1 285 18 kF_304_285_18)
  have e6 : hV H5 285 18 = hV H0 285 18 := ((f30.1.2.1.1 285 18 kF_303_285_18)).trans (((f27.1.2.1.1 285 18 kF_303_285_18)).trans (((f23.1.2.1.1 285 18 kF_303_285_18)).trans (((f20.1.2.1.1 285 18 kF_303_285_18)).trans (f14.1.2.1.1 285 18 kF_304_285_18))))
  have e7 : (0 : Int) ≤ hV H0 285 18 ∧ hV H0 285 18 ≤ 8 := bTo e1 (f14.1.2.2 285 18 _ _ kW_285_18)
  try simp only [e6]
  have k0 := g4.1
  have y0 := g4.2.1
  have y1 := g4.2.2
  have p0 := g3.1
  have p1 := g3.2
  try simp only [e1] at y1
  clear g3
  clear g4
  clear e1 e6
  clear f14 f20 f23 f27 f30
  try subst k0
  refine ⟨?_, fun q hq => ?_⟩
  · refine ⟨?_, ?_, ?_⟩ <;> first | assumption | omega | trivial
  · have g6 := Option.some.inj hq
    subst g6
    omega
def g_304_134_5 : vG := ([(4, [14, 7, 8], [], 0), (40, [12, 13], [], 0), (1303, [13, 6], [4, 5], 0), (90, [13], [], -2147483648), (91, [13], [], 2147483647), (1303, [12, 7], [3, 4], 0), (90, [12], [], -2147483648), (91, [12], [], 2147483647), (45, [10, 11], [], 0), (1303, [11, 6], [2, 3], 0), (90, [11], [], -2147483648), (91, [11], [], 2147483647), (1303, [10, 7], [1, 2], 0), (90, [10], [], -2147483648), (91, [10], [], 2147483647), (41, [6, 9], [], 0), (0, [9], [], -2), (6, [8, 7, 6], [], 0), (5000, [0, 1, 2, 3, 4, 5, 6, 7], [0, 1], 134), (0, [0], [], 285), (90, [1], [], -2147483648), (91, [1], [], 2147483647), (0, [2], [], 285), (90, [3], [], -2147483648), (91, [3], [], 2147483647), (90, [4], [], 0), (91, [4], [], 23), (90, [5], [], 0), (91, [5], [], 8), (90, [6], [], -2), (91, [6], [], 255), (90, [7], [], 0), (91, [7], [], 255)], (4000, [2, 3, 4, 5, 6, 7, 8], [5], 189))
theorem c_304_134_5 {q0 : Nat} : vOkm T0 (eP e_304 L_304 A_304 mu_304 (some q0)) 2 g_304_134_5 := vOk_inI fun ρ η f0 f1 f2 f3 f4 f5 f6 f7 f8 f9 f10 f11 f12 f13 f14 f15 f16 f17 f18 f19 f20 f21 f22 f23 f24 f25 f26 f27 f28 f29 f30 f31 f32 => q_304_35 (q0 := q0) (n0 := ρ 7) (n1 := ρ 6) (n2 := ρ 5) (n3 := ρ 4) (n4 := ρ 3) (n5 := ρ 2) (n6 := ρ 1) (n7 := ρ 0) (n8 := ρ 8) (n9 := ρ 9) (n10 := ρ 10) (n11 := ρ 11) (n12 := ρ 12) (n13 := ρ 13) (n14 := ρ 14) (H0 := η 0) (H1 := η 1) (H2 := η 2) (H3 := η 3) (H4 := η 4) (H5 := η 5) f32 f31 f30 f29 f28 f27 f26 f25 f24 f23 f22 f21 f20 f19 f18 f17 f16 f15 f14 f13 f12 f11 f10 f9 f8 f7 f6 f5 f4 f3 f2 f1 f0
theorem q_304_36 {q0 : Nat} {n0 n1 n2 n3 n4 n5 n6 n7 n8 n9 n10 n11 : Int} {H0 H1 : gH} (f0 : n0 ≤ 255) (f1 : 0 ≤ n0) (f2 : n1 ≤ 255) (f3 : (-2) ≤ n1) (f4 : n2 ≤ 8) (f5 : 0 ≤ n2) (f6 : n3 ≤ 23) (f7 : 0 ≤ n3) (f8 : n4 ≤ 2147483647) (f9 : (-2147483648) ≤ n4) (f10 : n5 = 285) (f11 : n6 ≤ 2147483647) (f12 : (-2147483648) ≤ n6) (f13 : n7 = 285) (f14 : (hLe T0 H0 H1 ∧ hFr s_304.2.2.2.2 H0 H1 ∧ hWt T0 H1) ∧ (Ab_304_134 n7 n6 n5 n4 n3 n2 n1 n0 H0 H1 ∧ preb_304 n7 n6 H0) ∧ some q0 = some (mub_304_134 n7 n6 n5 n4 n3 n2 n1 n0 H0 H1)) (f15 : n8 = o32 (fun x y => x ^^^ y) n0 n1) (f16 : n9 = (-2)) (f17 : n1 ≠ n9) (f18 : n10 = o32 (fun x y => x &&& y) n0 n8) (f19 : n11 = w32 (n0 + 1)) : 0 ≤ n11 := by
  have g4 := f14.2.1.1
  unfold Ab_304_134 at g4
  have g3 := f14.2.1.2
  unfold preb_304 at g3
  have e1 : hV H1 285 18 = hV H0 285 18 := (f14.1.2.1.1 285 18 kF_304_285_18)
  have e2 : (0 : Int) ≤ hV H0 285 18 ∧ hV H0 285 18 ≤ 8 := bTo e1 (f14.1.2.2 285 18 _ _ kW_285_18)
  have k0 := g4.1
  have y0 := g4.2.1
  have y1 := g4.2.2
  have p0 := g3.1
  have p1 := g3.2
  try simp only [e1] at y1
  clear g3
  clear g4
  clear e1
  clear f14
  first
  | (have ix0 : n11 = n0 + 1 := Eq.trans f19 (w32_iv (Iad (Iat f1 f0) (IC 1)) (by decide)); subst ix0; clear f19)
  | (have ix0 : n11 = n0 + 1 := Eq.trans f19 (w32_id (by omega) (by omega)); subst ix0; clear f19)
  | (unfold w32 at f19; have ix0 : n11 = n0 + 1 := (by omega); subst ix0)
  | skip
  try unfold w32 at f19
  try subst k0
  omega
def g_304_134_6 : vG := ([(10, [17, 7], [], 1), (4, [14, 7, 8], [], 0), (41, [6, 9], [], 0), (0, [9], [], -2), (6, [8, 7, 6], [], 0), (5000, [0, 1, 2, 3, 4, 5, 6, 7], [0, 1], 134), (0, [0], [], 285), (90, [1], [], -2147483648), (91, [1], [], 2147483647), (0, [2], [], 285), (90, [3], [], -2147483648), (91, [3], [], 2147483647), (90, [4], [], 0), (91, [4], [], 23), (90, [5], [], 0), (91, [5], [], 8), (90, [6], [], -2), (91, [6], [], 255), (90, [7], [], 0), (91, [7], [], 255)], (90, [17], [], 0))
theorem c_304_134_6 {q0 : Nat} : vOkm T0 (eP e_304 L_304 A_304 mu_304 (some q0)) 2 g_304_134_6 := vOk_inI fun ρ η f0 f1 f2 f3 f4 f5 f6 f7 f8 f9 f10 f11 f12 f13 f14 f15 f16 f17 f18 f19 => q_304_36 (q0 := q0) (n0 := ρ 7) (n1 := ρ 6) (n2 := ρ 5) (n3 := ρ 4) (n4 := ρ 3) (n5 := ρ 2) (n6 := ρ 1) (n7 := ρ 0) (n8 := ρ 8) (n9 := ρ 9) (n10 := ρ 14) (n11 := ρ 17) (H0 := η 0) (H1 := η 1) f19 f18 f17 f16 f15 f14 f13 f12 f11 f10 f9 f8 f7 f6 f5 f4 f3 f2 f1 f0
theorem q_304_37 {q0 : Nat} {n0 n1 n2 n3 n4 n5 n6 n7 n8 n9 n10 n11 : Int} {H0 H1 : gH} (f0 : n0 ≤ 255) (f1 : 0 ≤ n0) (f2 : n1 ≤ 255) (f3 : (-2) ≤ n1) (f4 : n2 ≤ 8) (f5 : 0 ≤ n2) (f6 : n3 ≤ 23) (f7 : 0 ≤ n3) (f8 : n4 ≤ 2147483647) (f9 : (-2147483648) ≤ n4) (f10 : n5 = 285) (f11 : n6 ≤ 2147483647) (f12 : (-2147483648) ≤ n6) (f13 : n7 = 285) (f14 : (hLe T0 H0 H1 ∧ hFr s_304.2.2.2.2 H0 H1 ∧ hWt T0 H1) ∧ (Ab_304_134 n7 n6 n5 n4 n3 n2 n1 n0 H0 H1 ∧ preb_304 n7 n6 H0) ∧ some q0 = some (mub_304_134 n7 n6 n5 n4 n3 n2 n1 n0 H0 H1)) (f15 : n8 = o32 (fun x y => x ^^^ y) n0 n1) (f16 : n9 = (-2)) (f17 : n1 ≠ n9) (f18 : n10 = o32 (fun x y => x &&& y) n0 n8) (f19 : n11 = w32 (n0 + 1)) : n11 ≤ 256 := by
  have g4 := f14.2.1.1
  unfold Ab_304_134 at g4
  have g3 := f14.2.1.2
  unfold preb_304 at g3
  have e1 : hV H1 285 18 = hV H0 285 18 := (f14.1.2.1.1 285 18 kF_304_285_18)
  have e2 : (0 : Int) ≤ hV H0 285 18 ∧ hV H0 285 18 ≤ 8 := bTo e1 (f14.1.2.2 285 18 _ _ kW_285_18)
  have k0 := g4.1
  have y0 := g4.2.1
  have y1 := g4.2.2
  have p0 := g3.1
  have p1 := g3.2
  try simp only [e1] at y1
  clear g3
  clear g4
  clear e1
  clear f14
  first
  | (have ix0 : n11 = n0 + 1 := Eq.trans f19 (w32_iv (Iad (Iat f1 f0) (IC 1)) (by decide)); subst ix0; clear f19)
  | (have ix0 : n11 = n0 + 1 := Eq.trans f19 (w32_id (by omega) (by omega)); subst ix0; clear f19)
  | (unfold w32 at f19; have ix0 : n11 = n0 + 1 := (by omega); subst ix0)
  | skip
  try unfold w32 at f19
  try subst k0
  omega
def g_304_134_7 : vG := ([(10, [17, 7], [], 1), (4, [14, 7, 8], [], 0), (41, [6, 9], [], 0), (0, [9], [], -2), (6, [8, 7, 6], [], 0), (5000, [0, 1, 2, 3, 4, 5, 6, 7], [0, 1], 134), (0, [0], [], 285), (90, [1], [], -2147483648), (91, [1], [], 2147483647), (0, [2], [], 285), (90, [3], [], -2147483648), (91, [3], [], 2147483647), (90, [4], [], 0), (91, [4], [], 23), (90, [5], [], 0), (91, [5], [], 8), (90, [6], [], -2), (91, [6], [], 255), (90, [7], [], 0), (91, [7], [], 255)], (91, [17], [], 256))
theorem c_304_134_7 {q0 : Nat} : vOkm T0 (eP e_304 L_304 A_304 mu_304 (some q0)) 2 g_304_134_7 := vOk_inI fun ρ η f0 f1 f2 f3 f4 f5 f6 f7 f8 f9 f10 f11 f12 f13 f14 f15 f16 f17 f18 f19 => q_304_37 (q0 := q0) (n0 := ρ 7) (n1 := ρ 6) (n2 := ρ 5) (n3 := ρ 4) (n4 := ρ 3) (n5 := ρ 2) (n6 := ρ 1) (n7 := ρ 0) (n8 := ρ 8) (n9 := ρ 9) (n10 := ρ 14) (n11 := ρ 17) (H0 := η 0) (H1 := η 1) f19 f18 f17 f16 f15 f14 f13 f12 f11 f10 f9 f8 f7 f6 f5 f4 f3 f2 f1 f0
theorem q_304_38 {q0 : Nat} {n0 n1 n2 n3 n4 n5 n6 n7 n8 n9 n10 n11 n12 n13 n14 n15 : Int} {H0 H1 H2 H3 H4 H5 : gH} (f0 : n0 ≤ 255) (f1 : 0 ≤ n0) (f2 : n1 ≤ 255) (f3 : (-2) ≤ n1) (f4 : n2 ≤ 8) (f5 : 0 ≤ n2) (f6 : n3 ≤ 23) (f7 : 0 ≤ n3) (f8 : n4 ≤ 2147483647) (f9 : (-2147483648) ≤ n4) (f10 : n5 = 285) (f11 : n6 ≤ 2147483647) (f12 : (-2147483648) ≤ n6) (f13 : n7 = 285) (f14 : (hLe T0 H0 H1 ∧ hFr s_304.2.2.2.2 H0 H1 ∧ hWt T0 H1) ∧ (Ab_304_134 n7 n6 n5 n4 n3 n2 n1 n0 H0 H1 ∧ preb_304 n7 n6 H0) ∧ some q0 = some (mub_304_134 n7 n6 n5 n4 n3 n2 n1 n0 H0 H1)) (f15 : n8 = o32 (fun x y => x ^^^ y) n0 n1) (f16 : n9 = (-2)) (f17 : n1 ≠ n9) (f18 : n10 ≤ 2147483647) (f19 : (-2147483648) ≤ n10) (f20 : (hLe T0 H1 H2 ∧ hFr s_303.2.2.2.2 H1 H2 ∧ ((0 : Int) = 0 → H2.length = H1.length) ∧ hWt T0 H2) ∧ True) (f21 : n11 ≤ 2147483647) (f22 : (-2147483648) ≤ n11) (f23 : (hLe T0 H2 H3 ∧ hFr s_303.2.2.2.2 H2 H3 ∧ ((0 : Int) = 0 → H3.length = H2.length) ∧ hWt T0 H3) ∧ True) (f24 : n10 ≤ n11) (f25 : n12 ≤ 2147483647) (f26 : (-2147483648) ≤ n12) (f27 : (hLe T0 H3 H4 ∧ hFr s_303.2.2.2.2 H3 H4 ∧ ((0 : Int) = 0 → H4.length = H3.length) ∧ hWt T0 H4) ∧ True) (f28 : n13 ≤ 2147483647) (f29 : (-2147483648) ≤ n13) (f30 : (hLe T0 H4 H5 ∧ hFr s_303.2.2.2.2 H4 H5 ∧ ((0 : Int) = 0 → H5.length = H4.length) ∧ hWt T0 H5) ∧ True) (f31 : n12 = n13) (f32 : n14 = o32 (fun x y => x &&& y) n0 n8) (f33 : n15 = w32 (n0 + 1)) : Ab_304_126 n7 n6 n5 n4 n3 n2 n1 n15 H0 H5 ∧ ∀ q, some q0 = some q → mub_304_126 n7 n6 n5 n4 n3 n2 n1 n15 H0 H5 < q := by
  have g4 := f14.2.1.1
  unfold Ab_304_134 at g4
  have g3 := f14.2.1.2
  unfold preb_304 at g3
  have g5 := Option.some.inj f14.2.2
  unfold mub_304_134 at g5
  unfold Ab_304_126
  unfold mub_304_126
  have e1 : hV H1 285 18 = hV H0 285 18 := (f14.1.2.1.1 285 18 kF_304_285_18)
  have e6 : hV H5 285 18 = hV H0 285 18 := ((f30.1.2.1.1 285 18 kF_303_285_18)).trans (((f27.1.2.1.1 285 18 kF_303_285_18)).trans (((f23.1.2.1.1 285 18 kF_303_285_18)).trans (((f20.1.2.1.1 285 18 kF_303_285_18)).trans (f14.1.2.1.1 285 18 kF_304_285_18))))
  have e7 : (0 : Int) ≤ hV H0 285 18 ∧ hV H0 285 18 ≤ 8 := bTo e1 (f14.1.2.2 285 18 _ _ kW_285_18)
  try simp only [e6]
  have k0 := g4.1
  have y0 := g4.2.1
  have y1 := g4.2.2
  have p0 := g3.1
  have p1 := g3.2
  try simp only [e1] at y1
  clear g3
  clear g4
  clear e1 e6
  clear f14 f20 f23 f27 f30
  first
  | (have ix0 : n15 = n0 + 1 := Eq.trans f33 (w32_iv (Iad (Iat f1 f0) (IC 1)) (by decide)); subst ix0; clear f33)
  | (have ix0 : n15 = n0 + 1 := Eq.trans f33 (w32_id (by omega) (by omega)); subst ix0; clear f33)
  | (unfold w32 at f33; have ix0 : n15 = n0 + 1 := (by omega); subst ix0)
  | skip
  try unfold w32 at f33
  try subst k0
  refine ⟨?_, fun q hq => ?_⟩
  · refine ⟨?_, ?_, ?_⟩ <;> first | assumption | omega | trivial
  · have g6 := Option.some.inj hq
    subst g6
    omega
def g_304_134_8 : vG := ([(10, [17, 7], [], 1), (4, [14, 7, 8], [], 0), (40, [12, 13], [], 0), (1303, [13, 6], [4, 5], 0), (90, [13], [], -2147483648), (91, [13], [], 2147483647), (1303, [12, 7], [3, 4], 0), (90, [12], [], -2147483648), (91, [12], [], 2147483647), (45, [10, 11], [], 0), (1303, [11, 6], [2, 3], 0), (90, [11], [], -2147483648), (91, [11], [], 2147483647), (1303, [10, 7], [1, 2], 0), (90, [10], [], -2147483648), (91, [10], [], 2147483647), (41, [6, 9], [], 0), (0, [9], [], -2), (6, [8, 7, 6], [], 0), (5000, [0, 1, 2, 3, 4, 5, 6, 7], [0, 1], 134), (0, [0], [], 285), (90, [1], [], -2147483648), (91, [1], [], 2147483647), (0, [2], [], 285), (90, [3], [], -2147483648), (91, [3], [], 2147483647), (90, [4], [], 0), (91, [4], [], 23), (90, [5], [], 0), (91, [5], [], 8), (90, [6], [], -2), (91, [6], [], 255), (90, [7], [], 0), (91, [7], [], 255)], (4000, [2, 3, 4, 5, 6, 17], [5], 126))
theorem c_304_134_8 {q0 : Nat} : vOkm T0 (eP e_304 L_304 A_304 mu_304 (some q0)) 2 g_304_134_8 := vOk_inI fun ρ η f0 f1 f2 f3 f4 f5 f6 f7 f8 f9 f10 f11 f12 f13 f14 f15 f16 f17 f18 f19 f20 f21 f22 f23 f24 f25 f26 f27 f28 f29 f30 f31 f32 f33 => q_304_38 (q0 := q0) (n0 := ρ 7) (n1 := ρ 6) (n2 := ρ 5) (n3 := ρ 4) (n4 := ρ 3) (n5 := ρ 2) (n6 := ρ 1) (n7 := ρ 0) (n8 := ρ 8) (n9 := ρ 9) (n10 := ρ 10) (n11 := ρ 11) (n12 := ρ 12) (n13 := ρ 13) (n14 := ρ 14) (n15 := ρ 17) (H0 := η 0) (H1 := η 1) (H2 := η 2) (H3 := η 3) (H4 := η 4) (H5 := η 5) f33 f32 f31 f30 f29 f28 f27 f26 f25 f24 f23 f22 f21 f20 f19 f18 f17 f16 f15 f14 f13 f12 f11 f10 f9 f8 f7 f6 f5 f4 f3 f2 f1 f0
def p_304_134 : List vG := [g_304_134_0,
  g_304_134_1,
  g_304_134_2,
  g_304_134_3,
  g_304_134_4,
  g_304_134_5,
  g_304_134_6,
  g_304_134_7,
  g_304_134_8]
theorem r_304_134 : vCovO true (eRc e_304 L_304 cs_304 2000 (134, [(0, (3, 12, 285, 0)), (1, (0, -2147483648, 2147483647, 0)), (2, (0, 0, 23, 0)), (3, (0, 0, 8, 0)), (4, (0, -2, 255, 0)), (5, (0, 0, 255, 0))])) p_304_134 = true := by decide +kernel
theorem q_304_39 {q0 : Nat} {n0 n1 n2 n3 n4 n5 n6 n7 n8 : Int} {H0 H1 : gH} (f0 : n0 ≤ 2147483647) (f1 : (-2147483648) ≤ n0) (f2 : n1 ≤ 255) (f3 : 0 ≤ n1) (f4 : n2 ≤ 255) (f5 : (-2) ≤ n2) (f6 : n3 ≤ 8) (f7 : 0 ≤ n3) (f8 : n4 ≤ 23) (f9 : 0 ≤ n4) (f10 : n5 ≤ 2147483647) (f11 : (-2147483648) ≤ n5) (f12 : n6 = 285) (f13 : n7 ≤ 2147483647) (f14 : (-2147483648) ≤ n7) (f15 : n8 = 285) (f16 : (hLe T0 H0 H1 ∧ hFr s_304.2.2.2.2 H0 H1 ∧ hWt T0 H1) ∧ (Ab_304_189 n8 n7 n6 n5 n4 n3 n2 n1 n0 H0 H1 ∧ preb_304 n8 n7 H0) ∧ some q0 = some (mub_304_189 n8 n7 n6 n5 n4 n3 n2 n1 n0 H0 H1)) : 0 ≤ n5 := by
  have g4 := f16.2.1.1
  unfold Ab_304_189 at g4
  have g3 := f16.2.1.2
  unfold preb_304 at g3
  have e1 : hV H1 285 18 = hV H0 285 18 := (f16.1.2.1.1 285 18 kF_304_285_18)
  have e2 : (0 : Int) ≤ hV H0 285 18 ∧ hV H0 285 18 ≤ 8 := bTo e1 (f16.1.2.2 285 18 _ _ kW_285_18)
  have k0 := g4.1
  have y0 := g4.2.1
  have y1 := g4.2.2
  have p0 := g3.1
  have p1 := g3.2
  try simp only [e1] at y1
  clear g3
  clear g4
  clear e1
  clear f16
  try subst k0
  omega
def g_304_189_0 : vG := ([(5000, [0, 1, 2, 3, 4, 5, 6, 7, 8], [0, 1], 189), (0, [0], [], 285), (90, [1], [], -2147483648), (91, [1], [], 2147483647), (0, [2], [], 285), (90, [3], [], -2147483648), (91, [3], [], 2147483647), (90, [4], [], 0), (91, [4], [], 23), (90, [5], [], 0), (91, [5], [], 8), (90, [6], [], -2), (91, [6], [], 255), (90, [7], [], 0), (91, [7], [], 255), (90, [8], [], -2147483648), (91, [8], [], 2147483647)], (90, [3], [], 0))
theorem c_304_189_0 {q0 : Nat} : vOkm T0 (eP e_304 L_304 A_304 mu_304 (some q0)) 2 g_304_189_0 := vOk_inI fun ρ η f0 f1 f2 f3 f4 f5 f6 f7 f8 f9 f10 f11 f12 f13 f14 f15 f16 => q_304_39 (q0 := q0) (n0 := ρ 8) (n1 := ρ 7) (n2 := ρ 6) (n3 := ρ 5) (n4 := ρ 4) (n5 := ρ 3) (n6 := ρ 2) (n7 := ρ 1) (n8 := ρ 0) (H0 := η 0) (H1 := η 1) f16 f15 f14 f13 f12 f11 f10 f9 f8 f7 f6 f5 f4 f3 f2 f1 f0
theorem q_304_40 {q0 : Nat} {n0 n1 n2 n3 n4 n5 n6 n7 n8 : Int} {H0 H1 : gH} (f0 : n0 ≤ 2147483647) (f1 : (-2147483648) ≤ n0) (f2 : n1 ≤ 255) (f3 : 0 ≤ n1) (f4 : n2 ≤ 255) (f5 : (-2) ≤ n2) (f6 : n3 ≤ 8) (f7 : 0 ≤ n3) (f8 : n4 ≤ 23) (f9 : 0 ≤ n4) (f10 : n5 ≤ 2147483647) (f11 : (-2147483648) ≤ n5) (f12 : n6 = 285) (f13 : n7 ≤ 2147483647) (f14 : (-2147483648) ≤ n7) (f15 : n8 = 285) (f16 : (hLe T0 H0 H1 ∧ hFr s_304.2.2.2.2 H0 H1 ∧ hWt T0 H1) ∧ (Ab_304_189 n8 n7 n6 n5 n4 n3 n2 n1 n0 H0 H1 ∧ preb_304 n8 n7 H0) ∧ some q0 = some (mub_304_189 n8 n7 n6 n5 n4 n3 n2 n1 n0 H0 H1)) : n5 ≤ 7 := by
  have g4 := f16.2.1.1
  unfold Ab_304_189 at g4
  have g3 := f16.2.1.2
  unfold preb_304 at g3
  have e1 : hV H1 285 18 = hV H0 285 18 := (f16.1.2.1.1 285 18 kF_304_285_18)
  have e2 : (0 : Int) ≤ hV H0 285 18 ∧ hV H0 285 18 ≤ 8 := bTo e1 (f16.1.2.2 285 18 _ _ kW_285_18)
  have k0 := g4.1
  have y0 := g4.2.1
  have y1 := g4.2.2
  have p0 := g3.1
  have p1 := g3.2
  try simp only [e1] at y1
  clear g3
  clear g4
  clear e1
  clear f16
  try subst k0
  omega
def g_304_189_1 : vG := ([(5000, [0, 1, 2, 3, 4, 5, 6, 7, 8], [0, 1], 189), (0, [0], [], 285), (90, [1], [], -2147483648), (91, [1], [], 2147483647), (0, [2], [], 285), (90, [3], [], -2147483648), (91, [3], [], 2147483647), (90, [4], [], 0), (91, [4], [], 23), (90, [5], [], 0), (91, [5], [], 8), (90, [6], [], -2), (91, [6], [], 255), (90, [7], [], 0), (91, [7], [], 255), (90, [8], [], -2147483648), (91, [8], [], 2147483647)], (91, [3], [], 7))
theorem c_304_189_1 {q0 : Nat} : vOkm T0 (eP e_304 L_304 A_304 mu_304 (some q0)) 2 g_304_189_1 := vOk_inI fun ρ η f0 f1 f2 f3 f4 f5 f6 f7 f8 f9 f10 f11 f12 f13 f14 f15 f16 => q_304_40 (q0 := q0) (n0 := ρ 8) (n1 := ρ 7) (n2 := ρ 6) (n3 := ρ 5) (n4 := ρ 4) (n5 := ρ 3) (n6 := ρ 2) (n7 := ρ 1) (n8 := ρ 0) (H0 := η 0) (H1 := η 1) f16 f15 f14 f13 f12 f11 f10 f9 f8 f7 f6 f5 f4 f3 f2 f1 f0
theorem q_304_41 {q0 : Nat} {n0 n1 n2 n3 n4 n5 n6 n7 n8 n9 : Int} {H0 H1 H2 : gH} (f0 : n0 ≤ 2147483647) (f1 : (-2147483648) ≤ n0) (f2 : n1 ≤ 255) (f3 : 0 ≤ n1) (f4 : n2 ≤ 255) (f5 : (-2) ≤ n2) (f6 : n3 ≤ 8) (f7 : 0 ≤ n3) (f8 : n4 ≤ 23) (f9 : 0 ≤ n4) (f10 : n5 ≤ 2147483647) (f11 : (-2147483648) ≤ n5) (f12 : n6 = 285) (f13 : n7 ≤ 2147483647) (f14 : (-2147483648) ≤ n7) (f15 : n8 = 285) (f16 : (hLe T0 H0 H1 ∧ hFr s_304.2.2.2.2 H0 H1 ∧ hWt T0 H1) ∧ (Ab_304_189 n8 n7 n6 n5 n4 n3 n2 n1 n0 H0 H1 ∧ preb_304 n8 n7 H0) ∧ some q0 = some (mub_304_189 n8 n7 n6 n5 n4 n3 n2 n1 n0 H0 H1)) (f17 : n9 = 94) (f18 : hUpd H2 H1 n6 n9 n1) : preb_274 n6 n5 H2 := by
  have g4 := f16.2.1.1
  unfold Ab_304_189 at g4
  have g3 := f16.2.1.2
  unfold preb_304 at g3
  unfold preb_274
  have e1 : hV H1 285 18 = hV H0 285 18 := (f16.1.2.1.1 285 18 kF_304_285_18)
  have e3 : hV H2 285 18 = hV H0 285 18 := ((uSlot f18 285 18 (iS (show n9 = ((94 : Nat) : Int) from f17) rfl))).trans (f16.1.2.1.1 285 18 kF_304_285_18)
  have e4 : PG H1 = PG H0 := PG_fr f16.1.2.1 (by decide +kernel)
  have e5 : PG H2 = PG H1 := PG_upF f18 f12 (show n9 = ((94 : Nat) : Int) from f17) (by decide)
  have e6 : PG H2 = PG H0 := e5.trans e4
  have e7 : SO H1 = SO H0 := SO_fr f16.1.2.1 (by decide +kernel)
  have e8 : SO H2 = SO H1 := SO_upF f18 f12 (show n9 = ((94 : Nat) : Int) from f17) (by decide)
  have e9 : SO H2 = SO H0 := e8.trans e7
  have e10 : (0 : Int) ≤ hV H0 285 18 ∧ hV H0 285 18 ≤ 8 := bTo e1 (f16.1.2.2 285 18 _ _ kW_285_18)
  try simp only [e3, e6, e9]
  have k0 := g4.1
  have y0 := g4.2.1
  have y1 := g4.2.2
  have p0 := g3.1
  have p1 := g3.2
  try simp only [e1] at y1
  clear g3
  clear g4
  clear e1 e3 e4 e5 e6 e7 e8 e9
  clear f16
  try subst k0
  refine ⟨?_, ?_, ?_⟩ <;> first | assumption | omega | trivial
def g_304_189_2 : vG := ([(80, [2, 9, 7], [2, 1], 0), (0, [9], [], 94), (5000, [0, 1, 2, 3, 4, 5, 6, 7, 8], [0, 1], 189), (0, [0], [], 285), (90, [1], [], -2147483648), (91, [1], [], 2147483647), (0, [2], [], 285), (90, [3], [], -2147483648), (91, [3], [], 2147483647), (90, [4], [], 0), (91, [4], [], 23), (90, [5], [], 0), (91, [5], [], 8), (90, [6], [], -2), (91, [6], [], 255), (90, [7], [], 0), (91, [7], [], 255), (90, [8], [], -2147483648), (91, [8], [], 2147483647)], (2274, [2, 3], [2], 0))
theorem c_304_189_2 {q0 : Nat} : vOkm T0 (eP e_304 L_304 A_304 mu_304 (some q0)) 2 g_304_189_2 := vOk_inI fun ρ η f0 f1 f2 f3 f4 f5 f6 f7 f8 f9 f10 f11 f12 f13 f14 f15 f16 f17 f18 => q_304_41 (q0 := q0) (n0 := ρ 8) (n1 := ρ 7) (n2 := ρ 6) (n3 := ρ 5) (n4 := ρ 4) (n5 := ρ 3) (n6 := ρ 2) (n7 := ρ 1) (n8 := ρ 0) (n9 := ρ 9) (H0 := η 0) (H1 := η 1) (H2 := η 2) f18 f17 f16 f15 f14 f13 f12 f11 f10 f9 f8 f7 f6 f5 f4 f3 f2 f1 f0
theorem q_304_42 {q0 : Nat} {n0 n1 n2 n3 n4 n5 n6 n7 n8 n9 n10 n11 n12 : Int} {H0 H1 H2 H3 H4 : gH} (f0 : n0 ≤ 2147483647) (f1 : (-2147483648) ≤ n0) (f2 : n1 ≤ 255) (f3 : 0 ≤ n1) (f4 : n2 ≤ 255) (f5 : (-2) ≤ n2) (f6 : n3 ≤ 8) (f7 : 0 ≤ n3) (f8 : n4 ≤ 23) (f9 : 0 ≤ n4) (f10 : n5 ≤ 2147483647) (f11 : (-2147483648) ≤ n5) (f12 : n6 = 285) (f13 : n7 ≤ 2147483647) (f14 : (-2147483648) ≤ n7) (f15 : n8 = 285) (f16 : (hLe T0 H0 H1 ∧ hFr s_304.2.2.2.2 H0 H1 ∧ hWt T0 H1) ∧ (Ab_304_189 n8 n7 n6 n5 n4 n3 n2 n1 n0 H0 H1 ∧ preb_304 n8 n7 H0) ∧ some q0 = some (mub_304_189 n8 n7 n6 n5 n4 n3 n2 n1 n0 H0 H1)) (f17 : n9 = 94) (f18 : hUpd H2 H1 n6 n9 n1) (f19 : (hLe T0 H2 H3 ∧ hFr s_274.2.2.2.2 H2 H3 ∧ ((0 : Int) = 0 → H3.length = H2.length) ∧ hWt T0 H3) ∧ postb_274 n6 n5 H2 H3) (f20 : n10 = 0) (f21 : n11 = 94) (f22 : hUpd H4 H3 n6 n11 n10) (f23 : n12 = 0) : Ab_304_208 n8 n7 n6 n5 n4 n3 n2 n1 n0 n12 H0 H4 ∧ ∀ q, some q0 = some q → mub_304_208 n8 n7 n6 n5 n4 n3 n2 n1 n0 n12 H0 H4 < q := by
  have g4 := f16.2.1.1
  unfold Ab_304_189 at g4
  have g3 := f16.2.1.2
  unfold preb_304 at g3
  have g5 := Option.some.inj f16.2.2
  unfold mub_304_189 at g5
  unfold postb_274 at f19
  unfold Ab_304_208
  unfold mub_304_208
  have e1 : hV H1 285 18 = hV H0 285 18 := (f16.1.2.1.1 285 18 kF_304_285_18)
  have e5 : hV H4 285 18 = hV H0 285 18 := ((uSlot f22 285 18 (iS (show n11 = ((94 : Nat) : Int) from f21) rfl))).trans (((f19.1.2.1.1 285 18 kF_274_285_18)).trans (((uSlot f18 285 18 (iS (show n9 = ((94 : Nat) : Int) from f17) rfl))).trans (f16.1.2.1.1 285 18 kF_304_285_18)))
  have e6 : (0 : Int) ≤ hV H0 285 18 ∧ hV H0 285 18 ≤ 8 := bTo e1 (f16.1.2.2 285 18 _ _ kW_285_18)
  try simp only [e5]
  have k0 := g4.1
  have y0 := g4.2.1
  have y1 := g4.2.2
  have p0 := g3.1
  have p1 := g3.2
  have r0_0 := f19.2
  try simp only [e1] at y1
  clear g3
  clear g4
  clear e1 e5
  clear f16 f19
  try subst k0
  refine ⟨?_, fun q hq => ?_⟩
  · refine ⟨?_, ?_, ?_⟩ <;> first | assumption | omega | trivial
  · have g6 := Option.some.inj hq
    subst g6
    omega
def g_304_189_3 : vG := ([(0, [12], [], 0), (80, [2, 11, 10], [4, 3], 0), (0, [11], [], 94), (0, [10], [], 0), (1274, [2, 3], [2, 3], 0), (80, [2, 9, 7], [2, 1], 0), (0, [9], [], 94), (5000, [0, 1, 2, 3, 4, 5, 6, 7, 8], [0, 1], 189), (0, [0], [], 285), (90, [1], [], -2147483648), (91, [1], [], 2147483647), (0, [2], [], 285), (90, [3], [], -2147483648), (91, [3], [], 2147483647), (90, [4], [], 0), (91, [4], [], 23), (90, [5], [], 0), (91, [5], [], 8), (90, [6], [], -2), (91, [6], [], 255), (90, [7], [], 0), (91, [7], [], 255), (90, [8], [], -2147483648), (91, [8], [], 2147483647)], (4000, [2, 3, 4, 5, 6, 7, 8, 12], [4], 208))
theorem c_304_189_3 {q0 : Nat} : vOkm T0 (eP e_304 L_304 A_304 mu_304 (some q0)) 2 g_304_189_3 := vOk_inI fun ρ η f0 f1 f2 f3 f4 f5 f6 f7 f8 f9 f10 f11 f12 f13 f14 f15 f16 f17 f18 f19 f20 f21 f22 f23 => q_304_42 (q0 := q0) (n0 := ρ 8) (n1 := ρ 7) (n2 := ρ 6) (n3 := ρ 5) (n4 := ρ 4) (n5 := ρ 3) (n6 := ρ 2) (n7 := ρ 1) (n8 := ρ 0) (n9 := ρ 9) (n10 := ρ 10) (n11 := ρ 11) (n12 := ρ 12) (H0 := η 0) (H1 := η 1) (H2 := η 2) (H3 := η 3) (H4 := η 4) f23 f22 f21 f20 f19 f18 f17 f16 f15 f14 f13 f12 f11 f10 f9 f8 f7 f6 f5 f4 f3 f2 f1 f0
def p_304_189 : List vG := [g_304_189_0,
  g_304_189_1,
  g_304_189_2,
  g_304_189_3]
theorem r_304_189 : vCovO true (eRc e_304 L_304 cs_304 2000 (189, [(0, (3, 12, 285, 0)), (1, (0, -2147483648, 2147483647, 0)), (2, (0, 0, 23, 0)), (3, (0, 0, 8, 0)), (4, (0, -2, 255, 0)), (5, (0, 0, 255, 0)), (6, (0, -2147483648, 2147483647, 0))])) p_304_189 = true := by decide +kernel
theorem q_304_43 {q0 : Nat} {n0 n1 n2 n3 n4 n5 n6 n7 n8 n9 n10 n11 n12 : Int} {H0 H1 : gH} (f0 : n0 ≤ 240) (f1 : 0 ≤ n0) (f2 : n1 ≤ 2147483647) (f3 : (-2147483648) ≤ n1) (f4 : n2 ≤ 255) (f5 : 0 ≤ n2) (f6 : n3 ≤ 255) (f7 : (-2) ≤ n3) (f8 : n4 ≤ 8) (f9 : 0 ≤ n4) (f10 : n5 ≤ 23) (f11 : 0 ≤ n5) (f12 : n6 ≤ 2147483647) (f13 : (-2147483648) ≤ n6) (f14 : n7 = 285) (f15 : n8 ≤ 2147483647) (f16 : (-2147483648) ≤ n8) (f17 : n9 = 285) (f18 : (hLe T0 H0 H1 ∧ hFr s_304.2.2.2.2 H0 H1 ∧ hWt T0 H1) ∧ (Ab_304_208 n9 n8 n7 n6 n5 n4 n3 n2 n1 n0 H0 H1 ∧ preb_304 n9 n8 H0) ∧ some q0 = some (mub_304_208 n9 n8 n7 n6 n5 n4 n3 n2 n1 n0 H0 H1)) (f19 : n10 ≤ 240) (f20 : 0 ≤ n10) (f21 : n10 = hV H1 (n7).toNat 93) (f22 : n10 ≤ n0) (f23 : n11 ≤ 240) (f24 : 0 ≤ n11) (f25 : n11 = hV H1 (n7).toNat 93) (f26 : n12 = w32 (n2 + 1)) : 0 ≤ n12 := by
  have g4 := f18.2.1.1
  unfold Ab_304_208 at g4
  have g3 := f18.2.1.2
  unfold preb_304 at g3
  have e0 : n10 = hV H1 285 93 := (by rw [f14] at f21; exact f21 : n10 = hV H1 285 93)
  have e1 : n11 = hV H1 285 93 := (by rw [f14] at f25; exact f25 : n11 = hV H1 285 93)
  have e3 : hV H1 285 18 = hV H0 285 18 := (f18.1.2.1.1 285 18 kF_304_285_18)
  have e4 : (0 : Int) ≤ hV H0 285 18 ∧ hV H0 285 18 ≤ 8 := bTo e3 (f18.1.2.2 285 18 _ _ kW_285_18)
  have k0 := g4.1
  have y0 := g4.2.1
  have y1 := g4.2.2
  have p0 := g3.1
  have p1 := g3.2
  try simp only [e3] at y1
  clear g3
  clear g4
  clear f21 f25 e3
  clear f18
  subst e0
  subst e1
  first
  | (have ix0 : n12 = n2 + 1 := Eq.trans f26 (w32_iv (Iad (Iat f5 f4) (IC 1)) (by decide)); subst ix0; clear f26)
  | (have ix0 : n12 = n2 + 1 := Eq.trans f26 (w32_id (by omega) (by omega)); subst ix0; clear f26)
  | (unfold w32 at f26; have ix0 : n12 = n2 + 1 := (by omega); subst ix0)
  | skip
  try unfold w32 at f26
  try subst k0
  omega
def g_304_208_0 : vG := ([(10, [21, 7], [], 1), (20, [11, 2], [1], 93), (90, [11], [], 0), (91, [11], [], 240), (43, [9, 10], [], 0), (20, [10, 2], [1], 93), (90, [10], [], 0), (91, [10], [], 240), (5000, [0, 1, 2, 3, 4, 5, 6, 7, 8, 9], [0, 1], 208), (0, [0], [], 285), (90, [1], [], -2147483648), (91, [1], [], 2147483647), (0, [2], [], 285), (90, [3], [], -2147483648), (91, [3], [], 2147483647), (90, [4], [], 0), (91, [4], [], 23), (90, [5], [], 0), (91, [5], [], 8), (90, [6], [], -2), (91, [6], [], 255), (90, [7], [], 0), (91, [7], [], 255), (90, [8], [], -2147483648), (91, [8], [], 2147483647), (90, [9], [], 0), (91, [9], [], 240)], (90, [21], [], 0))
theorem c_304_208_0 {q0 : Nat} : vOkm T0 (eP e_304 L_304 A_304 mu_304 (some q0)) 2 g_304_208_0 := vOk_inI fun ρ η f0 f1 f2 f3 f4 f5 f6 f7 f8 f9 f10 f11 f12 f13 f14 f15 f16 f17 f18 f19 f20 f21 f22 f23 f24 f25 f26 => q_304_43 (q0 := q0) (n0 := ρ 9) (n1 := ρ 8) (n2 := ρ 7) (n3 := ρ 6) (n4 := ρ 5) (n5 := ρ 4) (n6 := ρ 3) (n7 := ρ 2) (n8 := ρ 1) (n9 := ρ 0) (n10 := ρ 10) (n11 := ρ 11) (n12 := ρ 21) (H0 := η 0) (H1 := η 1) f26 f25 f24 f23 f22 f21 f20 f19 f18 f17 f16 f15 f14 f13 f12 f11 f10 f9 f8 f7 f6 f5 f4 f3 f2 f1 f0
theorem q_304_44 {q0 : Nat} {n0 n1 n2 n3 n4 n5 n6 n7 n8 n9 n10 n11 n12 : Int} {H0 H1 : gH} (f0 : n0 ≤ 240) (f1 : 0 ≤ n0) (f2 : n1 ≤ 2147483647) (f3 : (-2147483648) ≤ n1) (f4 : n2 ≤ 255) (f5 : 0 ≤ n2) (f6 : n3 ≤ 255) (f7 : (-2) ≤ n3) (f8 : n4 ≤ 8) (f9 : 0 ≤ n4) (f10 : n5 ≤ 23) (f11 : 0 ≤ n5) (f12 : n6 ≤ 2147483647) (f13 : (-2147483648) ≤ n6) (f14 : n7 = 285) (f15 : n8 ≤ 2147483647) (f16 : (-2147483648) ≤ n8) (f17 : n9 = 285) (f18 : (hLe T0 H0 H1 ∧ hFr s_304.2.2.2.2 H0 H1 ∧ hWt T0 H1) ∧ (Ab_304_208 n9 n8 n7 n6 n5 n4 n3 n2 n1 n0 H0 H1 ∧ preb_304 n9 n8 H0) ∧ some q0 = some (mub_304_208 n9 n8 n7 n6 n5 n4 n3 n2 n1 n0 H0 H1)) (f19 : n10 ≤ 240) (f20 : 0 ≤ n10) (f21 : n10 = hV H1 (n7).toNat 93) (f22 : n10 ≤ n0) (f23 : n11 ≤ 240) (f24 : 0 ≤ n11) (f25 : n11 = hV H1 (n7).toNat 93) (f26 : n12 = w32 (n2 + 1)) : n12 ≤ 256 := by
  have g4 := f18.2.1.1
  unfold Ab_304_208 at g4
  have g3 := f18.2.1.2
  unfold preb_304 at g3
  have e0 : n10 = hV H1 285 93 := (by rw [f14] at f21; exact f21 : n10 = hV H1 285 93)
  have e1 : n11 = hV H1 285 93 := (by rw [f14] at f25; exact f25 : n11 = hV H1 285 93)
  have e3 : hV H1 285 18 = hV H0 285 18 := (f18.1.2.1.1 285 18 kF_304_285_18)
  have e4 : (0 : Int) ≤ hV H0 285 18 ∧ hV H0 285 18 ≤ 8 := bTo e3 (f18.1.2.2 285 18 _ _ kW_285_18)
  have k0 := g4.1
  have y0 := g4.2.1
  have y1 := g4.2.2
  have p0 := g3.1
  have p1 := g3.2
  try simp only [e3] at y1
  clear g3
  clear g4
  clear f21 f25 e3
  clear f18
  subst e0
  subst e1
  first
  | (have ix0 : n12 = n2 + 1 := Eq.trans f26 (w32_iv (Iad (Iat f5 f4) (IC 1)) (by decide)); subst ix0; clear f26)
  | (have ix0 : n12 = n2 + 1 := Eq.trans f26 (w32_id (by omega) (by omega)); subst ix0; clear f26)
  | (unfold w32 at f26; have ix0 : n12 = n2 + 1 := (by omega); subst ix0)
  | skip
  try unfold w32 at f26
  try subst k0
  omega
def g_304_208_1 : vG := ([(10, [21, 7], [], 1), (20, [11, 2], [1], 93), (90, [11], [], 0), (91, [11], [], 240), (43, [9, 10], [], 0), (20, [10, 2], [1], 93), (90, [10], [], 0), (91, [10], [], 240), (5000, [0, 1, 2, 3, 4, 5, 6, 7, 8, 9], [0, 1], 208), (0, [0], [], 285), (90, [1], [], -2147483648), (91, [1], [], 2147483647), (0, [2], [], 285), (90, [3], [], -2147483648), (91, [3], [], 2147483647), (90, [4], [], 0), (91, [4], [], 23), (90, [5], [], 0), (91, [5], [], 8), (90, [6], [], -2), (91, [6], [], 255), (90, [7], [], 0), (91, [7], [], 255), (90, [8], [], -2147483648), (91, [8], [], 2147483647), (90, [9], [], 0), (91, [9], [], 240)], (91, [21], [], 256))
theorem c_304_208_1 {q0 : Nat} : vOkm T0 (eP e_304 L_304 A_304 mu_304 (some q0)) 2 g_304_208_1 := vOk_inI fun ρ η f0 f1 f2 f3 f4 f5 f6 f7 f8 f9 f10 f11 f12 f13 f14 f15 f16 f17 f18 f19 f20 f21 f22 f23 f24 f25 f26 => q_304_44 (q0 := q0) (n0 := ρ 9) (n1 := ρ 8) (n2 := ρ 7) (n3 := ρ 6) (n4 := ρ 5) (n5 := ρ 4) (n6 := ρ 3) (n7 := ρ 2) (n8 := ρ 1) (n9 := ρ 0) (n10 := ρ 10) (n11 := ρ 11) (n12 := ρ 21) (H0 := η 0) (H1 := η 1) f26 f25 f24 f23 f22 f21 f20 f19 f18 f17 f16 f15 f14 f13 f12 f11 f10 f9 f8 f7 f6 f5 f4 f3 f2 f1 f0
theorem kR_304_313 : vFreeR s_304.2.2.2.2 313 = true := by decide +kernel
theorem kF_301_285_18 : vFree s_301.2.2.2.2 285 18 = true := by decide +kernel
theorem q_304_45 {q0 : Nat} {n0 n1 n2 n3 n4 n5 n6 n7 n8 n9 n10 n11 n12 n13 n14 n15 : Int} {H0 H1 H2 : gH} (f0 : n0 ≤ 240) (f1 : 0 ≤ n0) (f2 : n1 ≤ 2147483647) (f3 : (-2147483648) ≤ n1) (f4 : n2 ≤ 255) (f5 : 0 ≤ n2) (f6 : n3 ≤ 255) (f7 : (-2) ≤ n3) (f8 : n4 ≤ 8) (f9 : 0 ≤ n4) (f10 : n5 ≤ 23) (f11 : 0 ≤ n5) (f12 : n6 ≤ 2147483647) (f13 : (-2147483648) ≤ n6) (f14 : n7 = 285) (f15 : n8 ≤ 2147483647) (f16 : (-2147483648) ≤ n8) (f17 : n9 = 285) (f18 : (hLe T0 H0 H1 ∧ hFr s_304.2.2.2.2 H0 H1 ∧ hWt T0 H1) ∧ (Ab_304_208 n9 n8 n7 n6 n5 n4 n3 n2 n1 n0 H0 H1 ∧ preb_304 n9 n8 H0) ∧ some q0 = some (mub_304_208 n9 n8 n7 n6 n5 n4 n3 n2 n1 n0 H0 H1)) (f19 : n10 ≤ 240) (f20 : 0 ≤ n10) (f21 : n10 = hV H1 (n7).toNat 93) (f22 : n10 ≤ n0) (f23 : n11 ≤ 240) (f24 : 0 ≤ n11) (f25 : n11 = hV H1 (n7).toNat 93) (f26 : n12 = 313) (f27 : n12 = hV H1 (n7).toNat 43) (f28 : n13 ≤ 9999) (f29 : 0 ≤ n13) (f30 : n13 = hV H1 (n12).toNat (n5).toNat) (f31 : (hLe T0 H1 H2 ∧ hFr s_301.2.2.2.2 H1 H2 ∧ ((0 : Int) = 0 → H2.length = H1.length) ∧ hWt T0 H2) ∧ True) (f32 : n15 = w32 (n2 + 1)) : Ab_304_126 n9 n8 n7 n6 n5 n4 n3 n15 H0 H2 ∧ ∀ q, some q0 = some q → mub_304_126 n9 n8 n7 n6 n5 n4 n3 n15 H0 H2 < q := by
  have g4 := f18.2.1.1
  unfold Ab_304_208 at g4
  have g3 := f18.2.1.2
  unfold preb_304 at g3
  have g5 := Option.some.inj f18.2.2
  unfold mub_304_208 at g5
  unfold Ab_304_126
  unfold mub_304_126
  have e0 : n10 = hV H1 285 93 := (by rw [f14] at f21; exact f21 : n10 = hV H1 285 93)
  have e1 : n11 = hV H1 285 93 := (by rw [f14] at f25; exact f25 : n11 = hV H1 285 93)
  have e3 : n13 = hV H0 313 (n5).toNat := (by rw [f26] at f30; exact f30 : n13 = hV H1 313 (n5).toNat).trans ((congrFun (fRow f18.1.2.1 313 kR_304_313) _))
  have e5 : hV H1 285 18 = hV H0 285 18 := (f18.1.2.1.1 285 18 kF_304_285_18)
  have e7 : hV H2 285 18 = hV H0 285 18 := ((f31.1.2.1.1 285 18 kF_301_285_18)).trans (f18.1.2.1.1 285 18 kF_304_285_18)
  have e8 : (0 : Int) ≤ hV H0 285 18 ∧ hV H0 285 18 ≤ 8 := bTo e5 (f18.1.2.2 285 18 _ _ kW_285_18)
  try simp only [e7]
  have k0 := g4.1
  have y0 := g4.2.1
  have y1 := g4.2.2
  have p0 := g3.1
  have p1 := g3.2
  try simp only [e5] at y1
  clear g3
  clear g4
  clear f21 f25 f27 f30 e5 e7
  clear f18 f31
  subst e0
  subst e1
  subst e3
  first
  | (have ix0 : n15 = n2 + 1 := Eq.trans f32 (w32_iv (Iad (Iat f5 f4) (IC 1)) (by decide)); subst ix0; clear f32)
  | (have ix0 : n15 = n2 + 1 := Eq.trans f32 (w32_id (by omega) (by omega)); subst ix0; clear f32)
  | (unfold w32 at f32; have ix0 : n15 = n2 + 1 := (by omega); subst ix0)
  | skip
  try unfold w32 at f32
  try subst k0
  refine ⟨?_, fun q hq => ?_⟩
  · refine ⟨?_, ?_, ?_⟩ <;> first | assumption | omega | trivial
  · have g6 := Option.some.inj hq
    subst g6
    omega
def g_304_208_2 : vG := ([(10, [21, 7], [], 1), (1301, [14, 2, 11, 13], [1, 2], 0), (22, [13, 12, 4], [1], 0), (90, [13], [], 0), (91, [13], [], 9999), (20, [12, 2], [1], 43), (0, [12], [], 313), (20, [11, 2], [1], 93), (90, [11], [], 0), (91, [11], [], 240), (43, [9, 10], [], 0), (20, [10, 2], [1], 93), (90, [10], [], 0), (91, [10], [], 240), (5000, [0, 1, 2, 3, 4, 5, 6, 7, 8, 9], [0, 1], 208), (0, [0], [], 285), (90, [1], [], -2147483648), (91, [1], [], 2147483647), (0, [2], [], 285), (90, [3], [], -2147483648), (91, [3], [], 2147483647), (90, [4], [], 0), (91, [4], [], 23), (90, [5], [], 0), (91, [5], [], 8), (90, [6], [], -2), (91, [6], [], 255), (90, [7], [], 0), (91, [7], [], 255), (90, [8], [], -2147483648), (91, [8], [], 2147483647), (90, [9], [], 0), (91, [9], [], 240)], (4000, [2, 3, 4, 5, 6, 21], [2], 126))
theorem c_304_208_2 {q0 : Nat} : vOkm T0 (eP e_304 L_304 A_304 mu_304 (some q0)) 2 g_304_208_2 := vOk_inI fun ρ η f0 f1 f2 f3 f4 f5 f6 f7 f8 f9 f10 f11 f12 f13 f14 f15 f16 f17 f18 f19 f20 f21 f22 f23 f24 f25 f26 f27 f28 f29 f30 f31 f32 => q_304_45 (q0 := q0) (n0 := ρ 9) (n1 := ρ 8) (n2 := ρ 7) (n3 := ρ 6) (n4 := ρ 5) (n5 := ρ 4) (n6 := ρ 3) (n7 := ρ 2) (n8 := ρ 1) (n9 := ρ 0) (n10 := ρ 10) (n11 := ρ 11) (n12 := ρ 12) (n13 := ρ 13) (n14 := ρ 14) (n15 := ρ 21) (H0 := η 0) (H1 := η 1) (H2 := η 2) f32 f31 f30 f29 f28 f27 f26 f25 f24 f23 f22 f21 f20 f19 f18 f17 f16 f15 f14 f13 f12 f11 f10 f9 f8 f7 f6 f5 f4 f3 f2 f1 f0
def g_304_208_3 : vG := ([(10, [21, 7], [], 1), (20, [11, 2], [1], 93), (90, [11], [], 0), (91, [11], [], 240), (43, [9, 10], [], 0), (20, [10, 2], [1], 93), (90, [10], [], 0), (91, [10], [], 240), (5000, [0, 1, 2, 3, 4, 5, 6, 7, 8, 9], [0, 1], 208), (0, [0], [], 285), (90, [1], [], -2147483648), (91, [1], [], 2147483647), (0, [2], [], 285), (90, [3], [], -2147483648), (91, [3], [], 2147483647), (90, [4], [], 0), (91, [4], [], 23), (90, [5], [], 0), (91, [5], [], 8), (90, [6], [], -2), (91, [6], [], 255), (90, [7], [], 0), (91, [7], [], 255), (90, [8], [], -2147483648), (91, [8], [], 2147483647), (90, [9], [], 0), (91, [9], [], 240)], (90, [21], [], 0))
theorem c_304_208_3 {q0 : Nat} : vOkm T0 (eP e_304 L_304 A_304 mu_304 (some q0)) 2 g_304_208_3 := vOk_inI fun ρ η f0 f1 f2 f3 f4 f5 f6 f7 f8 f9 f10 f11 f12 f13 f14 f15 f16 f17 f18 f19 f20 f21 f22 f23 f24 f25 f26 => q_304_43 (q0 := q0) (n0 := ρ 9) (n1 := ρ 8) (n2 := ρ 7) (n3 := ρ 6) (n4 := ρ 5) (n5 := ρ 4) (n6 := ρ 3) (n7 := ρ 2) (n8 := ρ 1) (n9 := ρ 0) (n10 := ρ 10) (n11 := ρ 11) (n12 := ρ 21) (H0 := η 0) (H1 := η 1) f26 f25 f24 f23 f22 f21 f20 f19 f18 f17 f16 f15 f14 f13 f12 f11 f10 f9 f8 f7 f6 f5 f4 f3 f2 f1 f0
def g_304_208_4 : vG := ([(10, [21, 7], [], 1), (20, [11, 2], [1], 93), (90, [11], [], 0), (91, [11], [], 240), (43, [9, 10], [], 0), (20, [10, 2], [1], 93), (90, [10], [], 0), (91, [10], [], 240), (5000, [0, 1, 2, 3, 4, 5, 6, 7, 8, 9], [0, 1], 208), (0, [0], [], 285), (90, [1], [], -2147483648), (91, [1], [], 2147483647), (0, [2], [], 285), (90, [3], [], -2147483648), (91, [3], [], 2147483647), (90, [4], [], 0), (91, [4], [], 23), (90, [5], [], 0), (91, [5], [], 8), (90, [6], [], -2), (91, [6], [], 255), (90, [7], [], 0), (91, [7], [], 255), (90, [8], [], -2147483648), (91, [8], [], 2147483647), (90, [9], [], 0), (91, [9], [], 240)], (91, [21], [], 256))
theorem c_304_208_4 {q0 : Nat} : vOkm T0 (eP e_304 L_304 A_304 mu_304 (some q0)) 2 g_304_208_4 := vOk_inI fun ρ η f0 f1 f2 f3 f4 f5 f6 f7 f8 f9 f10 f11 f12 f13 f14 f15 f16 f17 f18 f19 f20 f21 f22 f23 f24 f25 f26 => q_304_44 (q0 := q0) (n0 := ρ 9) (n1 := ρ 8) (n2 := ρ 7) (n3 := ρ 6) (n4 := ρ 5) (n5 := ρ 4) (n6 := ρ 3) (n7 := ρ 2) (n8 := ρ 1) (n9 := ρ 0) (n10 := ρ 10) (n11 := ρ 11) (n12 := ρ 21) (H0 := η 0) (H1 := η 1) f26 f25 f24 f23 f22 f21 f20 f19 f18 f17 f16 f15 f14 f13 f12 f11 f10 f9 f8 f7 f6 f5 f4 f3 f2 f1 f0
theorem q_304_46 {q0 : Nat} {n0 n1 n2 n3 n4 n5 n6 n7 n8 n9 n10 n11 n12 n13 n14 n15 : Int} {H0 H1 H2 : gH} (f0 : n0 ≤ 240) (f1 : 0 ≤ n0) (f2 : n1 ≤ 2147483647) (f3 : (-2147483648) ≤ n1) (f4 : n2 ≤ 255) (f5 : 0 ≤ n2) (f6 : n3 ≤ 255) (f7 : (-2) ≤ n3) (f8 : n4 ≤ 8) (f9 : 0 ≤ n4) (f10 : n5 ≤ 23) (f11 : 0 ≤ n5) (f12 : n6 ≤ 2147483647) (f13 : (-2147483648) ≤ n6) (f14 : n7 = 285) (f15 : n8 ≤ 2147483647) (f16 : (-2147483648) ≤ n8) (f17 : n9 = 285) (f18 : (hLe T0 H0 H1 ∧ hFr s_304.2.2.2.2 H0 H1 ∧ hWt T0 H1) ∧ (Ab_304_208 n9 n8 n7 n6 n5 n4 n3 n2 n1 n0 H0 H1 ∧ preb_304 n9 n8 H0) ∧ some q0 = some (mub_304_208 n9 n8 n7 n6 n5 n4 n3 n2 n1 n0 H0 H1)) (f19 : n10 ≤ 240) (f20 : 0 ≤ n10) (f21 : n10 = hV H1 (n7).toNat 93) (f22 : n10 ≤ n0) (f23 : n11 ≤ 240) (f24 : 0 ≤ n11) (f25 : n11 = hV H1 (n7).toNat 93) (f26 : n12 = 313) (f27 : n12 = hV H1 (n7).toNat 43) (f28 : n13 ≤ 9999) (f29 : 0 ≤ n13) (f30 : n13 = hV H1 (n12).toNat (n5).toNat) (f31 : (hLe T0 H1 H2 ∧ hFr s_301.2.2.2.2 H1 H2 ∧ ((0 : Int) = 0 → H2.length = H1.length) ∧ hWt T0 H2) ∧ True) (f32 : n15 = w32 (n2 + 1)) : Ab_304_126 n9 n8 n7 n6 n5 n4 n2 n15 H0 H2 ∧ ∀ q, some q0 = some q → mub_304_126 n9 n8 n7 n6 n5 n4 n2 n15 H0 H2 < q := by
  have g4 := f18.2.1.1
  unfold Ab_304_208 at g4
  have g3 := f18.2.1.2
  unfold preb_304 at g3
  have g5 := Option.some.inj f18.2.2
  unfold mub_304_208 at g5
  unfold Ab_304_126
  unfold mub_304_126
  have e0 : n10 = hV H1 285 93 := (by rw [f14] at f21; exact f21 : n10 = hV H1 285 93)
  have e1 : n11 = hV H1 285 93 := (by rw [f14] at f25; exact f25 : n11 = hV H1 285 93)
  have e3 : n13 = hV H0 313 (n5).toNat := (by rw [f26] at f30; exact f30 : n13 = hV H1 313 (n5).toNat).trans ((congrFun (fRow f18.1.2.1 313 kR_304_313) _))
  have e5 : hV H1 285 18 = hV H0 285 18 := (f18.1.2.1.1 285 18 kF_304_285_18)
  have e7 : hV H2 285 18 = hV H0 285 18 := ((f31.1.2.1.1 285 18 kF_301_285_18)).trans (f18.1.2.1.1 285 18 kF_304_285_18)
  have e8 : (0 : Int) ≤ hV H0 285 18 ∧ hV H0 285 18 ≤ 8 := bTo e5 (f18.1.2.2 285 18 _ _ kW_285_18)
  try simp only [e7]
  have k0 := g4.1
  have y0 := g4.2.1
  have y1 := g4.2.2
  have p0 := g3.1
  have p1 := g3.2
  try simp only [e5] at y1
  clear g3
  clear g4
  clear f21 f25 f27 f30 e5 e7
  clear f18 f31
  subst e0
  subst e1
  subst e3
  first
  | (have ix0 : n15 = n2 + 1 := Eq.trans f32 (w32_iv (Iad (Iat f5 f4) (IC 1)) (by decide)); subst ix0; clear f32)
  | (have ix0 : n15 = n2 + 1 := Eq.trans f32 (w32_id (by omega) (by omega)); subst ix0; clear f32)
  | (unfold w32 at f32; have ix0 : n15 = n2 + 1 := (by omega); subst ix0)
  | skip
  try unfold w32 at f32
  try subst k0
  refine ⟨?_, fun q hq => ?_⟩
  · refine ⟨?_, ?_, ?_⟩ <;> first | assumption | omega | trivial
  · have g6 := Option.some.inj hq
    subst g6
    omega
def g_304_208_5 : vG := ([(10, [21, 7], [], 1), (1301, [14, 2, 11, 13], [1, 2], 0), (22, [13, 12, 4], [1], 0), (90, [13], [], 0), (91, [13], [], 9999), (20, [12, 2], [1], 43), (0, [12], [], 313), (20, [11, 2], [1], 93), (90, [11], [], 0), (91, [11], [], 240), (43, [9, 10], [], 0), (20, [10, 2], [1], 93), (90, [10], [], 0), (91, [10], [], 240), (5000, [0, 1, 2, 3, 4, 5, 6, 7, 8, 9], [0, 1], 208), (0, [0], [], 285), (90, [1], [], -2147483648), (91, [1], [], 2147483647), (0, [2], [], 285), (90, [3], [], -2147483648), (91, [3], [], 2147483647), (90, [4], [], 0), (91, [4], [], 23), (90, [5], [], 0), (91, [5], [], 8), (90, [6], [], -2), (91, [6], [], 255), (90, [7], [], 0), (91, [7], [], 255), (90, [8], [], -2147483648), (91, [8], [], 2147483647), (90, [9], [], 0), (91, [9], [], 240)], (4000, [2, 3, 4, 5, 7, 21], [2], 126))
theorem c_304_208_5 {q0 : Nat} : vOkm T0 (eP e_304 L_304 A_304 mu_304 (some q0)) 2 g_304_208_5 := vOk_inI fun ρ η f0 f1 f2 f3 f4 f5 f6 f7 f8 f9 f10 f11 f12 f13 f14 f15 f16 f17 f18 f19 f20 f21 f22 f23 f24 f25 f26 f27 f28 f29 f30 f31 f32 => q_304_46 (q0 := q0) (n0 := ρ 9) (n1 := ρ 8) (n2 := ρ 7) (n3 := ρ 6) (n4 := ρ 5) (n5 := ρ 4) (n6 := ρ 3) (n7 := ρ 2) (n8 := ρ 1) (n9 := ρ 0) (n10 := ρ 10) (n11 := ρ 11) (n12 := ρ 12) (n13 := ρ 13) (n14 := ρ 14) (n15 := ρ 21) (H0 := η 0) (H1 := η 1) (H2 := η 2) f32 f31 f30 f29 f28 f27 f26 f25 f24 f23 f22 f21 f20 f19 f18 f17 f16 f15 f14 f13 f12 f11 f10 f9 f8 f7 f6 f5 f4 f3 f2 f1 f0
theorem q_304_47 {q0 : Nat} {n0 n1 n2 n3 n4 n5 n6 n7 n8 n9 n10 : Int} {H0 H1 : gH} (f0 : n0 ≤ 240) (f1 : 0 ≤ n0) (f2 : n1 ≤ 2147483647) (f3 : (-2147483648) ≤ n1) (f4 : n2 ≤ 255) (f5 : 0 ≤ n2) (f6 : n3 ≤ 255) (f7 : (-2) ≤ n3) (f8 : n4 ≤ 8) (f9 : 0 ≤ n4) (f10 : n5 ≤ 23) (f11 : 0 ≤ n5) (f12 : n6 ≤ 2147483647) (f13 : (-2147483648) ≤ n6) (f14 : n7 = 285) (f15 : n8 ≤ 2147483647) (f16 : (-2147483648) ≤ n8) (f17 : n9 = 285) (f18 : (hLe T0 H0 H1 ∧ hFr s_304.2.2.2.2 H0 H1 ∧ hWt T0 H1) ∧ (Ab_304_208 n9 n8 n7 n6 n5 n4 n3 n2 n1 n0 H0 H1 ∧ preb_304 n9 n8 H0) ∧ some q0 = some (mub_304_208 n9 n8 n7 n6 n5 n4 n3 n2 n1 n0 H0 H1)) (f19 : n10 ≤ 240) (f20 : 0 ≤ n10) (f21 : n10 = hV H1 (n7).toNat 93) (f22 : n0 < n10) : 0 ≤ n0 ∧ n0 < 240 := by
  have g4 := f18.2.1.1
  unfold Ab_304_208 at g4
  have g3 := f18.2.1.2
  unfold preb_304 at g3
  have e0 : n10 = hV H1 285 93 := (by rw [f14] at f21; exact f21 : n10 = hV H1 285 93)
  have e2 : hV H1 285 18 = hV H0 285 18 := (f18.1.2.1.1 285 18 kF_304_285_18)
  have e3 : (0 : Int) ≤ hV H0 285 18 ∧ hV H0 285 18 ≤ 8 := bTo e2 (f18.1.2.2 285 18 _ _ kW_285_18)
  have k0 := g4.1
  have y0 := g4.2.1
  have y1 := g4.2.2
  have p0 := g3.1
  have p1 := g3.2
  try simp only [e2] at y1
  clear g3
  clear g4
  clear f21 e2
  clear f18
  subst e0
  try subst k0
  omega
def g_304_208_6 : vG := ([(42, [9, 10], [], 0), (20, [10, 2], [1], 93), (90, [10], [], 0), (91, [10], [], 240), (5000, [0, 1, 2, 3, 4, 5, 6, 7, 8, 9], [0, 1], 208), (0, [0], [], 285), (90, [1], [], -2147483648), (91, [1], [], 2147483647), (0, [2], [], 285), (90, [3], [], -2147483648), (91, [3], [], 2147483647), (90, [4], [], 0), (91, [4], [], 23), (90, [5], [], 0), (91, [5], [], 8), (90, [6], [], -2), (91, [6], [], 255), (90, [7], [], 0), (91, [7], [], 255), (90, [8], [], -2147483648), (91, [8], [], 2147483647), (90, [9], [], 0), (91, [9], [], 240)], (70, [9], [], 240))
theorem c_304_208_6 {q0 : Nat} : vOkm T0 (eP e_304 L_304 A_304 mu_304 (some q0)) 2 g_304_208_6 := vOk_inI fun ρ η f0 f1 f2 f3 f4 f5 f6 f7 f8 f9 f10 f11 f12 f13 f14 f15 f16 f17 f18 f19 f20 f21 f22 => q_304_47 (q0 := q0) (n0 := ρ 9) (n1 := ρ 8) (n2 := ρ 7) (n3 := ρ 6) (n4 := ρ 5) (n5 := ρ 4) (n6 := ρ 3) (n7 := ρ 2) (n8 := ρ 1) (n9 := ρ 0) (n10 := ρ 10) (H0 := η 0) (H1 := η 1) f22 f21 f20 f19 f18 f17 f16 f15 f14 f13 f12 f11 f10 f9 f8 f7 f6 f5 f4 f3 f2 f1 f0
def g_304_208_7 : vG := ([(42, [9, 10], [], 0), (20, [10, 2], [1], 93), (90, [10], [], 0), (91, [10], [], 240), (5000, [0, 1, 2, 3, 4, 5, 6, 7, 8, 9], [0, 1], 208), (0, [0], [], 285), (90, [1], [], -2147483648), (91, [1], [], 2147483647), (0, [2], [], 285), (90, [3], [], -2147483648), (91, [3], [], 2147483647), (90, [4], [], 0), (91, [4], [], 23), (90, [5], [], 0), (91, [5], [], 8), (90, [6], [], -2), (91, [6], [], 255), (90, [7], [], 0), (91, [7], [], 255), (90, [8], [], -2147483648), (91, [8], [], 2147483647), (90, [9], [], 0), (91, [9], [], 240)], (70, [9], [], 240))
theorem c_304_208_7 {q0 : Nat} : vOkm T0 (eP e_304 L_304 A_304 mu_304 (some q0)) 2 g_304_208_7 := vOk_inI fun ρ η f0 f1 f2 f3 f4 f5 f6 f7 f8 f9 f10 f11 f12 f13 f14 f15 f16 f17 f18 f19 f20 f21 f22 => q_304_47 (q0 := q0) (n0 := ρ 9) (n1 := ρ 8) (n2 := ρ 7) (n3 := ρ 6) (n4 := ρ 5) (n5 := ρ 4) (n6 := ρ 3) (n7 := ρ 2) (n8 := ρ 1) (n9 := ρ 0) (n10 := ρ 10) (H0 := η 0) (H1 := η 1) f22 f21 f20 f19 f18 f17 f16 f15 f14 f13 f12 f11 f10 f9 f8 f7 f6 f5 f4 f3 f2 f1 f0
theorem q_304_48 {q0 : Nat} {n0 n1 n2 n3 n4 n5 n6 n7 n8 n9 n10 n11 : Int} {H0 H1 : gH} (f0 : n0 ≤ 240) (f1 : 0 ≤ n0) (f2 : n1 ≤ 2147483647) (f3 : (-2147483648) ≤ n1) (f4 : n2 ≤ 255) (f5 : 0 ≤ n2) (f6 : n3 ≤ 255) (f7 : (-2) ≤ n3) (f8 : n4 ≤ 8) (f9 : 0 ≤ n4) (f10 : n5 ≤ 23) (f11 : 0 ≤ n5) (f12 : n6 ≤ 2147483647) (f13 : (-2147483648) ≤ n6) (f14 : n7 = 285) (f15 : n8 ≤ 2147483647) (f16 : (-2147483648) ≤ n8) (f17 : n9 = 285) (f18 : (hLe T0 H0 H1 ∧ hFr s_304.2.2.2.2 H0 H1 ∧ hWt T0 H1) ∧ (Ab_304_208 n9 n8 n7 n6 n5 n4 n3 n2 n1 n0 H0 H1 ∧ preb_304 n9 n8 H0) ∧ some q0 = some (mub_304_208 n9 n8 n7 n6 n5 n4 n3 n2 n1 n0 H0 H1)) (f19 : n10 ≤ 240) (f20 : 0 ≤ n10) (f21 : n10 = hV H1 (n7).toNat 93) (f22 : n0 < n10) (f23 : n11 = w32 (n0 + 1)) : 0 ≤ n11 := by
  have g4 := f18.2.1.1
  unfold Ab_304_208 at g4
  have g3 := f18.2.1.2
  unfold preb_304 at g3
  have e0 : n10 = hV H1 285 93 := (by rw [f14] at f21; exact f21 : n10 = hV H1 285 93)
  have e2 : hV H1 285 18 = hV H0 285 18 := (f18.1.2.1.1 285 18 kF_304_285_18)
  have e3 : (0 : Int) ≤ hV H0 285 18 ∧ hV H0 285 18 ≤ 8 := bTo e2 (f18.1.2.2 285 18 _ _ kW_285_18)
  have k0 := g4.1
  have y0 := g4.2.1
  have y1 := g4.2.2
  have p0 := g3.1
  have p1 := g3.2
  try simp only [e2] at y1
  clear g3
  clear g4
  clear f21 e2
  clear f18
  subst e0
  first
  | (have ix0 : n11 = n0 + 1 := Eq.trans f23 (w32_iv (Iad (Iat f1 f0) (IC 1)) (by decide)); subst ix0; clear f23)
  | (have ix0 : n11 = n0 + 1 := Eq.trans f23 (w32_id (by omega) (by omega)); subst ix0; clear f23)
  | (unfold w32 at f23; have ix0 : n11 = n0 + 1 := (by omega); subst ix0)
  | skip
  try unfold w32 at f23
  try subst k0
  omega
def g_304_208_8 : vG := ([(10, [14, 9], [], 1), (42, [9, 10], [], 0), (20, [10, 2], [1], 93), (90, [10], [], 0), (91, [10], [], 240), (5000, [0, 1, 2, 3, 4, 5, 6, 7, 8, 9], [0, 1], 208), (0, [0], [], 285), (90, [1], [], -2147483648), (91, [1], [], 2147483647), (0, [2], [], 285), (90, [3], [], -2147483648), (91, [3], [], 2147483647), (90, [4], [], 0), (91, [4], [], 23), (90, [5], [], 0), (91, [5], [], 8), (90, [6], [], -2), (91, [6], [], 255), (90, [7], [], 0), (91, [7], [], 255), (90, [8], [], -2147483648), (91, [8], [], 2147483647), (90, [9], [], 0), (91, [9], [], 240)], (90, [14], [], 0))
theorem c_304_208_8 {q0 : Nat} : vOkm T0 (eP e_304 L_304 A_304 mu_304 (some q0)) 2 g_304_208_8 := vOk_inI fun ρ η f0 f1 f2 f3 f4 f5 f6 f7 f8 f9 f10 f11 f12 f13 f14 f15 f16 f17 f18 f19 f20 f21 f22 f23 => q_304_48 (q0 := q0) (n0 := ρ 9) (n1 := ρ 8) (n2 := ρ 7) (n3 := ρ 6) (n4 := ρ 5) (n5 := ρ 4) (n6 := ρ 3) (n7 := ρ 2) (n8 := ρ 1) (n9 := ρ 0) (n10 := ρ 10) (n11 := ρ 14) (H0 := η 0) (H1 := η 1) f23 f22 f21 f20 f19 f18 f17 f16 f15 f14 f13 f12 f11 f10 f9 f8 f7 f6 f5 f4 f3 f2 f1 f0
theorem q_304_49 {q0 : Nat} {n0 n1 n2 n3 n4 n5 n6 n7 n8 n9 n10 n11 : Int} {H0 H1 : gH} (f0 : n0 ≤ 240) (f1 : 0 ≤ n0) (f2 : n1 ≤ 2147483647) (f3 : (-2147483648) ≤ n1) (f4 : n2 ≤ 255) (f5 : 0 ≤ n2) (f6 : n3 ≤ 255) (f7 : (-2) ≤ n3) (f8 : n4 ≤ 8) (f9 : 0 ≤ n4) (f10 : n5 ≤ 23) (f11 : 0 ≤ n5) (f12 : n6 ≤ 2147483647) (f13 : (-2147483648) ≤ n6) (f14 : n7 = 285) (f15 : n8 ≤ 2147483647) (f16 : (-2147483648) ≤ n8) (f17 : n9 = 285) (f18 : (hLe T0 H0 H1 ∧ hFr s_304.2.2.2.2 H0 H1 ∧ hWt T0 H1) ∧ (Ab_304_208 n9 n8 n7 n6 n5 n4 n3 n2 n1 n0 H0 H1 ∧ preb_304 n9 n8 H0) ∧ some q0 = some (mub_304_208 n9 n8 n7 n6 n5 n4 n3 n2 n1 n0 H0 H1)) (f19 : n10 ≤ 240) (f20 : 0 ≤ n10) (f21 : n10 = hV H1 (n7).toNat 93) (f22 : n0 < n10) (f23 : n11 = w32 (n0 + 1)) : n11 ≤ 240 := by
  have g4 := f18.2.1.1
  unfold Ab_304_208 at g4
  have g3 := f18.2.1.2
  unfold preb_304 at g3
  have e0 : n10 = hV H1 285 93 := (by rw [f14] at f21; exact f21 : n10 = hV H1 285 93)
  have e2 : hV H1 285 18 = hV H0 285 18 := (f18.1.2.1.1 285 18 kF_304_285_18)
  have e3 : (0 : Int) ≤ hV H0 285 18 ∧ hV H0 285 18 ≤ 8 := bTo e2 (f18.1.2.2 285 18 _ _ kW_285_18)
  have k0 := g4.1
  have y0 := g4.2.1
  have y1 := g4.2.2
  have p0 := g3.1
  have p1 := g3.2
  try simp only [e2] at y1
  clear g3
  clear g4
  clear f21 e2
  clear f18
  subst e0
  first
  | (have ix0 : n11 = n0 + 1 := Eq.trans f23 (w32_iv (Iad (Iat f1 f0) (IC 1)) (by decide)); subst ix0; clear f23)
  | (have ix0 : n11 = n0 + 1 := Eq.trans f23 (w32_id (by omega) (by omega)); subst ix0; clear f23)
  | (unfold w32 at f23; have ix0 : n11 = n0 + 1 := (by omega); subst ix0)
  | skip
  try unfold w32 at f23
  try subst k0
  omega
def g_304_208_9 : vG := ([(10, [14, 9], [], 1), (42, [9, 10], [], 0), (20, [10, 2], [1], 93), (90, [10], [], 0), (91, [10], [], 240), (5000, [0, 1, 2, 3, 4, 5, 6, 7, 8, 9], [0, 1], 208), (0, [0], [], 285), (90, [1], [], -2147483648), (91, [1], [], 2147483647), (0, [2], [], 285), (90, [3], [], -2147483648), (91, [3], [], 2147483647), (90, [4], [], 0), (91, [4], [], 23), (90, [5], [], 0), (91, [5], [], 8), (90, [6], [], -2), (91, [6], [], 255), (90, [7], [], 0), (91, [7], [], 255), (90, [8], [], -2147483648), (91, [8], [], 2147483647), (90, [9], [], 0), (91, [9], [], 240)], (91, [14], [], 240))
theorem c_304_208_9 {q0 : Nat} : vOkm T0 (eP e_304 L_304 A_304 mu_304 (some q0)) 2 g_304_208_9 := vOk_inI fun ρ η f0 f1 f2 f3 f4 f5 f6 f7 f8 f9 f10 f11 f12 f13 f14 f15 f16 f17 f18 f19 f20 f21 f22 f23 => q_304_49 (q0 := q0) (n0 := ρ 9) (n1 := ρ 8) (n2 := ρ 7) (n3 := ρ 6) (n4 := ρ 5) (n5 := ρ 4) (n6 := ρ 3) (n7 := ρ 2) (n8 := ρ 1) (n9 := ρ 0) (n10 := ρ 10) (n11 := ρ 14) (H0 := η 0) (H1 := η 1) f23 f22 f21 f20 f19 f18 f17 f16 f15 f14 f13 f12 f11 f10 f9 f8 f7 f6 f5 f4 f3 f2 f1 f0
theorem q_304_50 {q0 : Nat} {n0 n1 n2 n3 n4 n5 n6 n7 n8 n9 n10 n11 n12 n13 n14 : Int} {H0 H1 H2 : gH} (f0 : n0 ≤ 240) (f1 : 0 ≤ n0) (f2 : n1 ≤ 2147483647) (f3 : (-2147483648) ≤ n1) (f4 : n2 ≤ 255) (f5 : 0 ≤ n2) (f6 : n3 ≤ 255) (f7 : (-2) ≤ n3) (f8 : n4 ≤ 8) (f9 : 0 ≤ n4) (f10 : n5 ≤ 23) (f11 : 0 ≤ n5) (f12 : n6 ≤ 2147483647) (f13 : (-2147483648) ≤ n6) (f14 : n7 = 285) (f15 : n8 ≤ 2147483647) (f16 : (-2147483648) ≤ n8) (f17 : n9 = 285) (f18 : (hLe T0 H0 H1 ∧ hFr s_304.2.2.2.2 H0 H1 ∧ hWt T0 H1) ∧ (Ab_304_208 n9 n8 n7 n6 n5 n4 n3 n2 n1 n0 H0 H1 ∧ preb_304 n9 n8 H0) ∧ some q0 = some (mub_304_208 n9 n8 n7 n6 n5 n4 n3 n2 n1 n0 H0 H1)) (f19 : n10 ≤ 240) (f20 : 0 ≤ n10) (f21 : n10 = hV H1 (n7).toNat 93) (f22 : n0 < n10) (f23 : n11 = 357) (f24 : n11 = hV H1 (n7).toNat 99) (f25 : n12 = 352) (f26 : n12 = hV H1 (n7).toNat 92) (f27 : n13 ≤ 2147483647) (f28 : (-2147483648) ≤ n13) (f29 : n13 = hV H1 (n12).toNat (n0).toNat) (f30 : hUpd H2 H1 n11 n0 n13) (f31 : n14 = w32 (n0 + 1)) : Ab_304_208 n9 n8 n7 n6 n5 n4 n3 n2 n1 n14 H0 H2 ∧ ∀ q, some q0 = some q → mub_304_208 n9 n8 n7 n6 n5 n4 n3 n2 n1 n14 H0 H2 < q := by
  have g4 := f18.2.1.1
  unfold Ab_304_208 at g4
  have g3 := f18.2.1.2
  unfold preb_304 at g3
  have g5 := Option.some.inj f18.2.2
  unfold mub_304_208 at g5
  unfold Ab_304_208
  unfold mub_304_208
  have e0 : n10 = hV H1 285 93 := (by rw [f14] at f21; exact f21 : n10 = hV H1 285 93)
  have e1 : n13 = hV H1 352 (n0).toNat := (by rw [f25] at f29; exact f29 : n13 = hV H1 352 (n0).toNat)
  have e3 : hV H1 285 18 = hV H0 285 18 := (f18.1.2.1.1 285 18 kF_304_285_18)
  have e5 : hV H2 285 18 = hV H0 285 18 := ((uPlace f30 285 18 (iS (show n11 = ((357 : Nat) : Int) from f23) rfl))).trans (f18.1.2.1.1 285 18 kF_304_285_18)
  have e6 : (0 : Int) ≤ hV H0 285 18 ∧ hV H0 285 18 ≤ 8 := bTo e3 (f18.1.2.2 285 18 _ _ kW_285_18)
  try simp only [e5]
  have k0 := g4.1
  have y0 := g4.2.1
  have y1 := g4.2.2
  have p0 := g3.1
  have p1 := g3.2
  try simp only [e3] at y1
  clear g3
  clear g4
  clear f21 f24 f26 f29 e3 e5
  clear f18
  subst e0
  subst e1
  first
  | (have ix0 : n14 = n0 + 1 := Eq.trans f31 (w32_iv (Iad (Iat f1 f0) (IC 1)) (by decide)); subst ix0; clear f31)
  | (have ix0 : n14 = n0 + 1 := Eq.trans f31 (w32_id (by omega) (by omega)); subst ix0; clear f31)
  | (unfold w32 at f31; have ix0 : n14 = n0 + 1 := (by omega); subst ix0)
  | skip
  try unfold w32 at f31
  try subst k0
  refine ⟨?_, fun q hq => ?_⟩
  · refine ⟨?_, ?_, ?_⟩ <;> first | assumption | omega | trivial
  · have g6 := Option.some.inj hq
    subst g6
    omega
def g_304_208_10 : vG := ([(10, [14, 9], [], 1), (80, [11, 9, 13], [2, 1], 0), (22, [13, 12, 9], [1], 0), (90, [13], [], -2147483648), (91, [13], [], 2147483647), (20, [12, 2], [1], 92), (0, [12], [], 352), (20, [11, 2], [1], 99), (0, [11], [], 357), (42, [9, 10], [], 0), (20, [10, 2], [1], 93), (90, [10], [], 0), (91, [10], [], 240), (5000, [0, 1, 2, 3, 4, 5, 6, 7, 8, 9], [0, 1], 208), (0, [0], [], 285), (90, [1], [], -2147483648), (91, [1], [], 2147483647), (0, [2], [], 285), (90, [3], [], -2147483648), (91, [3], [], 2147483647), (90, [4], [], 0), (91, [4], [], 23), (90, [5], [], 0), (91, [5], [], 8), (90, [6], [], -2), (91, [6], [], 255), (90, [7], [], 0), (91, [7], [], 255), (90, [8], [], -2147483648), (91, [8], [], 2147483647), (90, [9], [], 0), (91, [9], [], 240)], (4000, [2, 3, 4, 5, 6, 7, 8, 14], [2], 208))
theorem c_304_208_10 {q0 : Nat} : vOkm T0 (eP e_304 L_304 A_304 mu_304 (some q0)) 2 g_304_208_10 := vOk_inI fun ρ η f0 f1 f2 f3 f4 f5 f6 f7 f8 f9 f10 f11 f12 f13 f14 f15 f16 f17 f18 f19 f20 f21 f22 f23 f24 f25 f26 f27 f28 f29 f30 f31 => q_304_50 (q0 := q0) (n0 := ρ 9) (n1 := ρ 8) (n2 := ρ 7) (n3 := ρ 6) (n4 := ρ 5) (n5 := ρ 4) (n6 := ρ 3) (n7 := ρ 2) (n8 := ρ 1) (n9 := ρ 0) (n10 := ρ 10) (n11 := ρ 11) (n12 := ρ 12) (n13 := ρ 13) (n14 := ρ 14) (H0 := η 0) (H1 := η 1) (H2 := η 2) f31 f30 f29 f28 f27 f26 f25 f24 f23 f22 f21 f20 f19 f18 f17 f16 f15 f14 f13 f12 f11 f10 f9 f8 f7 f6 f5 f4 f3 f2 f1 f0
def p_304_208 : List vG := [g_304_208_0,
  g_304_208_1,
  g_304_208_2,
  g_304_208_3,
  g_304_208_4,
  g_304_208_5,
  g_304_208_6,
  g_304_208_7,
  g_304_208_8,
  g_304_208_9,
  g_304_208_10]
theorem r_304_208 : vCovO true (eRc e_304 L_304 cs_304 2000 (208, [(0, (3, 12, 285, 0)), (1, (0, -2147483648, 2147483647, 0)), (2, (0, 0, 23, 0)), (3, (0, 0, 8, 0)), (4, (0, -2, 255, 0)), (5, (0, 0, 255, 0)), (6, (0, -2147483648, 2147483647, 0)), (7, (0, 0, 240, 0))])) p_304_208 = true := by decide +kernel
theorem m_304 (d : Nat) : eC e_304 (d + 5) := eC_ok (e := e_304) (L := L_304) (cs := cs_304) (n := 2000) (d := d + 4) (A := A_304) (μ := mu_304) (tp := true) (p0 := p_304_s) rfl ⟨m_270 (d + 2), ⟨m_274 d, ⟨m_282 (d + 3), ⟨m_301 (d + 3), ⟨m_303 (d + 3), trivial⟩⟩⟩⟩⟩ rfl (.inl rfl) (by decide +kernel) (fun _ => post0_ok) r_304_s (allC c_304_s_0 (allC c_304_s_1 (allC c_304_s_2 allN))) (allC (.inl ⟨p_304_14, r_304_14, fun q0 => (allC c_304_14_0 (allC c_304_14_1 (allC c_304_14_2 (allC c_304_14_3 (allC c_304_14_4 (allC c_304_14_5 (allC c_304_14_6 (allC c_304_14_7 (allC c_304_14_8 (allC c_304_14_9 (allC c_304_14_10 (allC c_304_14_11 (allC c_304_14_12 (allC c_304_14_13 allN))))))))))))))⟩) (allC (.inl ⟨p_304_77, r_304_77, fun q0 => (allC c_304_77_0 (allC c_304_77_1 (allC c_304_77_2 (allC c_304_77_3 (allC c_304_77_4 (allC c_304_77_5 (allC c_304_77_6 (allC c_304_77_7 (allC c_304_77_8 (allC c_304_77_9 (allC c_304_77_10 (allC c_304_77_11 allN))))))))))))⟩) (allC (.inl ⟨p_304_119, r_304_119, fun q0 => (allC c_304_119_0 allN)⟩) (allC (.inl ⟨p_304_126, r_304_126, fun q0 => (allC c_304_126_0 (allC c_304_126_1 allN))⟩) (allC (.inl ⟨p_304_134, r_304_134, fun q0 => (allC c_304_134_0 (allC c_304_134_1 (allC c_304_134_2 (allC c_304_134_3 (allC c_304_134_4 (allC c_304_134_5 (allC c_304_134_6 (allC c_304_134_7 (allC c_304_134_8 allN)))))))))⟩) (allC (.inl ⟨p_304_189, r_304_189, fun q0 => (allC c_304_189_0 (allC c_304_189_1 (allC c_304_189_2 (allC c_304_189_3 allN))))⟩) (allC (.inl ⟨p_304_208, r_304_208, fun q0 => (allC c_304_208_0 (allC c_304_208_1 (allC c_304_208_2 (allC c_304_208_3 (allC c_304_208_4 (allC c_304_208_5 (allC c_304_208_6 (allC c_304_208_7 (allC c_304_208_8 (allC c_304_208_9 (allC c_304_208_10 allN)))))))))))⟩) allN)))))))
/- MixStageModel.owed (IIII)I -/
noncomputable def s_313 : vM := ([(3, 12, 285, 0), (0, -2147483648, 2147483647, 0), (0, -2147483648, 2147483647, 0), (0, -2147483648, 2147483647, 0), (0, -2147483648, 2147483647, 0)], (0, -2147483648, 2147483647, 0), 1, 0, [(12, 58), (12, 59), (12, 82), (12, 88), (12, 103), (412, 0), (420, 0), (572, 0), (580, 0), (588, 0), (596, 0), (604, 0), (612, 0), (679, 0)])
def preb_313 (a0 a1 a2 a3 a4 : Int) (h : gH) : Prop := PG h ∧ SO h ∧ RV h
def pre_313 : List Int → gH → Prop := fun xs h => match xs with
  | [a0, a1, a2, a3, a4] => preb_313 a0 a1 a2 a3 a4 h
  | _ => False
noncomputable def e_313 : vE := (313, s_313, pre_313, post0)
noncomputable def L_313 : List vE := [e_239, e_251, e_310, e_311]
def cs_313 : List vC := [(93, [(0, (3, 12, 285, 0)), (1, (0, -2147483648, 2147483647, 0)), (2, (0, -2147483648, 2147483647, 0)), (3, (0, -2147483648, 2147483647, 0)), (4, (0, -2147483648, 2147483647, 0)), (5, (0, -2147483648, 2147483647, 0)), (6, (0, 0, 24, 0))])]
def Ab_313_93 (a0 a1 a2 a3 a4 x0 x1 x2 x3 x4 x5 x6 : Int) (h0 h : gH) : Prop := x1 = a1 ∧ x2 = a2 ∧ x3 = a3 ∧ x4 = a4 ∧ 12 * hV h 285 34 ≤ x6
def mub_313_93 (a0 a1 a2 a3 a4 x0 x1 x2 x3 x4 x5 x6 : Int) (h0 h : gH) : Nat := (2147483648 - x6).toNat
def A_313 : Int → List Int → gH → gH → Prop := fun c xs h0 h => match c.toNat with
  | 93 => (match xs with
    | [a0, a1, a2, a3, a4, x0, x1, x2, x3, x4, x5, x6] => Ab_313_93 a0 a1 a2 a3 a4 x0 x1 x2 x3 x4 x5 x6 h0 h
    | _ => False)
  | _ => True
def mu_313 : Int → List Int → gH → gH → Nat := fun c xs h0 h => match c.toNat with
  | 93 => (match xs with
    | [a0, a1, a2, a3, a4, x0, x1, x2, x3, x4, x5, x6] => mub_313_93 a0 a1 a2 a3 a4 x0 x1 x2 x3 x4 x5 x6 h0 h
    | _ => 0)
  | _ => 0
theorem q_313_0 {n0 n1 n2 n3 n4 n5 n6 n7 n8 : Int} {H0 H1 H2 : gH} (f0 : n0 ≤ 2147483647) (f1 : (-2147483648) ≤ n0) (f2 : n1 ≤ 2147483647) (f3 : (-2147483648) ≤ n1) (f4 : n2 ≤ 2147483647) (f5 : (-2147483648) ≤ n2) (f6 : n3 ≤ 2147483647) (f7 : (-2147483648) ≤ n3) (f8 : n4 = 285) (f9 : hWt T0 H0 ∧ preb_313 n4 n3 n2 n1 n0 H0) (f10 : n5 ≤ 1) (f11 : 0 ≤ n5) (f12 : (hLe T0 H0 H1 ∧ hFr s_311.2.2.2.2 H0 H1 ∧ ((0 : Int) = 0 → H1.length = H0.length) ∧ hWt T0 H1) ∧ postb_311 n5 n4 n3 n2 n1 H0 H1) (f13 : n5 ≠ 0) (f14 : n6 = 0) (f15 : n7 = 9) (f16 : n8 ≤ 1) (f17 : 0 ≤ n8) (f18 : (hLe T0 H1 H2 ∧ hFr s_251.2.2.2.2 H1 H2 ∧ ((0 : Int) = 0 → H2.length = H1.length) ∧ hWt T0 H2) ∧ postb_251 n8 n0 n6 n7 H1 H2) (f19 : n8 ≠ 0) : 0 ≤ n3 := by
  unfold preb_313 at f9
  unfold postb_311 at f12
  unfold postb_251 at f18
  have e1 : hV H1 285 18 = hV H0 285 18 := (f12.1.2.1.1 285 18 kF_311_285_18)
  have e3 : hV H1 285 60 = hV H0 285 60 := (f12.1.2.1.1 285 60 kF_311_285_60)
  have e5 : hV H1 285 64 = hV H0 285 64 := (f12.1.2.1.1 285 64 kF_311_285_64)
  have e6 : (0 : Int) ≤ hV H0 285 18 ∧ hV H0 285 18 ≤ 8 := bTo e1 (f12.1.2.2.2 285 18 _ _ kW_285_18)
  have e8 : (1 : Int) ≤ hV H0 285 60 ∧ hV H0 285 60 ≤ 6 := bTo e3 (f12.1.2.2.2 285 60 _ _ kW_285_60)
  have e10 : (0 : Int) ≤ hV H0 285 64 ∧ hV H0 285 64 ≤ 20 := bTo e5 (f12.1.2.2.2 285 64 _ _ kW_285_64)
  have p0 := f9.2.1
  have p1 := f9.2.2.1
  have p2 := f9.2.2.2
  have r0_0 := f12.2
  have r1_0 := f18.2
  try simp only [e1, e3, e5] at r0_0
  clear e1 e3 e5
  clear f9 f12 f18
  try (have wx := r0_0 (by omega); obtain ⟨w0, w1, w2, w3, w4, w5⟩ := wx)
  omega
def g_313_s_0 : vG := ([(31, [8], [], 0), (1251, [8, 4, 6, 7], [1, 2], 0), (90, [8], [], 0), (91, [8], [], 1), (0, [7], [], 9), (0, [6], [], 0), (31, [5], [], 0), (1311, [5, 0, 1, 2, 3], [0, 1], 0), (90, [5], [], 0), (91, [5], [], 1), (6000, [0, 1, 2, 3, 4], [0], 0), (0, [0], [], 285), (90, [1], [], -2147483648), (91, [1], [], 2147483647), (90, [2], [], -2147483648), (91, [2], [], 2147483647), (90, [3], [], -2147483648), (91, [3], [], 2147483647), (90, [4], [], -2147483648), (91, [4], [], 2147483647)], (90, [1], [], 0))
theorem c_313_s_0 : vOkm T0 (eP e_313 L_313 A_313 mu_313 none) 5 g_313_s_0 := vOk_inI fun ρ η f0 f1 f2 f3 f4 f5 f6 f7 f8 f9 f10 f11 f12 f13 f14 f15 f16 f17 f18 f19 => q_313_0 (n0 := ρ 4) (n1 := ρ 3) (n2 := ρ 2) (n3 := ρ 1) (n4 := ρ 0) (n5 := ρ 5) (n6 := ρ 6) (n7 := ρ 7) (n8 := ρ 8) (H0 := η 0) (H1 := η 1) (H2 := η 2) f19 f18 f17 f16 f15 f14 f13 f12 f11 f10 f9 f8 f7 f6 f5 f4 f3 f2 f1 f0
theorem q_313_1 {n0 n1 n2 n3 n4 n5 n6 n7 n8 : Int} {H0 H1 H2 : gH} (f0 : n0 ≤ 2147483647) (f1 : (-2147483648) ≤ n0) (f2 : n1 ≤ 2147483647) (f3 : (-2147483648) ≤ n1) (f4 : n2 ≤ 2147483647) (f5 : (-2147483648) ≤ n2) (f6 : n3 ≤ 2147483647) (f7 : (-2147483648) ≤ n3) (f8 : n4 = 285) (f9 : hWt T0 H0 ∧ preb_313 n4 n3 n2 n1 n0 H0) (f10 : n5 ≤ 1) (f11 : 0 ≤ n5) (f12 : (hLe T0 H0 H1 ∧ hFr s_311.2.2.2.2 H0 H1 ∧ ((0 : Int) = 0 → H1.length = H0.length) ∧ hWt T0 H1) ∧ postb_311 n5 n4 n3 n2 n1 H0 H1) (f13 : n5 ≠ 0) (f14 : n6 = 0) (f15 : n7 = 9) (f16 : n8 ≤ 1) (f17 : 0 ≤ n8) (f18 : (hLe T0 H1 H2 ∧ hFr s_251.2.2.2.2 H1 H2 ∧ ((0 : Int) = 0 → H2.length = H1.length) ∧ hWt T0 H2) ∧ postb_251 n8 n0 n6 n7 H1 H2) (f19 : n8 ≠ 0) : n3 ≤ 7 := by
  unfold preb_313 at f9
  unfold postb_311 at f12
  unfold postb_251 at f18
  have e1 : hV H1 285 18 = hV H0 285 18 := (f12.1.2.1.1 285 18 kF_311_285_18)
  have e3 : hV H1 285 60 = hV H0 285 60 := (f12.1.2.1.1 285 60 kF_311_285_60)
  have e5 : hV H1 285 64 = hV H0 285 64 := (f12.1.2.1.1 285 64 kF_311_285_64)
  have e6 : (0 : Int) ≤ hV H0 285 18 ∧ hV H0 285 18 ≤ 8 := bTo e1 (f12.1.2.2.2 285 18 _ _ kW_285_18)
  have e8 : (1 : Int) ≤ hV H0 285 60 ∧ hV H0 285 60 ≤ 6 := bTo e3 (f12.1.2.2.2 285 60 _ _ kW_285_60)
  have e10 : (0 : Int) ≤ hV H0 285 64 ∧ hV H0 285 64 ≤ 20 := bTo e5 (f12.1.2.2.2 285 64 _ _ kW_285_64)
  have p0 := f9.2.1
  have p1 := f9.2.2.1
  have p2 := f9.2.2.2
  have r0_0 := f12.2
  have r1_0 := f18.2
  try simp only [e1, e3, e5] at r0_0
  clear e1 e3 e5
  clear f9 f12 f18
  try (have wx := r0_0 (by omega); obtain ⟨w0, w1, w2, w3, w4, w5⟩ := wx)
  omega
def g_313_s_1 : vG := ([(31, [8], [], 0), (1251, [8, 4, 6, 7], [1, 2], 0), (90, [8], [], 0), (91, [8], [], 1), (0, [7], [], 9), (0, [6], [], 0), (31, [5], [], 0), (1311, [5, 0, 1, 2, 3], [0, 1], 0), (90, [5], [], 0), (91, [5], [], 1), (6000, [0, 1, 2, 3, 4], [0], 0), (0, [0], [], 285), (90, [1], [], -2147483648), (91, [1], [], 2147483647), (90, [2], [], -2147483648), (91, [2], [], 2147483647), (90, [3], [], -2147483648), (91, [3], [], 2147483647), (90, [4], [], -2147483648), (91, [4], [], 2147483647)], (91, [1], [], 7))
theorem c_313_s_1 : vOkm T0 (eP e_313 L_313 A_313 mu_313 none) 5 g_313_s_1 := vOk_inI fun ρ η f0 f1 f2 f3 f4 f5 f6 f7 f8 f9 f10 f11 f12 f13 f14 f15 f16 f17 f18 f19 => q_313_1 (n0 := ρ 4) (n1 := ρ 3) (n2 := ρ 2) (n3 := ρ 1) (n4 := ρ 0) (n5 := ρ 5) (n6 := ρ 6) (n7 := ρ 7) (n8 := ρ 8) (H0 := η 0) (H1 := η 1) (H2 := η 2) f19 f18 f17 f16 f15 f14 f13 f12 f11 f10 f9 f8 f7 f6 f5 f4 f3 f2 f1 f0
theorem q_313_2 {n0 n1 n2 n3 n4 n5 n6 n7 n8 : Int} {H0 H1 H2 : gH} (f0 : n0 ≤ 2147483647) (f1 : (-2147483648) ≤ n0) (f2 : n1 ≤ 2147483647) (f3 : (-2147483648) ≤ n1) (f4 : n2 ≤ 2147483647) (f5 : (-2147483648) ≤ n2) (f6 : n3 ≤ 2147483647) (f7 : (-2147483648) ≤ n3) (f8 : n4 = 285) (f9 : hWt T0 H0 ∧ preb_313 n4 n3 n2 n1 n0 H0) (f10 : n5 ≤ 1) (f11 : 0 ≤ n5) (f12 : (hLe T0 H0 H1 ∧ hFr s_311.2.2.2.2 H0 H1 ∧ ((0 : Int) = 0 → H1.length = H0.length) ∧ hWt T0 H1) ∧ postb_311 n5 n4 n3 n2 n1 H0 H1) (f13 : n5 ≠ 0) (f14 : n6 = 0) (f15 : n7 = 9) (f16 : n8 ≤ 1) (f17 : 0 ≤ n8) (f18 : (hLe T0 H1 H2 ∧ hFr s_251.2.2.2.2 H1 H2 ∧ ((0 : Int) = 0 → H2.length = H1.length) ∧ hWt T0 H2) ∧ postb_251 n8 n0 n6 n7 H1 H2) (f19 : n8 ≠ 0) : 0 ≤ n1 := by
  unfold preb_313 at f9
  unfold postb_311 at f12
  unfold postb_251 at f18
  have e1 : hV H1 285 18 = hV H0 285 18 := (f12.1.2.1.1 285 18 kF_311_285_18)
  have e3 : hV H1 285 60 = hV H0 285 60 := (f12.1.2.1.1 285 60 kF_311_285_60)
  have e5 : hV H1 285 64 = hV H0 285 64 := (f12.1.2.1.1 285 64 kF_311_285_64)
  have e6 : (0 : Int) ≤ hV H0 285 18 ∧ hV H0 285 18 ≤ 8 := bTo e1 (f12.1.2.2.2 285 18 _ _ kW_285_18)
  have e8 : (1 : Int) ≤ hV H0 285 60 ∧ hV H0 285 60 ≤ 6 := bTo e3 (f12.1.2.2.2 285 60 _ _ kW_285_60)
  have e10 : (0 : Int) ≤ hV H0 285 64 ∧ hV H0 285 64 ≤ 20 := bTo e5 (f12.1.2.2.2 285 64 _ _ kW_285_64)
  have p0 := f9.2.1
  have p1 := f9.2.2.1
  have p2 := f9.2.2.2
  have r0_0 := f12.2
  have r1_0 := f18.2
  try simp only [e1, e3, e5] at r0_0
  clear e1 e3 e5
  clear f9 f12 f18
  try (have wx := r0_0 (by omega); obtain ⟨w0, w1, w2, w3, w4, w5⟩ := wx)
  omega
def g_313_s_2 : vG := ([(31, [8], [], 0), (1251, [8, 4, 6, 7], [1, 2], 0), (90, [8], [], 0), (91, [8], [], 1), (0, [7], [], 9), (0, [6], [], 0), (31, [5], [], 0), (1311, [5, 0, 1, 2, 3], [0, 1], 0), (90, [5], [], 0), (91, [5], [], 1), (6000, [0, 1, 2, 3, 4], [0], 0), (0, [0], [], 285), (90, [1], [], -2147483648), (91, [1], [], 2147483647), (90, [2], [], -2147483648), (91, [2], [], 2147483647), (90, [3], [], -2147483648), (91, [3], [], 2147483647), (90, [4], [], -2147483648), (91, [4], [], 2147483647)], (90, [3], [], 0))
theorem c_313_s_2 : vOkm T0 (eP e_313 L_313 A_313 mu_313 none) 5 g_313_s_2 := vOk_inI fun ρ η f0 f1 f2 f3 f4 f5 f6 f7 f8 f9 f10 f11 f12 f13 f14 f15 f16 f17 f18 f19 => q_313_2 (n0 := ρ 4) (n1 := ρ 3) (n2 := ρ 2) (n3 := ρ 1) (n4 := ρ 0) (n5 := ρ 5) (n6 := ρ 6) (n7 := ρ 7) (n8 := ρ 8) (H0 := η 0) (H1 := η 1) (H2 := η 2) f19 f18 f17 f16 f15 f14 f13 f12 f11 f10 f9 f8 f7 f6 f5 f4 f3 f2 f1 f0
theorem q_313_3 {n0 n1 n2 n3 n4 n5 n6 n7 n8 : Int} {H0 H1 H2 : gH} (f0 : n0 ≤ 2147483647) (f1 : (-2147483648) ≤ n0) (f2 : n1 ≤ 2147483647) (f3 : (-2147483648) ≤ n1) (f4 : n2 ≤ 2147483647) (f5 : (-2147483648) ≤ n2) (f6 : n3 ≤ 2147483647) (f7 : (-2147483648) ≤ n3) (f8 : n4 = 285) (f9 : hWt T0 H0 ∧ preb_313 n4 n3 n2 n1 n0 H0) (f10 : n5 ≤ 1) (f11 : 0 ≤ n5) (f12 : (hLe T0 H0 H1 ∧ hFr s_311.2.2.2.2 H0 H1 ∧ ((0 : Int) = 0 → H1.length = H0.length) ∧ hWt T0 H1) ∧ postb_311 n5 n4 n3 n2 n1 H0 H1) (f13 : n5 ≠ 0) (f14 : n6 = 0) (f15 : n7 = 9) (f16 : n8 ≤ 1) (f17 : 0 ≤ n8) (f18 : (hLe T0 H1 H2 ∧ hFr s_251.2.2.2.2 H1 H2 ∧ ((0 : Int) = 0 → H2.length = H1.length) ∧ hWt T0 H2) ∧ postb_251 n8 n0 n6 n7 H1 H2) (f19 : n8 ≠ 0) : n1 ≤ 5 := by
  unfold preb_313 at f9
  unfold postb_311 at f12
  unfold postb_251 at f18
  have e1 : hV H1 285 18 = hV H0 285 18 := (f12.1.2.1.1 285 18 kF_311_285_18)
  have e3 : hV H1 285 60 = hV H0 285 60 := (f12.1.2.1.1 285 60 kF_311_285_60)
  have e5 : hV H1 285 64 = hV H0 285 64 := (f12.1.2.1.1 285 64 kF_311_285_64)
  have e6 : (0 : Int) ≤ hV H0 285 18 ∧ hV H0 285 18 ≤ 8 := bTo e1 (f12.1.2.2.2 285 18 _ _ kW_285_18)
  have e8 : (1 : Int) ≤ hV H0 285 60 ∧ hV H0 285 60 ≤ 6 := bTo e3 (f12.1.2.2.2 285 60 _ _ kW_285_60)
  have e10 : (0 : Int) ≤ hV H0 285 64 ∧ hV H0 285 64 ≤ 20 := bTo e5 (f12.1.2.2.2 285 64 _ _ kW_285_64)
  have p0 := f9.2.1
  have p1 := f9.2.2.1
  have p2 := f9.2.2.2
  have r0_0 := f12.2
  have r1_0 := f18.2
  try simp only [e1, e3, e5] at r0_0
  clear e1 e3 e5
  clear f9 f12 f18
  try (have wx := r0_0 (by omega); obtain ⟨w0, w1, w2, w3, w4, w5⟩ := wx)
  omega
def g_313_s_3 : vG := ([(31, [8], [], 0), (1251, [8, 4, 6, 7], [1, 2], 0), (90, [8], [], 0), (91, [8], [], 1), (0, [7], [], 9), (0, [6], [], 0), (31, [5], [], 0), (1311, [5, 0, 1, 2, 3], [0, 1], 0), (90, [5], [], 0), (91, [5], [], 1), (6000, [0, 1, 2, 3, 4], [0], 0), (0, [0], [], 285), (90, [1], [], -2147483648), (91, [1], [], 2147483647), (90, [2], [], -2147483648), (91, [2], [], 2147483647), (90, [3], [], -2147483648), (91, [3], [], 2147483647), (90, [4], [], -2147483648), (91, [4], [], 2147483647)], (91, [3], [], 5))
theorem c_313_s_3 : vOkm T0 (eP e_313 L_313 A_313 mu_313 none) 5 g_313_s_3 := vOk_inI fun ρ η f0 f1 f2 f3 f4 f5 f6 f7 f8 f9 f10 f11 f12 f13 f14 f15 f16 f17 f18 f19 => q_313_3 (n0 := ρ 4) (n1 := ρ 3) (n2 := ρ 2) (n3 := ρ 1) (n4 := ρ 0) (n5 := ρ 5) (n6 := ρ 6) (n7 := ρ 7) (n8 := ρ 8) (H0 := η 0) (H1 := η 1) (H2 := η 2) f19 f18 f17 f16 f15 f14 f13 f12 f11 f10 f9 f8 f7 f6 f5 f4 f3 f2 f1 f0
theorem kF_251_285_18 : vFree s_251.2.2.2.2 285 18 = true := by decide +kernel
theorem q_313_4 {n0 n1 n2 n3 n4 n5 n6 n7 n8 : Int} {H0 H1 H2 : gH} (f0 : n0 ≤ 2147483647) (f1 : (-2147483648) ≤ n0) (f2 : n1 ≤ 2147483647) (f3 : (-2147483648) ≤ n1) (f4 : n2 ≤ 2147483647) (f5 : (-2147483648) ≤ n2) (f6 : n3 ≤ 2147483647) (f7 : (-2147483648) ≤ n3) (f8 : n4 = 285) (f9 : hWt T0 H0 ∧ preb_313 n4 n3 n2 n1 n0 H0) (f10 : n5 ≤ 1) (f11 : 0 ≤ n5) (f12 : (hLe T0 H0 H1 ∧ hFr s_311.2.2.2.2 H0 H1 ∧ ((0 : Int) = 0 → H1.length = H0.length) ∧ hWt T0 H1) ∧ postb_311 n5 n4 n3 n2 n1 H0 H1) (f13 : n5 ≠ 0) (f14 : n6 = 0) (f15 : n7 = 9) (f16 : n8 ≤ 1) (f17 : 0 ≤ n8) (f18 : (hLe T0 H1 H2 ∧ hFr s_251.2.2.2.2 H1 H2 ∧ ((0 : Int) = 0 → H2.length = H1.length) ∧ hWt T0 H2) ∧ postb_251 n8 n0 n6 n7 H1 H2) (f19 : n8 ≠ 0) : preb_310 n4 n3 n2 n1 H2 := by
  unfold preb_313 at f9
  unfold postb_311 at f12
  unfold postb_251 at f18
  unfold preb_310
  have e1 : hV H1 285 18 = hV H0 285 18 := (f12.1.2.1.1 285 18 kF_311_285_18)
  have e3 : hV H1 285 60 = hV H0 285 60 := (f12.1.2.1.1 285 60 kF_311_285_60)
  have e5 : hV H1 285 64 = hV H0 285 64 := (f12.1.2.1.1 285 64 kF_311_285_64)
  have e7 : hV H2 285 18 = hV H0 285 18 := ((f18.1.2.1.1 285 18 kF_251_285_18)).trans (f12.1.2.1.1 285 18 kF_311_285_18)
  have e8 : PG H1 = PG H0 := PG_fr f12.1.2.1 (by decide +kernel)
  have e9 : PG H2 = PG H1 := PG_fr f18.1.2.1 (by decide +kernel)
  have e10 : PG H2 = PG H0 := e9.trans e8
  have e11 : SO H1 = SO H0 := SO_fr f12.1.2.1 (by decide +kernel)
  have e12 : SO H2 = SO H1 := SO_fr f18.1.2.1 (by decide +kernel)
  have e13 : SO H2 = SO H0 := e12.trans e11
  have e14 : (0 : Int) ≤ hV H0 285 18 ∧ hV H0 285 18 ≤ 8 := bTo e1 (f12.1.2.2.2 285 18 _ _ kW_285_18)
  have e16 : (1 : Int) ≤ hV H0 285 60 ∧ hV H0 285 60 ≤ 6 := bTo e3 (f12.1.2.2.2 285 60 _ _ kW_285_60)
  have e18 : (0 : Int) ≤ hV H0 285 64 ∧ hV H0 285 64 ≤ 20 := bTo e5 (f12.1.2.2.2 285 64 _ _ kW_285_64)
  try simp only [e7, e10, e13]
  have p0 := f9.2.1
  have p1 := f9.2.2.1
  have p2 := f9.2.2.2
  have r0_0 := f12.2
  have r1_0 := f18.2
  try simp only [e1, e3, e5] at r0_0
  clear e1 e3 e5 e7 e8 e9 e10 e11 e12 e13
  clear f9 f12 f18
  try (have wx := r0_0 (by omega); obtain ⟨w0, w1, w2, w3, w4, w5⟩ := wx)
  refine ⟨?_, ?_, ?_⟩ <;> first | assumption | omega | trivial
def g_313_s_4 : vG := ([(31, [8], [], 0), (1251, [8, 4, 6, 7], [1, 2], 0), (90, [8], [], 0), (91, [8], [], 1), (0, [7], [], 9), (0, [6], [], 0), (31, [5], [], 0), (1311, [5, 0, 1, 2, 3], [0, 1], 0), (90, [5], [], 0), (91, [5], [], 1), (6000, [0, 1, 2, 3, 4], [0], 0), (0, [0], [], 285), (90, [1], [], -2147483648), (91, [1], [], 2147483647), (90, [2], [], -2147483648), (91, [2], [], 2147483647), (90, [3], [], -2147483648), (91, [3], [], 2147483647), (90, [4], [], -2147483648), (91, [4], [], 2147483647)], (2310, [0, 1, 2, 3], [2], 0))
theorem c_313_s_4 : vOkm T0 (eP e_313 L_313 A_313 mu_313 none) 5 g_313_s_4 := vOk_inI fun ρ η f0 f1 f2 f3 f4 f5 f6 f7 f8 f9 f10 f11 f12 f13 f14 f15 f16 f17 f18 f19 => q_313_4 (n0 := ρ 4) (n1 := ρ 3) (n2 := ρ 2) (n3 := ρ 1) (n4 := ρ 0) (n5 := ρ 5) (n6 := ρ 6) (n7 := ρ 7) (n8 := ρ 8) (H0 := η 0) (H1 := η 1) (H2 := η 2) f19 f18 f17 f16 f15 f14 f13 f12 f11 f10 f9 f8 f7 f6 f5 f4 f3 f2 f1 f0
theorem q_313_5 {n0 n1 n2 n3 n4 n5 n6 n7 n8 : Int} {H0 H1 H2 : gH} (f0 : n0 ≤ 2147483647) (f1 : (-2147483648) ≤ n0) (f2 : n1 ≤ 2147483647) (f3 : (-2147483648) ≤ n1) (f4 : n2 ≤ 2147483647) (f5 : (-2147483648) ≤ n2) (f6 : n3 ≤ 2147483647) (f7 : (-2147483648) ≤ n3) (f8 : n4 = 285) (f9 : hWt T0 H0 ∧ preb_313 n4 n3 n2 n1 n0 H0) (f10 : n5 ≤ 1) (f11 : 0 ≤ n5) (f12 : (hLe T0 H0 H1 ∧ hFr s_311.2.2.2.2 H0 H1 ∧ ((0 : Int) = 0 → H1.length = H0.length) ∧ hWt T0 H1) ∧ postb_311 n5 n4 n3 n2 n1 H0 H1) (f13 : n5 ≠ 0) (f14 : n6 = 0) (f15 : n7 = 9) (f16 : n8 ≤ 1) (f17 : 0 ≤ n8) (f18 : (hLe T0 H1 H2 ∧ hFr s_251.2.2.2.2 H1 H2 ∧ ((0 : Int) = 0 → H2.length = H1.length) ∧ hWt T0 H2) ∧ postb_251 n8 n0 n6 n7 H1 H2) (f19 : n8 ≠ 0) : 0 ≤ n2 ∧ n2 < 20 := by
  unfold preb_313 at f9
  unfold postb_311 at f12
  unfold postb_251 at f18
  have e1 : hV H1 285 18 = hV H0 285 18 := (f12.1.2.1.1 285 18 kF_311_285_18)
  have e3 : hV H1 285 60 = hV H0 285 60 := (f12.1.2.1.1 285 60 kF_311_285_60)
  have e5 : hV H1 285 64 = hV H0 285 64 := (f12.1.2.1.1 285 64 kF_311_285_64)
  have e6 : (0 : Int) ≤ hV H0 285 18 ∧ hV H0 285 18 ≤ 8 := bTo e1 (f12.1.2.2.2 285 18 _ _ kW_285_18)
  have e8 : (1 : Int) ≤ hV H0 285 60 ∧ hV H0 285 60 ≤ 6 := bTo e3 (f12.1.2.2.2 285 60 _ _ kW_285_60)
  have e10 : (0 : Int) ≤ hV H0 285 64 ∧ hV H0 285 64 ≤ 20 := bTo e5 (f12.1.2.2.2 285 64 _ _ kW_285_64)
  have p0 := f9.2.1
  have p1 := f9.2.2.1
  have p2 := f9.2.2.2
  have r0_0 := f12.2
  have r1_0 := f18.2
  try simp only [e1, e3, e5] at r0_0
  clear e1 e3 e5
  clear f9 f12 f18
  try (have wx := r0_0 (by omega); obtain ⟨w0, w1, w2, w3, w4, w5⟩ := wx)
  omega
def g_313_s_5 : vG := ([(31, [8], [], 0), (1251, [8, 4, 6, 7], [1, 2], 0), (90, [8], [], 0), (91, [8], [], 1), (0, [7], [], 9), (0, [6], [], 0), (31, [5], [], 0), (1311, [5, 0, 1, 2, 3], [0, 1], 0), (90, [5], [], 0), (91, [5], [], 1), (6000, [0, 1, 2, 3, 4], [0], 0), (0, [0], [], 285), (90, [1], [], -2147483648), (91, [1], [], 2147483647), (90, [2], [], -2147483648), (91, [2], [], 2147483647), (90, [3], [], -2147483648), (91, [3], [], 2147483647), (90, [4], [], -2147483648), (91, [4], [], 2147483647)], (70, [2], [], 20))
theorem c_313_s_5 : vOkm T0 (eP e_313 L_313 A_313 mu_313 none) 5 g_313_s_5 := vOk_inI fun ρ η f0 f1 f2 f3 f4 f5 f6 f7 f8 f9 f10 f11 f12 f13 f14 f15 f16 f17 f18 f19 => q_313_5 (n0 := ρ 4) (n1 := ρ 3) (n2 := ρ 2) (n3 := ρ 1) (n4 := ρ 0) (n5 := ρ 5) (n6 := ρ 6) (n7 := ρ 7) (n8 := ρ 8) (H0 := η 0) (H1 := η 1) (H2 := η 2) f19 f18 f17 f16 f15 f14 f13 f12 f11 f10 f9 f8 f7 f6 f5 f4 f3 f2 f1 f0
theorem kR_310_330 : vFreeR s_310.2.2.2.2 330 = true := by decide +kernel
theorem kR_311_330 : vFreeR s_311.2.2.2.2 330 = true := by decide +kernel
theorem kF_310_285_34 : vFree s_310.2.2.2.2 285 34 = true := by decide +kernel
theorem kF_251_285_34 : vFree s_251.2.2.2.2 285 34 = true := by decide +kernel
theorem kF_311_285_34 : vFree s_311.2.2.2.2 285 34 = true := by decide +kernel
theorem q_313_6 {n0 n1 n2 n3 n4 n5 n6 n7 n8 n9 n10 n11 n12 n13 n14 n15 n16 n17 n18 n19 n20 n21 n22 n23 n24 n25 n26 n27 n28 n29 : Int} {H0 H1 H2 H3 H4 H5 H6 H7 H8 : gH} (f0 : n0 ≤ 2147483647) (f1 : (-2147483648) ≤ n0) (f2 : n1 ≤ 2147483647) (f3 : (-2147483648) ≤ n1) (f4 : n2 ≤ 2147483647) (f5 : (-2147483648) ≤ n2) (f6 : n3 ≤ 2147483647) (f7 : (-2147483648) ≤ n3) (f8 : n4 = 285) (f9 : hWt T0 H0 ∧ preb_313 n4 n3 n2 n1 n0 H0) (f10 : n5 ≤ 1) (f11 : 0 ≤ n5) (f12 : (hLe T0 H0 H1 ∧ hFr s_311.2.2.2.2 H0 H1 ∧ ((0 : Int) = 0 → H1.length = H0.length) ∧ hWt T0 H1) ∧ postb_311 n5 n4 n3 n2 n1 H0 H1) (f13 : n5 ≠ 0) (f14 : n6 = 0) (f15 : n7 = 9) (f16 : n8 ≤ 1) (f17 : 0 ≤ n8) (f18 : (hLe T0 H1 H2 ∧ hFr s_251.2.2.2.2 H1 H2 ∧ ((0 : Int) = 0 → H2.length = H1.length) ∧ hWt T0 H2) ∧ postb_251 n8 n0 n6 n7 H1 H2) (f19 : n8 ≠ 0) (f20 : n9 ≤ 2147483647) (f21 : (-2147483648) ≤ n9) (f22 : (hLe T0 H2 H3 ∧ hFr s_310.2.2.2.2 H2 H3 ∧ ((0 : Int) = 0 → H3.length = H2.length) ∧ hWt T0 H3) ∧ True) (f23 : n10 = 323) (f24 : n10 = hV H3 (n4).toNat 56) (f25 : n11 = 0) (f26 : n12 = 23) (f27 : n13 = w32 (n9 + n12)) (f28 : n14 = 24) (f29 : n15 = o32 (fun x y => x / y) n13 n14) (f30 : hUpd H4 H3 n10 n11 n15) (f31 : n16 = 323) (f32 : n16 = hV H4 (n4).toNat 56) (f33 : n17 = 1) (f34 : n18 = 330) (f35 : n18 = hV H4 (n4).toNat 68) (f36 : n19 ≤ 2147483647) (f37 : (-2147483648) ≤ n19) (f38 : n19 = hV H4 (n18).toNat (n2).toNat) (f39 : hUpd H5 H4 n16 n17 n19) (f40 : n20 = 323) (f41 : n20 = hV H5 (n4).toNat 56) (f42 : n21 = 2) (f43 : hUpd H6 H5 n20 n21 n0) (f44 : n22 = 323) (f45 : n22 = hV H6 (n4).toNat 56) (f46 : n23 = 3) (f47 : hUpd H7 H6 n22 n23 n9) (f48 : n24 = 323) (f49 : n24 = hV H7 (n4).toNat 56) (f50 : n25 = 4) (f51 : n26 ≤ 40) (f52 : 0 ≤ n26) (f53 : n26 = hV H7 (n4).toNat 103) (f54 : hUpd H8 H7 n24 n25 n26) (f55 : n27 = 12) (f56 : n28 ≤ 1) (f57 : 0 ≤ n28) (f58 : n28 = hV H8 (n4).toNat 34) (f59 : n29 = w32 (n27 * n28)) : 0 ≤ n29 := by
  unfold preb_313 at f9
  unfold postb_311 at f12
  unfold postb_251 at f18
  have e4 : n19 = hV H0 330 (n2).toNat := (by rw [f34] at f38; exact f38 : n19 = hV H4 330 (n2).toNat).trans (((congrFun (uRowNe f30 330 (iS (show n10 = ((323 : Nat) : Int) from f23) rfl)) _)).trans (((congrFun (fRow f22.1.2.1 330 kR_310_330) _)).trans (((congrFun (fRow f18.1.2.1 330 kR_251_330) _)).trans ((congrFun (fRow f12.1.2.1 330 kR_311_330) _)))))
  have e9 : n26 = hV H3 285 103 := (by rw [f8] at f53; exact f53 : n26 = hV H7 285 103).trans (((uSlot f47 285 103 (iS (show n23 = ((3 : Nat) : Int) from f46) rfl))).trans (((uSlot f43 285 103 (iS (show n21 = ((2 : Nat) : Int) from f42) rfl))).trans (((uSlot f39 285 103 (iS (show n17 = ((1 : Nat) : Int) from f33) rfl))).trans (uSlot f30 285 103 (iS (show n11 = ((0 : Nat) : Int) from f25) rfl)))))
  have e18 : n28 = hV H0 285 34 := (by rw [f8] at f58; exact f58 : n28 = hV H8 285 34).trans (((uSlot f54 285 34 (iS (show n25 = ((4 : Nat) : Int) from f50) rfl))).trans (((uSlot f47 285 34 (iS (show n23 = ((3 : Nat) : Int) from f46) rfl))).trans (((uSlot f43 285 34 (iS (show n21 = ((2 : Nat) : Int) from f42) rfl))).trans (((uSlot f39 285 34 (iS (show n17 = ((1 : Nat) : Int) from f33) rfl))).trans (((uSlot f30 285 34 (iS (show n11 = ((0 : Nat) : Int) from f25) rfl))).trans (((f22.1.2.1.1 285 34 kF_310_285_34)).trans (((f18.1.2.1.1 285 34 kF_251_285_34)).trans (f12.1.2.1.1 285 34 kF_311_285_34))))))))
  have e20 : hV H1 285 18 = hV H0 285 18 := (f12.1.2.1.1 285 18 kF_311_285_18)
  have e22 : hV H1 285 60 = hV H0 285 60 := (f12.1.2.1.1 285 60 kF_311_285_60)
  have e24 : hV H1 285 64 = hV H0 285 64 := (f12.1.2.1.1 285 64 kF_311_285_64)
  have e25 : (0 : Int) ≤ hV H0 285 18 ∧ hV H0 285 18 ≤ 8 := bTo e20 (f12.1.2.2.2 285 18 _ _ kW_285_18)
  have e27 : (1 : Int) ≤ hV H0 285 60 ∧ hV H0 285 60 ≤ 6 := bTo e22 (f12.1.2.2.2 285 60 _ _ kW_285_60)
  have e29 : (0 : Int) ≤ hV H0 285 64 ∧ hV H0 285 64 ≤ 20 := bTo e24 (f12.1.2.2.2 285 64 _ _ kW_285_64)
  have p0 := f9.2.1
  have p1 := f9.2.2.1
  have p2 := f9.2.2.2
  have r0_0 := f12.2
  have r1_0 := f18.2
  try simp only [e20, e22, e24] at r0_0
  clear f24 f32 f35 f38 f41 f45 f49 f53 f58 e20 e22 e24
  clear f9 f12 f18 f22
  subst e4
  subst e9
  subst e18
  first | have b29 := o32_div_pos f29 (by omega) (by omega) (by omega) (by omega) | skip
  try rw [f28] at b29
  rw [f55] at f59
  try (have wx := r0_0 (by omega); obtain ⟨w0, w1, w2, w3, w4, w5⟩ := wx)
  first
  | (have ix0 : n29 = 12 * (hV H0 285 34) := Eq.trans f59 (w32_iv (Iml 12 rfl (Iat f57 f56)) (by decide)); subst ix0; clear f59)
  | (have ix0 : n29 = 12 * (hV H0 285 34) := Eq.trans f59 (w32_id (by omega) (by omega)); subst ix0; clear f59)
  | (unfold w32 at f59; have ix0 : n29 = 12 * (hV H0 285 34) := (by omega); subst ix0)
  | skip
  try unfold w32 at f27
  try unfold w32 at f59
  omega
def g_313_s_6 : vG := ([(3, [29, 27, 28], [], 0), (20, [28, 0], [8], 34), (90, [28], [], 0), (91, [28], [], 1), (0, [27], [], 12), (80, [24, 25, 26], [8, 7], 0), (20, [26, 0], [7], 103), (90, [26], [], 0), (91, [26], [], 40), (0, [25], [], 4), (20, [24, 0], [7], 56), (0, [24], [], 323), (80, [22, 23, 9], [7, 6], 0), (0, [23], [], 3), (20, [22, 0], [6], 56), (0, [22], [], 323), (80, [20, 21, 4], [6, 5], 0), (0, [21], [], 2), (20, [20, 0], [5], 56), (0, [20], [], 323), (80, [16, 17, 19], [5, 4], 0), (22, [19, 18, 2], [4], 0), (90, [19], [], -2147483648), (91, [19], [], 2147483647), (20, [18, 0], [4], 68), (0, [18], [], 330), (0, [17], [], 1), (20, [16, 0], [4], 56), (0, [16], [], 323), (80, [10, 11, 15], [4, 3], 0), (11, [15, 13, 14], [], 0), (0, [14], [], 24), (1, [13, 9, 12], [], 0), (0, [12], [], 23), (0, [11], [], 0), (20, [10, 0], [3], 56), (0, [10], [], 323), (1310, [9, 0, 1, 2, 3], [2, 3], 0), (90, [9], [], -2147483648), (91, [9], [], 2147483647), (31, [8], [], 0), (1251, [8, 4, 6, 7], [1, 2], 0), (90, [8], [], 0), (91, [8], [], 1), (0, [7], [], 9), (0, [6], [], 0), (31, [5], [], 0), (1311, [5, 0, 1, 2, 3], [0, 1], 0), (90, [5], [], 0), (91, [5], [], 1), (6000, [0, 1, 2, 3, 4], [0], 0), (0, [0], [], 285), (90, [1], [], -2147483648), (91, [1], [], 2147483647), (90, [2], [], -2147483648), (91, [2], [], 2147483647), (90, [3], [], -2147483648), (91, [3], [], 2147483647), (90, [4], [], -2147483648), (91, [4], [], 2147483647)], (90, [29], [], 0))
theorem c_313_s_6 : vOkm T0 (eP e_313 L_313 A_313 mu_313 none) 5 g_313_s_6 := vOk_inI fun ρ η f0 f1 f2 f3 f4 f5 f6 f7 f8 f9 f10 f11 f12 f13 f14 f15 f16 f17 f18 f19 f20 f21 f22 f23 f24 f25 f26 f27 f28 f29 f30 f31 f32 f33 f34 f35 f36 f37 f38 f39 f40 f41 f42 f43 f44 f45 f46 f47 f48 f49 f50 f51 f52 f53 f54 f55 f56 f57 f58 f59 => q_313_6 (n0 := ρ 4) (n1 := ρ 3) (n2 := ρ 2) (n3 := ρ 1) (n4 := ρ 0) (n5 := ρ 5) (n6 := ρ 6) (n7 := ρ 7) (n8 := ρ 8) (n9 := ρ 9) (n10 := ρ 10) (n11 := ρ 11) (n12 := ρ 12) (n13 := ρ 13) (n14 := ρ 14) (n15 := ρ 15) (n16 := ρ 16) (n17 := ρ 17) (n18 := ρ 18) (n19 := ρ 19) (n20 := ρ 20) (n21 := ρ 21) (n22 := ρ 22) (n23 := ρ 23) (n24 := ρ 24) (n25 := ρ 25) (n26 := ρ 26) (n27 := ρ 27) (n28 := ρ 28) (n29 := ρ 29) (H0 := η 0) (H1 := η 1) (H2 := η 2) (H3 := η 3) (H4 := η 4) (H5 := η 5) (H6 := η 6) (H7 := η 7) (H8 := η 8) f59 f58 f57 f56 f55 f54 f53 f52 f51 f50 f49 f48 f47 f46 f45 f44 f43 f42 f41 f40 f39 f38 f37 f36 f35 f34 f33 f32 f31 f30 f29 f28 f27 f26 f25 f24 f23 f22 f21 f20 f19 f18 f17 f16 f15 f14 f13 f12 f11 f10 f9 f8 f7 f6 f5 f4 f3 f2 f1 f0
theorem q_313_7 {n0 n1 n2 n3 n4 n5 n6 n7 n8 n9 n10 n11 n12 n13 n14 n15 n16 n17 n18 n19 n20 n21 n22 n23 n24 n25 n26 n27 n28 n29 : Int} {H0 H1 H2 H3 H4 H5 H6 H7 H8 : gH} (f0 : n0 ≤ 2147483647) (f1 : (-2147483648) ≤ n0) (f2 : n1 ≤ 2147483647) (f3 : (-2147483648) ≤ n1) (f4 : n2 ≤ 2147483647) (f5 : (-2147483648) ≤ n2) (f6 : n3 ≤ 2147483647) (f7 : (-2147483648) ≤ n3) (f8 : n4 = 285) (f9 : hWt T0 H0 ∧ preb_313 n4 n3 n2 n1 n0 H0) (f10 : n5 ≤ 1) (f11 : 0 ≤ n5) (f12 : (hLe T0 H0 H1 ∧ hFr s_311.2.2.2.2 H0 H1 ∧ ((0 : Int) = 0 → H1.length = H0.length) ∧ hWt T0 H1) ∧ postb_311 n5 n4 n3 n2 n1 H0 H1) (f13 : n5 ≠ 0) (f14 : n6 = 0) (f15 : n7 = 9) (f16 : n8 ≤ 1) (f17 : 0 ≤ n8) (f18 : (hLe T0 H1 H2 ∧ hFr s_251.2.2.2.2 H1 H2 ∧ ((0 : Int) = 0 → H2.length = H1.length) ∧ hWt T0 H2) ∧ postb_251 n8 n0 n6 n7 H1 H2) (f19 : n8 ≠ 0) (f20 : n9 ≤ 2147483647) (f21 : (-2147483648) ≤ n9) (f22 : (hLe T0 H2 H3 ∧ hFr s_310.2.2.2.2 H2 H3 ∧ ((0 : Int) = 0 → H3.length = H2.length) ∧ hWt T0 H3) ∧ True) (f23 : n10 = 323) (f24 : n10 = hV H3 (n4).toNat 56) (f25 : n11 = 0) (f26 : n12 = 23) (f27 : n13 = w32 (n9 + n12)) (f28 : n14 = 24) (f29 : n15 = o32 (fun x y => x / y) n13 n14) (f30 : hUpd H4 H3 n10 n11 n15) (f31 : n16 = 323) (f32 : n16 = hV H4 (n4).toNat 56) (f33 : n17 = 1) (f34 : n18 = 330) (f35 : n18 = hV H4 (n4).toNat 68) (f36 : n19 ≤ 2147483647) (f37 : (-2147483648) ≤ n19) (f38 : n19 = hV H4 (n18).toNat (n2).toNat) (f39 : hUpd H5 H4 n16 n17 n19) (f40 : n20 = 323) (f41 : n20 = hV H5 (n4).toNat 56) (f42 : n21 = 2) (f43 : hUpd H6 H5 n20 n21 n0) (f44 : n22 = 323) (f45 : n22 = hV H6 (n4).toNat 56) (f46 : n23 = 3) (f47 : hUpd H7 H6 n22 n23 n9) (f48 : n24 = 323) (f49 : n24 = hV H7 (n4).toNat 56) (f50 : n25 = 4) (f51 : n26 ≤ 40) (f52 : 0 ≤ n26) (f53 : n26 = hV H7 (n4).toNat 103) (f54 : hUpd H8 H7 n24 n25 n26) (f55 : n27 = 12) (f56 : n28 ≤ 1) (f57 : 0 ≤ n28) (f58 : n28 = hV H8 (n4).toNat 34) (f59 : n29 = w32 (n27 * n28)) : n29 ≤ 24 := by
  unfold preb_313 at f9
  unfold postb_311 at f12
  unfold postb_251 at f18
  have e4 : n19 = hV H0 330 (n2).toNat := (by rw [f34] at f38; exact f38 : n19 = hV H4 330 (n2).toNat).trans (((congrFun (uRowNe f30 330 (iS (show n10 = ((323 : Nat) : Int) from f23) rfl)) _)).trans (((congrFun (fRow f22.1.2.1 330 kR_310_330) _)).trans (((congrFun (fRow f18.1.2.1 330 kR_251_330) _)).trans ((congrFun (fRow f12.1.2.1 330 kR_311_330) _)))))
  have e9 : n26 = hV H3 285 103 := (by rw [f8] at f53; exact f53 : n26 = hV H7 285 103).trans (((uSlot f47 285 103 (iS (show n23 = ((3 : Nat) : Int) from f46) rfl))).trans (((uSlot f43 285 103 (iS (show n21 = ((2 : Nat) : Int) from f42) rfl))).trans (((uSlot f39 285 103 (iS (show n17 = ((1 : Nat) : Int) from f33) rfl))).trans (uSlot f30 285 103 (iS (show n11 = ((0 : Nat) : Int) from f25) rfl)))))
  have e18 : n28 = hV H0 285 34 := (by rw [f8] at f58; exact f58 : n28 = hV H8 285 34).trans (((uSlot f54 285 34 (iS (show n25 = ((4 : Nat) : Int) from f50) rfl))).trans (((uSlot f47 285 34 (iS (show n23 = ((3 : Nat) : Int) from f46) rfl))).trans (((uSlot f43 285 34 (iS (show n21 = ((2 : Nat) : Int) from f42) rfl))).trans (((uSlot f39 285 34 (iS (show n17 = ((1 : Nat) : Int) from f33) rfl))).trans (((uSlot f30 285 34 (iS (show n11 = ((0 : Nat) : Int) from f25) rfl))).trans (((f22.1.2.1.1 285 34 kF_310_285_34)).trans (((f18.1.2.1.1 285 34 kF_251_285_34)).trans (f12.1.2.1.1 285 34 kF_311_285_34))))))))
  have e20 : hV H1 285 18 = hV H0 285 18 := (f12.1.2.1.1 285 18 kF_311_285_18)
  have e22 : hV H1 285 60 = hV H0 285 60 := (f12.1.2.1.1 285 60 kF_311_285_60)
  have e24 : hV H1 285 64 = hV H0 285 64 := (f12.1.2.1.1 285 64 kF_311_285_64)
  have e25 : (0 : Int) ≤ hV H0 285 18 ∧ hV H0 285 18 ≤ 8 := bTo e20 (f12.1.2.2.2 285 18 _ _ kW_285_18)
  have e27 : (1 : Int) ≤ hV H0 285 60 ∧ hV H0 285 60 ≤ 6 := bTo e22 (f12.1.2.2.2 285 60 _ _ kW_285_60)
  have e29 : (0 : Int) ≤ hV H0 285 64 ∧ hV H0 285 64 ≤ 20 := bTo e24 (f12.1.2.2.2 285 64 _ _ kW_285_64)
  have p0 := f9.2.1
  have p1 := f9.2.2.1
  have p2 := f9.2.2.2
  have r0_0 := f12.2
  have r1_0 := f18.2
  try simp only [e20, e22, e24] at r0_0
  clear f24 f32 f35 f38 f41 f45 f49 f53 f58 e20 e22 e24
  clear f9 f12 f18 f22
  subst e4
  subst e9
  subst e18
  first | have b29 := o32_div_pos f29 (by omega) (by omega) (by omega) (by omega) | skip
  try rw [f28] at b29
  rw [f55] at f59
  try (have wx := r0_0 (by omega); obtain ⟨w0, w1, w2, w3, w4, w5⟩ := wx)
  first
  | (have ix0 : n29 = 12 * (hV H0 285 34) := Eq.trans f59 (w32_iv (Iml 12 rfl (Iat f57 f56)) (by decide)); subst ix0; clear f59)
  | (have ix0 : n29 = 12 * (hV H0 285 34) := Eq.trans f59 (w32_id (by omega) (by omega)); subst ix0; clear f59)
  | (unfold w32 at f59; have ix0 : n29 = 12 * (hV H0 285 34) := (by omega); subst ix0)
  | skip
  try unfold w32 at f27
  try unfold w32 at f59
  omega
def g_313_s_7 : vG := ([(3, [29, 27, 28], [], 0), (20, [28, 0], [8], 34), (90, [28], [], 0), (91, [28], [], 1), (0, [27], [], 12), (80, [24, 25, 26], [8, 7], 0), (20, [26, 0], [7], 103), (90, [26], [], 0), (91, [26], [], 40), (0, [25], [], 4), (20, [24, 0], [7], 56), (0, [24], [], 323), (80, [22, 23, 9], [7, 6], 0), (0, [23], [], 3), (20, [22, 0], [6], 56), (0, [22], [], 323), (80, [20, 21, 4], [6, 5], 0), (0, [21], [], 2), (20, [20, 0], [5], 56), (0, [20], [], 323), (80, [16, 17, 19], [5, 4], 0), (22, [19, 18, 2], [4], 0), (90, [19], [], -2147483648), (91, [19], [], 2147483647), (20, [18, 0], [4], 68), (0, [18], [], 330), (0, [17], [], 1), (20, [16, 0], [4], 56), (0, [16], [], 323), (80, [10, 11, 15], [4, 3], 0), (11, [15, 13, 14], [], 0), (0, [14], [], 24), (1, [13, 9, 12], [], 0), (0, [12], [], 23), (0, [11], [], 0), (20, [10, 0], [3], 56), (0, [10], [], 323), (1310, [9, 0, 1, 2, 3], [2, 3], 0), (90, [9], [], -2147483648), (91, [9], [], 2147483647), (31, [8], [], 0), (1251, [8, 4, 6, 7], [1, 2], 0), (90, [8], [], 0), (91, [8], [], 1), (0, [7], [], 9), (0, [6], [], 0), (31, [5], [], 0), (1311, [5, 0, 1, 2, 3], [0, 1], 0), (90, [5], [], 0), (91, [5], [], 1), (6000, [0, 1, 2, 3, 4], [0], 0), (0, [0], [], 285), (90, [1], [], -2147483648), (91, [1], [], 2147483647), (90, [2], [], -2147483648), (91, [2], [], 2147483647), (90, [3], [], -2147483648), (91, [3], [], 2147483647), (90, [4], [], -2147483648), (91, [4], [], 2147483647)], (91, [29], [], 24))
theorem c_313_s_7 : vOkm T0 (eP e_313 L_313 A_313 mu_313 none) 5 g_313_s_7 := vOk_inI fun ρ η f0 f1 f2 f3 f4 f5 f6 f7 f8 f9 f10 f11 f12 f13 f14 f15 f16 f17 f18 f19 f20 f21 f22 f23 f24 f25 f26 f27 f28 f29 f30 f31 f32 f33 f34 f35 f36 f37 f38 f39 f40 f41 f42 f43 f44 f45 f46 f47 f48 f49 f50 f51 f52 f53 f54 f55 f56 f57 f58 f59 => q_313_7 (n0 := ρ 4) (n1 := ρ 3) (n2 := ρ 2) (n3 := ρ 1) (n4 := ρ 0) (n5 := ρ 5) (n6 := ρ 6) (n7 := ρ 7) (n8 := ρ 8) (n9 := ρ 9) (n10 := ρ 10) (n11 := ρ 11) (n12 := ρ 12) (n13 := ρ 13) (n14 := ρ 14) (n15 := ρ 15) (n16 := ρ 16) (n17 := ρ 17) (n18 := ρ 18) (n19 := ρ 19) (n20 := ρ 20) (n21 := ρ 21) (n22 := ρ 22) (n23 := ρ 23) (n24 := ρ 24) (n25 := ρ 25) (n26 := ρ 26) (n27 := ρ 27) (n28 := ρ 28) (n29 := ρ 29) (H0 := η 0) (H1 := η 1) (H2 := η 2) (H3 := η 3) (H4 := η 4) (H5 := η 5) (H6 := η 6) (H7 := η 7) (H8 := η 8) f59 f58 f57 f56 f55 f54 f53 f52 f51 f50 f49 f48 f47 f46 f45 f44 f43 f42 f41 f40 f39 f38 f37 f36 f35 f34 f33 f32 f31 f30 f29 f28 f27 f26 f25 f24 f23 f22 f21 f20 f19 f18 f17 f16 f15 f14 f13 f12 f11 f10 f9 f8 f7 f6 f5 f4 f3 f2 f1 f0
theorem q_313_8 {n0 n1 n2 n3 n4 n5 n6 n7 n8 n9 n10 n11 n12 n13 n14 n15 n16 n17 n18 n19 n20 n21 n22 n23 n24 n25 n26 n27 n28 n29 : Int} {H0 H1 H2 H3 H4 H5 H6 H7 H8 : gH} (f0 : n0 ≤ 2147483647) (f1 : (-2147483648) ≤ n0) (f2 : n1 ≤ 2147483647) (f3 : (-2147483648) ≤ n1) (f4 : n2 ≤ 2147483647) (f5 : (-2147483648) ≤ n2) (f6 : n3 ≤ 2147483647) (f7 : (-2147483648) ≤ n3) (f8 : n4 = 285) (f9 : hWt T0 H0 ∧ preb_313 n4 n3 n2 n1 n0 H0) (f10 : n5 ≤ 1) (f11 : 0 ≤ n5) (f12 : (hLe T0 H0 H1 ∧ hFr s_311.2.2.2.2 H0 H1 ∧ ((0 : Int) = 0 → H1.length = H0.length) ∧ hWt T0 H1) ∧ postb_311 n5 n4 n3 n2 n1 H0 H1) (f13 : n5 ≠ 0) (f14 : n6 = 0) (f15 : n7 = 9) (f16 : n8 ≤ 1) (f17 : 0 ≤ n8) (f18 : (hLe T0 H1 H2 ∧ hFr s_251.2.2.2.2 H1 H2 ∧ ((0 : Int) = 0 → H2.length = H1.length) ∧ hWt T0 H2) ∧ postb_251 n8 n0 n6 n7 H1 H2) (f19 : n8 ≠ 0) (f20 : n9 ≤ 2147483647) (f21 : (-2147483648) ≤ n9) (f22 : (hLe T0 H2 H3 ∧ hFr s_310.2.2.2.2 H2 H3 ∧ ((0 : Int) = 0 → H3.length = H2.length) ∧ hWt T0 H3) ∧ True) (f23 : n10 = 323) (f24 : n10 = hV H3 (n4).toNat 56) (f25 : n11 = 0) (f26 : n12 = 23) (f27 : n13 = w32 (n9 + n12)) (f28 : n14 = 24) (f29 : n15 = o32 (fun x y => x / y) n13 n14) (f30 : hUpd H4 H3 n10 n11 n15) (f31 : n16 = 323) (f32 : n16 = hV H4 (n4).toNat 56) (f33 : n17 = 1) (f34 : n18 = 330) (f35 : n18 = hV H4 (n4).toNat 68) (f36 : n19 ≤ 2147483647) (f37 : (-2147483648) ≤ n19) (f38 : n19 = hV H4 (n18).toNat (n2).toNat) (f39 : hUpd H5 H4 n16 n17 n19) (f40 : n20 = 323) (f41 : n20 = hV H5 (n4).toNat 56) (f42 : n21 = 2) (f43 : hUpd H6 H5 n20 n21 n0) (f44 : n22 = 323) (f45 : n22 = hV H6 (n4).toNat 56) (f46 : n23 = 3) (f47 : hUpd H7 H6 n22 n23 n9) (f48 : n24 = 323) (f49 : n24 = hV H7 (n4).toNat 56) (f50 : n25 = 4) (f51 : n26 ≤ 40) (f52 : 0 ≤ n26) (f53 : n26 = hV H7 (n4).toNat 103) (f54 : hUpd H8 H7 n24 n25 n26) (f55 : n27 = 12) (f56 : n28 ≤ 1) (f57 : 0 ≤ n28) (f58 : n28 = hV H8 (n4).toNat 34) (f59 : n29 = w32 (n27 * n28)) : Ab_313_93 n4 n3 n2 n1 n0 n4 n3 n2 n1 n0 n9 n29 H0 H8 ∧ ∀ q, none = some q → mub_313_93 n4 n3 n2 n1 n0 n4 n3 n2 n1 n0 n9 n29 H0 H8 < q := by
  unfold preb_313 at f9
  unfold postb_311 at f12
  unfold postb_251 at f18
  unfold Ab_313_93
  have e4 : n19 = hV H0 330 (n2).toNat := (by rw [f34] at f38; exact f38 : n19 = hV H4 330 (n2).toNat).trans (((congrFun (uRowNe f30 330 (iS (show n10 = ((323 : Nat) : Int) from f23) rfl)) _)).trans (((congrFun (fRow f22.1.2.1 330 kR_310_330) _)).trans (((congrFun (fRow f18.1.2.1 330 kR_251_330) _)).trans ((congrFun (fRow f12.1.2.1 330 kR_311_330) _)))))
  have e9 : n26 = hV H3 285 103 := (by rw [f8] at f53; exact f53 : n26 = hV H7 285 103).trans (((uSlot f47 285 103 (iS (show n23 = ((3 : Nat) : Int) from f46) rfl))).trans (((uSlot f43 285 103 (iS (show n21 = ((2 : Nat) : Int) from f42) rfl))).trans (((uSlot f39 285 103 (iS (show n17 = ((1 : Nat) : Int) from f33) rfl))).trans (uSlot f30 285 103 (iS (show n11 = ((0 : Nat) : Int) from f25) rfl)))))
  have e18 : n28 = hV H0 285 34 := (by rw [f8] at f58; exact f58 : n28 = hV H8 285 34).trans (((uSlot f54 285 34 (iS (show n25 = ((4 : Nat) : Int) from f50) rfl))).trans (((uSlot f47 285 34 (iS (show n23 = ((3 : Nat) : Int) from f46) rfl))).trans (((uSlot f43 285 34 (iS (show n21 = ((2 : Nat) : Int) from f42) rfl))).trans (((uSlot f39 285 34 (iS (show n17 = ((1 : Nat) : Int) from f33) rfl))).trans (((uSlot f30 285 34 (iS (show n11 = ((0 : Nat) : Int) from f25) rfl))).trans (((f22.1.2.1.1 285 34 kF_310_285_34)).trans (((f18.1.2.1.1 285 34 kF_251_285_34)).trans (f12.1.2.1.1 285 34 kF_311_285_34))))))))
  have e20 : hV H1 285 18 = hV H0 285 18 := (f12.1.2.1.1 285 18 kF_311_285_18)
  have e22 : hV H1 285 60 = hV H0 285 60 := (f12.1.2.1.1 285 60 kF_311_285_60)
  have e24 : hV H1 285 64 = hV H0 285 64 := (f12.1.2.1.1 285 64 kF_311_285_64)
  have e25 : hV H8 285 34 = hV H0 285 34 := ((uSlot f54 285 34 (iS (show n25 = ((4 : Nat) : Int) from f50) rfl))).trans (((uSlot f47 285 34 (iS (show n23 = ((3 : Nat) : Int) from f46) rfl))).trans (((uSlot f43 285 34 (iS (show n21 = ((2 : Nat) : Int) from f42) rfl))).trans (((uSlot f39 285 34 (iS (show n17 = ((1 : Nat) : Int) from f33) rfl))).trans (((uSlot f30 285 34 (iS (show n11 = ((0 : Nat) : Int) from f25) rfl))).trans (((f22.1.2.1.1 285 34 kF_310_285_34)).trans (((f18.1.2.1.1 285 34 kF_251_285_34)).trans (f12.1.2.1.1 285 34 kF_311_285_34)))))))
  have e26 : (0 : Int) ≤ hV H0 285 18 ∧ hV H0 285 18 ≤ 8 := bTo e20 (f12.1.2.2.2 285 18 _ _ kW_285_18)
  have e28 : (1 : Int) ≤ hV H0 285 60 ∧ hV H0 285 60 ≤ 6 := bTo e22 (f12.1.2.2.2 285 60 _ _ kW_285_60)
  have e30 : (0 : Int) ≤ hV H0 285 64 ∧ hV H0 285 64 ≤ 20 := bTo e24 (f12.1.2.2.2 285 64 _ _ kW_285_64)
  have e32 : (0 : Int) ≤ hV H0 285 34 ∧ hV H0 285 34 ≤ 1 := f9.1 285 34 _ _ kW_285_34
  try simp only [e25]
  have p0 := f9.2.1
  have p1 := f9.2.2.1
  have p2 := f9.2.2.2
  have r0_0 := f12.2
  have r1_0 := f18.2
  try simp only [e20, e22, e24] at r0_0
  clear f24 f32 f35 f38 f41 f45 f49 f53 f58 e20 e22 e24 e25
  clear f9 f12 f18 f22
  subst e4
  subst e9
  subst e18
  first | have b29 := o32_div_pos f29 (by omega) (by omega) (by omega) (by omega) | skip
  try rw [f28] at b29
  rw [f55] at f59
  try (have wx := r0_0 (by omega); obtain ⟨w0, w1, w2, w3, w4, w5⟩ := wx)
  first
  | (have ix0 : n29 = 12 * (hV H0 285 34) := Eq.trans f59 (w32_iv (Iml 12 rfl (Iat f57 f56)) (by decide)); subst ix0; clear f59)
  | (have ix0 : n29 = 12 * (hV H0 285 34) := Eq.trans f59 (w32_id (by omega) (by omega)); subst ix0; clear f59)
  | (unfold w32 at f59; have ix0 : n29 = 12 * (hV H0 285 34) := (by omega); subst ix0)
  | skip
  try unfold w32 at f27
  try unfold w32 at f59
  refine ⟨?_, fun q hq => ?_⟩
  · refine ⟨?_, ?_, ?_, ?_, ?_⟩ <;> first | assumption | omega | trivial
  · exact nomatch hq
def g_313_s_8 : vG := ([(3, [29, 27, 28], [], 0), (20, [28, 0], [8], 34), (90, [28], [], 0), (91, [28], [], 1), (0, [27], [], 12), (80, [24, 25, 26], [8, 7], 0), (20, [26, 0], [7], 103), (90, [26], [], 0), (91, [26], [], 40), (0, [25], [], 4), (20, [24, 0], [7], 56), (0, [24], [], 323), (80, [22, 23, 9], [7, 6], 0), (0, [23], [], 3), (20, [22, 0], [6], 56), (0, [22], [], 323), (80, [20, 21, 4], [6, 5], 0), (0, [21], [], 2), (20, [20, 0], [5], 56), (0, [20], [], 323), (80, [16, 17, 19], [5, 4], 0), (22, [19, 18, 2], [4], 0), (90, [19], [], -2147483648), (91, [19], [], 2147483647), (20, [18, 0], [4], 68), (0, [18], [], 330), (0, [17], [], 1), (20, [16, 0], [4], 56), (0, [16], [], 323), (80, [10, 11, 15], [4, 3], 0), (11, [15, 13, 14], [], 0), (0, [14], [], 24), (1, [13, 9, 12], [], 0), (0, [12], [], 23), (0, [11], [], 0), (20, [10, 0], [3], 56), (0, [10], [], 323), (1310, [9, 0, 1, 2, 3], [2, 3], 0), (90, [9], [], -2147483648), (91, [9], [], 2147483647), (31, [8], [], 0), (1251, [8, 4, 6, 7], [1, 2], 0), (90, [8], [], 0), (91, [8], [], 1), (0, [7], [], 9), (0, [6], [], 0), (31, [5], [], 0), (1311, [5, 0, 1, 2, 3], [0, 1], 0), (90, [5], [], 0), (91, [5], [], 1), (6000, [0, 1, 2, 3, 4], [0], 0), (0, [0], [], 285), (90, [1], [], -2147483648), (91, [1], [], 2147483647), (90, [2], [], -2147483648), (91, [2], [], 2147483647), (90, [3], [], -2147483648), (91, [3], [], 2147483647), (90, [4], [], -2147483648), (91, [4], [], 2147483647)], (4000, [0, 1, 2, 3, 4, 9, 29], [8], 93))
theorem c_313_s_8 : vOkm T0 (eP e_313 L_313 A_313 mu_313 none) 5 g_313_s_8 := vOk_inI fun ρ η f0 f1 f2 f3 f4 f5 f6 f7 f8 f9 f10 f11 f12 f13 f14 f15 f16 f17 f18 f19 f20 f21 f22 f23 f24 f25 f26 f27 f28 f29 f30 f31 f32 f33 f34 f35 f36 f37 f38 f39 f40 f41 f42 f43 f44 f45 f46 f47 f48 f49 f50 f51 f52 f53 f54 f55 f56 f57 f58 f59 => q_313_8 (n0 := ρ 4) (n1 := ρ 3) (n2 := ρ 2) (n3 := ρ 1) (n4 := ρ 0) (n5 := ρ 5) (n6 := ρ 6) (n7 := ρ 7) (n8 := ρ 8) (n9 := ρ 9) (n10 := ρ 10) (n11 := ρ 11) (n12 := ρ 12) (n13 := ρ 13) (n14 := ρ 14) (n15 := ρ 15) (n16 := ρ 16) (n17 := ρ 17) (n18 := ρ 18) (n19 := ρ 19) (n20 := ρ 20) (n21 := ρ 21) (n22 := ρ 22) (n23 := ρ 23) (n24 := ρ 24) (n25 := ρ 25) (n26 := ρ 26) (n27 := ρ 27) (n28 := ρ 28) (n29 := ρ 29) (H0 := η 0) (H1 := η 1) (H2 := η 2) (H3 := η 3) (H4 := η 4) (H5 := η 5) (H6 := η 6) (H7 := η 7) (H8 := η 8) f59 f58 f57 f56 f55 f54 f53 f52 f51 f50 f49 f48 f47 f46 f45 f44 f43 f42 f41 f40 f39 f38 f37 f36 f35 f34 f33 f32 f31 f30 f29 f28 f27 f26 f25 f24 f23 f22 f21 f20 f19 f18 f17 f16 f15 f14 f13 f12 f11 f10 f9 f8 f7 f6 f5 f4 f3 f2 f1 f0
def p_313_s : List vG := [g_313_s_0,
  g_313_s_1,
  g_313_s_2,
  g_313_s_3,
  g_313_s_4,
  g_313_s_5,
  g_313_s_6,
  g_313_s_7,
  g_313_s_8]
theorem r_313_s : vCovO true (eR0 e_313 L_313 cs_313 2000) p_313_s = true := by decide +kernel
theorem kR_313_306 : vFreeR s_313.2.2.2.2 306 = true := by decide +kernel
theorem kF_313_285_34 : vFree s_313.2.2.2.2 285 34 = true := by decide +kernel
theorem q_313_9 {q0 : Nat} {n0 n1 n2 n3 n4 n5 n6 n7 n8 n9 n10 n11 n12 n13 n14 n15 n16 n17 n18 : Int} {H0 H1 : gH} (f0 : n0 ≤ 24) (f1 : 0 ≤ n0) (f2 : n1 ≤ 2147483647) (f3 : (-2147483648) ≤ n1) (f4 : n2 ≤ 2147483647) (f5 : (-2147483648) ≤ n2) (f6 : n3 ≤ 2147483647) (f7 : (-2147483648) ≤ n3) (f8 : n4 ≤ 2147483647) (f9 : (-2147483648) ≤ n4) (f10 : n5 ≤ 2147483647) (f11 : (-2147483648) ≤ n5) (f12 : n6 = 285) (f13 : n7 ≤ 2147483647) (f14 : (-2147483648) ≤ n7) (f15 : n8 ≤ 2147483647) (f16 : (-2147483648) ≤ n8) (f17 : n9 ≤ 2147483647) (f18 : (-2147483648) ≤ n9) (f19 : n10 ≤ 2147483647) (f20 : (-2147483648) ≤ n10) (f21 : n11 = 285) (f22 : (hLe T0 H0 H1 ∧ hFr s_313.2.2.2.2 H0 H1 ∧ hWt T0 H1) ∧ (Ab_313_93 n11 n10 n9 n8 n7 n6 n5 n4 n3 n2 n1 n0 H0 H1 ∧ preb_313 n11 n10 n9 n8 n7 H0) ∧ some q0 = some (mub_313_93 n11 n10 n9 n8 n7 n6 n5 n4 n3 n2 n1 n0 H0 H1)) (f23 : n12 = 12) (f24 : n13 ≤ 1) (f25 : 0 ≤ n13) (f26 : n13 = hV H1 (n6).toNat 34) (f27 : n14 = w32 (n12 * n13)) (f28 : n15 = 306) (f29 : n15 = hV H1 (n6).toNat 36) (f30 : n16 ≤ 1) (f31 : 0 ≤ n16) (f32 : n16 = hV H1 (n6).toNat 34) (f33 : n17 ≤ 12) (f34 : 0 ≤ n17) (f35 : n17 = hV H1 (n15).toNat (n16).toNat) (f36 : n18 = w32 (n14 + n17)) (f37 : n0 < n18) : 0 ≤ n0 ∧ n0 < 24 := by
  have g4 := f22.2.1.1
  unfold Ab_313_93 at g4
  have g3 := f22.2.1.2
  unfold preb_313 at g3
  have e1 : n13 = hV H0 285 34 := (by rw [f12] at f26; exact f26 : n13 = hV H1 285 34).trans ((f22.1.2.1.1 285 34 kF_313_285_34))
  have e2 : n16 = hV H0 285 34 := (by rw [f12] at f32; exact f32 : n16 = hV H1 285 34).trans ((f22.1.2.1.1 285 34 kF_313_285_34))
  have e4 : n17 = hV H0 306 (n16).toNat := (by rw [f28] at f35; exact f35 : n17 = hV H1 306 (n16).toNat).trans ((congrFun (fRow f22.1.2.1 306 kR_313_306) _))
  have e5 : hV H1 285 34 = hV H0 285 34 := (f22.1.2.1.1 285 34 kF_313_285_34)
  have e6 : (0 : Int) ≤ hV H0 285 34 ∧ hV H0 285 34 ≤ 1 := bTo e5 (f22.1.2.2 285 34 _ _ kW_285_34)
  have k0 := g4.1
  have k1 := g4.2.1
  have k2 := g4.2.2.1
  have k3 := g4.2.2.2.1
  have y0 := g4.2.2.2.2
  have p0 := g3.1
  have p1 := g3.2.1
  have p2 := g3.2.2
  try simp only [e5] at y0
  clear g3
  clear g4
  clear f26 f29 f32 f35 e5
  clear f22
  subst e1
  subst e2
  subst e4
  rw [f23] at f27
  unfold w32 at f27 f36
  try have hl : hV H0 285 34 = 0 ∨ hV H0 285 34 = 1 := by omega
  try subst k3
  try subst k2
  try subst k1
  try subst k0
  omega
def g_313_93_0 : vG := ([(42, [11, 18], [], 0), (1, [18, 14, 17], [], 0), (22, [17, 15, 16], [1], 0), (90, [17], [], 0), (91, [17], [], 12), (20, [16, 5], [1], 34), (90, [16], [], 0), (91, [16], [], 1), (20, [15, 5], [1], 36), (0, [15], [], 306), (3, [14, 12, 13], [], 0), (20, [13, 5], [1], 34), (90, [13], [], 0), (91, [13], [], 1), (0, [12], [], 12), (5000, [0, 1, 2, 3, 4, 5, 6, 7, 8, 9, 10, 11], [0, 1], 93), (0, [0], [], 285), (90, [1], [], -2147483648), (91, [1], [], 2147483647), (90, [2], [], -2147483648), (91, [2], [], 2147483647), (90, [3], [], -2147483648), (91, [3], [], 2147483647), (90, [4], [], -2147483648), (91, [4], [], 2147483647), (0, [5], [], 285), (90, [6], [], -2147483648), (91, [6], [], 2147483647), (90, [7], [], -2147483648), (91, [7], [], 2147483647), (90, [8], [], -2147483648), (91, [8], [], 2147483647), (90, [9], [], -2147483648), (91, [9], [], 2147483647), (90, [10], [], -2147483648), (91, [10], [], 2147483647), (90, [11], [], 0), (91, [11], [], 24)], (70, [11], [], 24))
theorem c_313_93_0 {q0 : Nat} : vOkm T0 (eP e_313 L_313 A_313 mu_313 (some q0)) 5 g_313_93_0 := vOk_inI fun ρ η f0 f1 f2 f3 f4 f5 f6 f7 f8 f9 f10 f11 f12 f13 f14 f15 f16 f17 f18 f19 f20 f21 f22 f23 f24 f25 f26 f27 f28 f29 f30 f31 f32 f33 f34 f35 f36 f37 => q_313_9 (q0 := q0) (n0 := ρ 11) (n1 := ρ 10) (n2 := ρ 9) (n3 := ρ 8) (n4 := ρ 7) (n5 := ρ 6) (n6 := ρ 5) (n7 := ρ 4) (n8 := ρ 3) (n9 := ρ 2) (n10 := ρ 1) (n11 := ρ 0) (n12 := ρ 12) (n13 := ρ 13) (n14 := ρ 14) (n15 := ρ 15) (n16 := ρ 16) (n17 := ρ 17) (n18 := ρ 18) (H0 := η 0) (H1 := η 1) f37 f36 f35 f34 f33 f32 f31 f30 f29 f28 f27 f26 f25 f24 f23 f22 f21 f20 f19 f18 f17 f16 f15 f14 f13 f12 f11 f10 f9 f8 f7 f6 f5 f4 f3 f2 f1 f0
theorem kR_313_307 : vFreeR s_313.2.2.2.2 307 = true := by decide +kernel
theorem q_313_10 {q0 : Nat} {n0 n1 n2 n3 n4 n5 n6 n7 n8 n9 n10 n11 n12 n13 n14 n15 n16 n17 n18 n19 n20 n21 : Int} {H0 H1 : gH} (f0 : n0 ≤ 24) (f1 : 0 ≤ n0) (f2 : n1 ≤ 2147483647) (f3 : (-2147483648) ≤ n1) (f4 : n2 ≤ 2147483647) (f5 : (-2147483648) ≤ n2) (f6 : n3 ≤ 2147483647) (f7 : (-2147483648) ≤ n3) (f8 : n4 ≤ 2147483647) (f9 : (-2147483648) ≤ n4) (f10 : n5 ≤ 2147483647) (f11 : (-2147483648) ≤ n5) (f12 : n6 = 285) (f13 : n7 ≤ 2147483647) (f14 : (-2147483648) ≤ n7) (f15 : n8 ≤ 2147483647) (f16 : (-2147483648) ≤ n8) (f17 : n9 ≤ 2147483647) (f18 : (-2147483648) ≤ n9) (f19 : n10 ≤ 2147483647) (f20 : (-2147483648) ≤ n10) (f21 : n11 = 285) (f22 : (hLe T0 H0 H1 ∧ hFr s_313.2.2.2.2 H0 H1 ∧ hWt T0 H1) ∧ (Ab_313_93 n11 n10 n9 n8 n7 n6 n5 n4 n3 n2 n1 n0 H0 H1 ∧ preb_313 n11 n10 n9 n8 n7 H0) ∧ some q0 = some (mub_313_93 n11 n10 n9 n8 n7 n6 n5 n4 n3 n2 n1 n0 H0 H1)) (f23 : n12 = 12) (f24 : n13 ≤ 1) (f25 : 0 ≤ n13) (f26 : n13 = hV H1 (n6).toNat 34) (f27 : n14 = w32 (n12 * n13)) (f28 : n15 = 306) (f29 : n15 = hV H1 (n6).toNat 36) (f30 : n16 ≤ 1) (f31 : 0 ≤ n16) (f32 : n16 = hV H1 (n6).toNat 34) (f33 : n17 ≤ 12) (f34 : 0 ≤ n17) (f35 : n17 = hV H1 (n15).toNat (n16).toNat) (f36 : n18 = w32 (n14 + n17)) (f37 : n0 < n18) (f38 : n19 = 307) (f39 : n19 = hV H1 (n6).toNat 37) (f40 : n20 ≤ 1) (f41 : 0 ≤ n20) (f42 : n20 = hV H1 (n19).toNat (n0).toNat) (f43 : n20 ≠ 0) (f44 : n21 = w32 (n0 + 1)) : 0 ≤ n21 := by
  have g4 := f22.2.1.1
  unfold Ab_313_93 at g4
  have g3 := f22.2.1.2
  unfold preb_313 at g3
  have e1 : n13 = hV H0 285 34 := (by rw [f12] at f26; exact f26 : n13 = hV H1 285 34).trans ((f22.1.2.1.1 285 34 kF_313_285_34))
  have e2 : n16 = hV H0 285 34 := (by rw [f12] at f32; exact f32 : n16 = hV H1 285 34).trans ((f22.1.2.1.1 285 34 kF_313_285_34))
  have e4 : n17 = hV H0 306 (n16).toNat := (by rw [f28] at f35; exact f35 : n17 = hV H1 306 (n16).toNat).trans ((congrFun (fRow f22.1.2.1 306 kR_313_306) _))
  have e6 : n20 = hV H0 307 (n0).toNat := (by rw [f38] at f42; exact f42 : n20 = hV H1 307 (n0).toNat).trans ((congrFun (fRow f22.1.2.1 307 kR_313_307) _))
  have e7 : hV H1 285 34 = hV H0 285 34 := (f22.1.2.1.1 285 34 kF_313_285_34)
  have e8 : (0 : Int) ≤ hV H0 285 34 ∧ hV H0 285 34 ≤ 1 := bTo e7 (f22.1.2.2 285 34 _ _ kW_285_34)
  have k0 := g4.1
  have k1 := g4.2.1
  have k2 := g4.2.2.1
  have k3 := g4.2.2.2.1
  have y0 := g4.2.2.2.2
  have p0 := g3.1
  have p1 := g3.2.1
  have p2 := g3.2.2
  try simp only [e7] at y0
  clear g3
  clear g4
  clear f26 f29 f32 f35 f39 f42 e7
  clear f22
  subst e1
  subst e2
  subst e4
  subst e6
  rw [f23] at f27
  try have hl : hV H0 285 34 = 0 ∨ hV H0 285 34 = 1 := by omega
  first
  | (have ix0 : n21 = n0 + 1 := Eq.trans f44 (w32_iv (Iad (Iat f1 f0) (IC 1)) (by decide)); subst ix0; clear f44)
  | (have ix0 : n21 = n0 + 1 := Eq.trans f44 (w32_id (by omega) (by omega)); subst ix0; clear f44)
  | (unfold w32 at f44; have ix0 : n21 = n0 + 1 := (by omega); subst ix0)
  | skip
  try unfold w32 at f27
  try unfold w32 at f36
  try unfold w32 at f44
  try subst k3
  try subst k2
  try subst k1
  try subst k0
  omega
def g_313_93_1 : vG := ([(10, [21, 11], [], 1), (31, [20], [], 0), (22, [20, 19, 11], [1], 0), (90, [20], [], 0), (91, [20], [], 1), (20, [19, 5], [1], 37), (0, [19], [], 307), (42, [11, 18], [], 0), (1, [18, 14, 17], [], 0), (22, [17, 15, 16], [1], 0), (90, [17], [], 0), (91, [17], [], 12), (20, [16, 5], [1], 34), (90, [16], [], 0), (91, [16], [], 1), (20, [15, 5], [1], 36), (0, [15], [], 306), (3, [14, 12, 13], [], 0), (20, [13, 5], [1], 34), (90, [13], [], 0), (91, [13], [], 1), (0, [12], [], 12), (5000, [0, 1, 2, 3, 4, 5, 6, 7, 8, 9, 10, 11], [0, 1], 93), (0, [0], [], 285), (90, [1], [], -2147483648), (91, [1], [], 2147483647), (90, [2], [], -2147483648), (91, [2], [], 2147483647), (90, [3], [], -2147483648), (91, [3], [], 2147483647), (90, [4], [], -2147483648), (91, [4], [], 2147483647), (0, [5], [], 285), (90, [6], [], -2147483648), (91, [6], [], 2147483647), (90, [7], [], -2147483648), (91, [7], [], 2147483647), (90, [8], [], -2147483648), (91, [8], [], 2147483647), (90, [9], [], -2147483648), (91, [9], [], 2147483647), (90, [10], [], -2147483648), (91, [10], [], 2147483647), (90, [11], [], 0), (91, [11], [], 24)], (90, [21], [], 0))
theorem c_313_93_1 {q0 : Nat} : vOkm T0 (eP e_313 L_313 A_313 mu_313 (some q0)) 5 g_313_93_1 := vOk_inI fun ρ η f0 f1 f2 f3 f4 f5 f6 f7 f8 f9 f10 f11 f12 f13 f14 f15 f16 f17 f18 f19 f20 f21 f22 f23 f24 f25 f26 f27 f28 f29 f30 f31 f32 f33 f34 f35 f36 f37 f38 f39 f40 f41 f42 f43 f44 => q_313_10 (q0 := q0) (n0 := ρ 11) (n1 := ρ 10) (n2 := ρ 9) (n3 := ρ 8) (n4 := ρ 7) (n5 := ρ 6) (n6 := ρ 5) (n7 := ρ 4) (n8 := ρ 3) (n9 := ρ 2) (n10 := ρ 1) (n11 := ρ 0) (n12 := ρ 12) (n13 := ρ 13) (n14 := ρ 14) (n15 := ρ 15) (n16 := ρ 16) (n17 := ρ 17) (n18 := ρ 18) (n19 := ρ 19) (n20 := ρ 20) (n21 := ρ 21) (H0 := η 0) (H1 := η 1) f44 f43 f42 f41 f40 f39 f38 f37 f36 f35 f34 f33 f32 f31 f30 f29 f28 f27 f26 f25 f24 f23 f22 f21 f20 f19 f18 f17 f16 f15 f14 f13 f12 f11 f10 f9 f8 f7 f6 f5 f4 f3 f2 f1 f0
theorem q_313_11 {q0 : Nat} {n0 n1 n2 n3 n4 n5 n6 n7 n8 n9 n10 n11 n12 n13 n14 n15 n16 n17 n18 n19 n20 n21 : Int} {H0 H1 : gH} (f0 : n0 ≤ 24) (f1 : 0 ≤ n0) (f2 : n1 ≤ 2147483647) (f3 : (-2147483648) ≤ n1) (f4 : n2 ≤ 2147483647) (f5 : (-2147483648) ≤ n2) (f6 : n3 ≤ 2147483647) (f7 : (-2147483648) ≤ n3) (f8 : n4 ≤ 2147483647) (f9 : (-2147483648) ≤ n4) (f10 : n5 ≤ 2147483647) (f11 : (-2147483648) ≤ n5) (f12 : n6 = 285) (f13 : n7 ≤ 2147483647) (f14 : (-2147483648) ≤ n7) (f15 : n8 ≤ 2147483647) (f16 : (-2147483648) ≤ n8) (f17 : n9 ≤ 2147483647) (f18 : (-2147483648) ≤ n9) (f19 : n10 ≤ 2147483647) (f20 : (-2147483648) ≤ n10) (f21 : n11 = 285) (f22 : (hLe T0 H0 H1 ∧ hFr s_313.2.2.2.2 H0 H1 ∧ hWt T0 H1) ∧ (Ab_313_93 n11 n10 n9 n8 n7 n6 n5 n4 n3 n2 n1 n0 H0 H1 ∧ preb_313 n11 n10 n9 n8 n7 H0) ∧ some q0 = some (mub_313_93 n11 n10 n9 n8 n7 n6 n5 n4 n3 n2 n1 n0 H0 H1)) (f23 : n12 = 12) (f24 : n13 ≤ 1) (f25 : 0 ≤ n13) (f26 : n13 = hV H1 (n6).toNat 34) (f27 : n14 = w32 (n12 * n13)) (f28 : n15 = 306) (f29 : n15 = hV H1 (n6).toNat 36) (f30 : n16 ≤ 1) (f31 : 0 ≤ n16) (f32 : n16 = hV H1 (n6).toNat 34) (f33 : n17 ≤ 12) (f34 : 0 ≤ n17) (f35 : n17 = hV H1 (n15).toNat (n16).toNat) (f36 : n18 = w32 (n14 + n17)) (f37 : n0 < n18) (f38 : n19 = 307) (f39 : n19 = hV H1 (n6).toNat 37) (f40 : n20 ≤ 1) (f41 : 0 ≤ n20) (f42 : n20 = hV H1 (n19).toNat (n0).toNat) (f43 : n20 ≠ 0) (f44 : n21 = w32 (n0 + 1)) : n21 ≤ 24 := by
  have g4 := f22.2.1.1
  unfold Ab_313_93 at g4
  have g3 := f22.2.1.2
  unfold preb_313 at g3
  have e1 : n13 = hV H0 285 34 := (by rw [f12] at f26; exact f26 : n13 = hV H1 285 34).trans ((f22.1.2.1.1 285 34 kF_313_285_34))
  have e2 : n16 = hV H0 285 34 := (by rw [f12] at f32; exact f32 : n16 = hV H1 285 34).trans ((f22.1.2.1.1 285 34 kF_313_285_34))
  have e4 : n17 = hV H0 306 (n16).toNat := (by rw [f28] at f35; exact f35 : n17 = hV H1 306 (n16).toNat).trans ((congrFun (fRow f22.1.2.1 306 kR_313_306) _))
  have e6 : n20 = hV H0 307 (n0).toNat := (by rw [f38] at f42; exact f42 : n20 = hV H1 307 (n0).toNat).trans ((congrFun (fRow f22.1.2.1 307 kR_313_307) _))
  have e7 : hV H1 285 34 = hV H0 285 34 := (f22.1.2.1.1 285 34 kF_313_285_34)
  have e8 : (0 : Int) ≤ hV H0 285 34 ∧ hV H0 285 34 ≤ 1 := bTo e7 (f22.1.2.2 285 34 _ _ kW_285_34)
  have k0 := g4.1
  have k1 := g4.2.1
  have k2 := g4.2.2.1
  have k3 := g4.2.2.2.1
  have y0 := g4.2.2.2.2
  have p0 := g3.1
  have p1 := g3.2.1
  have p2 := g3.2.2
  try simp only [e7] at y0
  clear g3
  clear g4
  clear f26 f29 f32 f35 f39 f42 e7
  clear f22
  subst e1
  subst e2
  subst e4
  subst e6
  rw [f23] at f27
  try have hl : hV H0 285 34 = 0 ∨ hV H0 285 34 = 1 := by omega
  first
  | (have ix0 : n21 = n0 + 1 := Eq.trans f44 (w32_iv (Iad (Iat f1 f0) (IC 1)) (by decide)); subst ix0; clear f44)
  | (have ix0 : n21 = n0 + 1 := Eq.trans f44 (w32_id (by omega) (by omega)); subst ix0; clear f44)
  | (unfold w32 at f44; have ix0 : n21 = n0 + 1 := (by omega); subst ix0)
  | skip
  try unfold w32 at f27
  try unfold w32 at f36
  try unfold w32 at f44
  try subst k3
  try subst k2
  try subst k1
  try subst k0
  omega
def g_313_93_2 : vG := ([(10, [21, 11], [], 1), (31, [20], [], 0), (22, [20, 19, 11], [1], 0), (90, [20], [], 0), (91, [20], [], 1), (20, [19, 5], [1], 37), (0, [19], [], 307), (42, [11, 18], [], 0), (1, [18, 14, 17], [], 0), (22, [17, 15, 16], [1], 0), (90, [17], [], 0), (91, [17], [], 12), (20, [16, 5], [1], 34), (90, [16], [], 0), (91, [16], [], 1), (20, [15, 5], [1], 36), (0, [15], [], 306), (3, [14, 12, 13], [], 0), (20, [13, 5], [1], 34), (90, [13], [], 0), (91, [13], [], 1), (0, [12], [], 12), (5000, [0, 1, 2, 3, 4, 5, 6, 7, 8, 9, 10, 11], [0, 1], 93), (0, [0], [], 285), (90, [1], [], -2147483648), (91, [1], [], 2147483647), (90, [2], [], -2147483648), (91, [2], [], 2147483647), (90, [3], [], -2147483648), (91, [3], [], 2147483647), (90, [4], [], -2147483648), (91, [4], [], 2147483647), (0, [5], [], 285), (90, [6], [], -2147483648), (91, [6], [], 2147483647), (90, [7], [], -2147483648), (91, [7], [], 2147483647), (90, [8], [], -2147483648), (91, [8], [], 2147483647), (90, [9], [], -2147483648), (91, [9], [], 2147483647), (90, [10], [], -2147483648), (91, [10], [], 2147483647), (90, [11], [], 0), (91, [11], [], 24)], (91, [21], [], 24))
theorem c_313_93_2 {q0 : Nat} : vOkm T0 (eP e_313 L_313 A_313 mu_313 (some q0)) 5 g_313_93_2 := vOk_inI fun ρ η f0 f1 f2 f3 f4 f5 f6 f7 f8 f9 f10 f11 f12 f13 f14 f15 f16 f17 f18 f19 f20 f21 f22 f23 f24 f25 f26 f27 f28 f29 f30 f31 f32 f33 f34 f35 f36 f37 f38 f39 f40 f41 f42 f43 f44 => q_313_11 (q0 := q0) (n0 := ρ 11) (n1 := ρ 10) (n2 := ρ 9) (n3 := ρ 8) (n4 := ρ 7) (n5 := ρ 6) (n6 := ρ 5) (n7 := ρ 4) (n8 := ρ 3) (n9 := ρ 2) (n10 := ρ 1) (n11 := ρ 0) (n12 := ρ 12) (n13 := ρ 13) (n14 := ρ 14) (n15 := ρ 15) (n16 := ρ 16) (n17 := ρ 17) (n18 := ρ 18) (n19 := ρ 19) (n20 := ρ 20) (n21 := ρ 21) (H0 := η 0) (H1 := η 1) f44 f43 f42 f41 f40 f39 f38 f37 f36 f35 f34 f33 f32 f31 f30 f29 f28 f27 f26 f25 f24 f23 f22 f21 f20 f19 f18 f17 f16 f15 f14 f13 f12 f11 f10 f9 f8 f7 f6 f5 f4 f3 f2 f1 f0
theorem q_313_12 {q0 : Nat} {n0 n1 n2 n3 n4 n5 n6 n7 n8 n9 n10 n11 n12 n13 n14 n15 n16 n17 n18 n19 n20 n21 : Int} {H0 H1 : gH} (f0 : n0 ≤ 24) (f1 : 0 ≤ n0) (f2 : n1 ≤ 2147483647) (f3 : (-2147483648) ≤ n1) (f4 : n2 ≤ 2147483647) (f5 : (-2147483648) ≤ n2) (f6 : n3 ≤ 2147483647) (f7 : (-2147483648) ≤ n3) (f8 : n4 ≤ 2147483647) (f9 : (-2147483648) ≤ n4) (f10 : n5 ≤ 2147483647) (f11 : (-2147483648) ≤ n5) (f12 : n6 = 285) (f13 : n7 ≤ 2147483647) (f14 : (-2147483648) ≤ n7) (f15 : n8 ≤ 2147483647) (f16 : (-2147483648) ≤ n8) (f17 : n9 ≤ 2147483647) (f18 : (-2147483648) ≤ n9) (f19 : n10 ≤ 2147483647) (f20 : (-2147483648) ≤ n10) (f21 : n11 = 285) (f22 : (hLe T0 H0 H1 ∧ hFr s_313.2.2.2.2 H0 H1 ∧ hWt T0 H1) ∧ (Ab_313_93 n11 n10 n9 n8 n7 n6 n5 n4 n3 n2 n1 n0 H0 H1 ∧ preb_313 n11 n10 n9 n8 n7 H0) ∧ some q0 = some (mub_313_93 n11 n10 n9 n8 n7 n6 n5 n4 n3 n2 n1 n0 H0 H1)) (f23 : n12 = 12) (f24 : n13 ≤ 1) (f25 : 0 ≤ n13) (f26 : n13 = hV H1 (n6).toNat 34) (f27 : n14 = w32 (n12 * n13)) (f28 : n15 = 306) (f29 : n15 = hV H1 (n6).toNat 36) (f30 : n16 ≤ 1) (f31 : 0 ≤ n16) (f32 : n16 = hV H1 (n6).toNat 34) (f33 : n17 ≤ 12) (f34 : 0 ≤ n17) (f35 : n17 = hV H1 (n15).toNat (n16).toNat) (f36 : n18 = w32 (n14 + n17)) (f37 : n0 < n18) (f38 : n19 = 307) (f39 : n19 = hV H1 (n6).toNat 37) (f40 : n20 ≤ 1) (f41 : 0 ≤ n20) (f42 : n20 = hV H1 (n19).toNat (n0).toNat) (f43 : n20 ≠ 0) (f44 : n21 = w32 (n0 + 1)) : Ab_313_93 n11 n10 n9 n8 n7 n6 n5 n4 n3 n2 n1 n21 H0 H1 ∧ ∀ q, some q0 = some q → mub_313_93 n11 n10 n9 n8 n7 n6 n5 n4 n3 n2 n1 n21 H0 H1 < q := by
  have g4 := f22.2.1.1
  unfold Ab_313_93 at g4
  have g3 := f22.2.1.2
  unfold preb_313 at g3
  have g5 := Option.some.inj f22.2.2
  unfold mub_313_93 at g5
  unfold Ab_313_93
  unfold mub_313_93
  have e1 : n13 = hV H0 285 34 := (by rw [f12] at f26; exact f26 : n13 = hV H1 285 34).trans ((f22.1.2.1.1 285 34 kF_313_285_34))
  have e2 : n16 = hV H0 285 34 := (by rw [f12] at f32; exact f32 : n16 = hV H1 285 34).trans ((f22.1.2.1.1 285 34 kF_313_285_34))
  have e4 : n17 = hV H0 306 (n16).toNat := (by rw [f28] at f35; exact f35 : n17 = hV H1 306 (n16).toNat).trans ((congrFun (fRow f22.1.2.1 306 kR_313_306) _))
  have e6 : n20 = hV H0 307 (n0).toNat := (by rw [f38] at f42; exact f42 : n20 = hV H1 307 (n0).toNat).trans ((congrFun (fRow f22.1.2.1 307 kR_313_307) _))
  have e7 : hV H1 285 34 = hV H0 285 34 := (f22.1.2.1.1 285 34 kF_313_285_34)
  have e8 : (0 : Int) ≤ hV H0 285 34 ∧ hV H0 285 34 ≤ 1 := bTo e7 (f22.1.2.2 285 34 _ _ kW_285_34)
  try simp only [e7]
  have k0 := g4.1
  have k1 := g4.2.1
  have k2 := g4.2.2.1
  have k3 := g4.2.2.2.1
  have y0 := g4.2.2.2.2
  have p0 := g3.1
  have p1 := g3.2.1
  have p2 := g3.2.2
  try simp only [e7] at y0
  clear g3
  clear g4
  clear f26 f29 f32 f35 f39 f42 e7
  clear f22
  subst e1
  subst e2
  subst e4
  subst e6
  rw [f23] at f27
  try have hl : hV H0 285 34 = 0 ∨ hV H0 285 34 = 1 := by omega
  first
  | (have ix0 : n21 = n0 + 1 := Eq.trans f44 (w32_iv (Iad (Iat f1 f0) (IC 1)) (by decide)); subst ix0; clear f44)
  | (have ix0 : n21 = n0 + 1 := Eq.trans f44 (w32_id (by omega) (by omega)); subst ix0; clear f44)
  | (unfold w32 at f44; have ix0 : n21 = n0 + 1 := (by omega); subst ix0)
  | skip
  try unfold w32 at f27
  try unfold w32 at f36
  try unfold w32 at f44
  try subst k3
  try subst k2
  try subst k1
  try subst k0
  refine ⟨?_, fun q hq => ?_⟩
  · refine ⟨?_, ?_, ?_, ?_, ?_⟩ <;> first | assumption | omega | trivial
  · have g6 := Option.some.inj hq
    subst g6
    omega
def g_313_93_3 : vG := ([(10, [21, 11], [], 1), (31, [20], [], 0), (22, [20, 19, 11], [1], 0), (90, [20], [], 0), (91, [20], [], 1), (20, [19, 5], [1], 37), (0, [19], [], 307), (42, [11, 18], [], 0), (1, [18, 14, 17], [], 0), (22, [17, 15, 16], [1], 0), (90, [17], [], 0), (91, [17], [], 12), (20, [16, 5], [1], 34), (90, [16], [], 0), (91, [16], [], 1), (20, [15, 5], [1], 36), (0, [15], [], 306), (3, [14, 12, 13], [], 0), (20, [13, 5], [1], 34), (90, [13], [], 0), (91, [13], [], 1), (0, [12], [], 12), (5000, [0, 1, 2, 3, 4, 5, 6, 7, 8, 9, 10, 11], [0, 1], 93), (0, [0], [], 285), (90, [1], [], -2147483648), (91, [1], [], 2147483647), (90, [2], [], -2147483648), (91, [2], [], 2147483647), (90, [3], [], -2147483648), (91, [3], [], 2147483647), (90, [4], [], -2147483648), (91, [4], [], 2147483647), (0, [5], [], 285), (90, [6], [], -2147483648), (91, [6], [], 2147483647), (90, [7], [], -2147483648), (91, [7], [], 2147483647), (90, [8], [], -2147483648), (91, [8], [], 2147483647), (90, [9], [], -2147483648), (91, [9], [], 2147483647), (90, [10], [], -2147483648), (91, [10], [], 2147483647), (90, [11], [], 0), (91, [11], [], 24)], (4000, [5, 6, 7, 8, 9, 10, 21], [1], 93))
theorem c_313_93_3 {q0 : Nat} : vOkm T0 (eP e_313 L_313 A_313 mu_313 (some q0)) 5 g_313_93_3 := vOk_inI fun ρ η f0 f1 f2 f3 f4 f5 f6 f7 f8 f9 f10 f11 f12 f13 f14 f15 f16 f17 f18 f19 f20 f21 f22 f23 f24 f25 f26 f27 f28 f29 f30 f31 f32 f33 f34 f35 f36 f37 f38 f39 f40 f41 f42 f43 f44 => q_313_12 (q0 := q0) (n0 := ρ 11) (n1 := ρ 10) (n2 := ρ 9) (n3 := ρ 8) (n4 := ρ 7) (n5 := ρ 6) (n6 := ρ 5) (n7 := ρ 4) (n8 := ρ 3) (n9 := ρ 2) (n10 := ρ 1) (n11 := ρ 0) (n12 := ρ 12) (n13 := ρ 13) (n14 := ρ 14) (n15 := ρ 15) (n16 := ρ 16) (n17 := ρ 17) (n18 := ρ 18) (n19 := ρ 19) (n20 := ρ 20) (n21 := ρ 21) (H0 := η 0) (H1 := η 1) f44 f43 f42 f41 f40 f39 f38 f37 f36 f35 f34 f33 f32 f31 f30 f29 f28 f27 f26 f25 f24 f23 f22 f21 f20 f19 f18 f17 f16 f15 f14 f13 f12 f11 f10 f9 f8 f7 f6 f5 f4 f3 f2 f1 f0
theorem q_313_13 {q0 : Nat} {n0 n1 n2 n3 n4 n5 n6 n7 n8 n9 n10 n11 n12 n13 n14 n15 n16 n17 n18 n19 n20 : Int} {H0 H1 : gH} (f0 : n0 ≤ 24) (f1 : 0 ≤ n0) (f2 : n1 ≤ 2147483647) (f3 : (-2147483648) ≤ n1) (f4 : n2 ≤ 2147483647) (f5 : (-2147483648) ≤ n2) (f6 : n3 ≤ 2147483647) (f7 : (-2147483648) ≤ n3) (f8 : n4 ≤ 2147483647) (f9 : (-2147483648) ≤ n4) (f10 : n5 ≤ 2147483647) (f11 : (-2147483648) ≤ n5) (f12 : n6 = 285) (f13 : n7 ≤ 2147483647) (f14 : (-2147483648) ≤ n7) (f15 : n8 ≤ 2147483647) (f16 : (-2147483648) ≤ n8) (f17 : n9 ≤ 2147483647) (f18 : (-2147483648) ≤ n9) (f19 : n10 ≤ 2147483647) (f20 : (-2147483648) ≤ n10) (f21 : n11 = 285) (f22 : (hLe T0 H0 H1 ∧ hFr s_313.2.2.2.2 H0 H1 ∧ hWt T0 H1) ∧ (Ab_313_93 n11 n10 n9 n8 n7 n6 n5 n4 n3 n2 n1 n0 H0 H1 ∧ preb_313 n11 n10 n9 n8 n7 H0) ∧ some q0 = some (mub_313_93 n11 n10 n9 n8 n7 n6 n5 n4 n3 n2 n1 n0 H0 H1)) (f23 : n12 = 12) (f24 : n13 ≤ 1) (f25 : 0 ≤ n13) (f26 : n13 = hV H1 (n6).toNat 34) (f27 : n14 = w32 (n12 * n13)) (f28 : n15 = 306) (f29 : n15 = hV H1 (n6).toNat 36) (f30 : n16 ≤ 1) (f31 : 0 ≤ n16) (f32 : n16 = hV H1 (n6).toNat 34) (f33 : n17 ≤ 12) (f34 : 0 ≤ n17) (f35 : n17 = hV H1 (n15).toNat (n16).toNat) (f36 : n18 = w32 (n14 + n17)) (f37 : n0 < n18) (f38 : n19 = 307) (f39 : n19 = hV H1 (n6).toNat 37) (f40 : n20 ≤ 1) (f41 : 0 ≤ n20) (f42 : n20 = hV H1 (n19).toNat (n0).toNat) (f43 : n20 = 0) : n0 ≤ 23 := by
  have g4 := f22.2.1.1
  unfold Ab_313_93 at g4
  have g3 := f22.2.1.2
  unfold preb_313 at g3
  have e1 : n13 = hV H0 285 34 := (by rw [f12] at f26; exact f26 : n13 = hV H1 285 34).trans ((f22.1.2.1.1 285 34 kF_313_285_34))
  have e2 : n16 = hV H0 285 34 := (by rw [f12] at f32; exact f32 : n16 = hV H1 285 34).trans ((f22.1.2.1.1 285 34 kF_313_285_34))
  have e4 : n17 = hV H0 306 (n16).toNat := (by rw [f28] at f35; exact f35 : n17 = hV H1 306 (n16).toNat).trans ((congrFun (fRow f22.1.2.1 306 kR_313_306) _))
  have e6 : n20 = hV H0 307 (n0).toNat := (by rw [f38] at f42; exact f42 : n20 = hV H1 307 (n0).toNat).trans ((congrFun (fRow f22.1.2.1 307 kR_313_307) _))
  have e7 : hV H1 285 34 = hV H0 285 34 := (f22.1.2.1.1 285 34 kF_313_285_34)
  have e8 : (0 : Int) ≤ hV H0 285 34 ∧ hV H0 285 34 ≤ 1 := bTo e7 (f22.1.2.2 285 34 _ _ kW_285_34)
  have k0 := g4.1
  have k1 := g4.2.1
  have k2 := g4.2.2.1
  have k3 := g4.2.2.2.1
  have y0 := g4.2.2.2.2
  have p0 := g3.1
  have p1 := g3.2.1
  have p2 := g3.2.2
  try simp only [e7] at y0
  clear g3
  clear g4
  clear f26 f29 f32 f35 f39 f42 e7
  clear f22
  subst e1
  subst e2
  subst e4
  subst e6
  rw [f23] at f27
  unfold w32 at f27 f36
  try have hl : hV H0 285 34 = 0 ∨ hV H0 285 34 = 1 := by omega
  try subst k3
  try subst k2
  try subst k1
  try subst k0
  omega
def g_313_93_4 : vG := ([(30, [20], [], 0), (22, [20, 19, 11], [1], 0), (90, [20], [], 0), (91, [20], [], 1), (20, [19, 5], [1], 37), (0, [19], [], 307), (42, [11, 18], [], 0), (1, [18, 14, 17], [], 0), (22, [17, 15, 16], [1], 0), (90, [17], [], 0), (91, [17], [], 12), (20, [16, 5], [1], 34), (90, [16], [], 0), (91, [16], [], 1), (20, [15, 5], [1], 36), (0, [15], [], 306), (3, [14, 12, 13], [], 0), (20, [13, 5], [1], 34), (90, [13], [], 0), (91, [13], [], 1), (0, [12], [], 12), (5000, [0, 1, 2, 3, 4, 5, 6, 7, 8, 9, 10, 11], [0, 1], 93), (0, [0], [], 285), (90, [1], [], -2147483648), (91, [1], [], 2147483647), (90, [2], [], -2147483648), (91, [2], [], 2147483647), (90, [3], [], -2147483648), (91, [3], [], 2147483647), (90, [4], [], -2147483648), (91, [4], [], 2147483647), (0, [5], [], 285), (90, [6], [], -2147483648), (91, [6], [], 2147483647), (90, [7], [], -2147483648), (91, [7], [], 2147483647), (90, [8], [], -2147483648), (91, [8], [], 2147483647), (90, [9], [], -2147483648), (91, [9], [], 2147483647), (90, [10], [], -2147483648), (91, [10], [], 2147483647), (90, [11], [], 0), (91, [11], [], 24)], (91, [11], [], 23))
theorem c_313_93_4 {q0 : Nat} : vOkm T0 (eP e_313 L_313 A_313 mu_313 (some q0)) 5 g_313_93_4 := vOk_inI fun ρ η f0 f1 f2 f3 f4 f5 f6 f7 f8 f9 f10 f11 f12 f13 f14 f15 f16 f17 f18 f19 f20 f21 f22 f23 f24 f25 f26 f27 f28 f29 f30 f31 f32 f33 f34 f35 f36 f37 f38 f39 f40 f41 f42 f43 => q_313_13 (q0 := q0) (n0 := ρ 11) (n1 := ρ 10) (n2 := ρ 9) (n3 := ρ 8) (n4 := ρ 7) (n5 := ρ 6) (n6 := ρ 5) (n7 := ρ 4) (n8 := ρ 3) (n9 := ρ 2) (n10 := ρ 1) (n11 := ρ 0) (n12 := ρ 12) (n13 := ρ 13) (n14 := ρ 14) (n15 := ρ 15) (n16 := ρ 16) (n17 := ρ 17) (n18 := ρ 18) (n19 := ρ 19) (n20 := ρ 20) (H0 := η 0) (H1 := η 1) f43 f42 f41 f40 f39 f38 f37 f36 f35 f34 f33 f32 f31 f30 f29 f28 f27 f26 f25 f24 f23 f22 f21 f20 f19 f18 f17 f16 f15 f14 f13 f12 f11 f10 f9 f8 f7 f6 f5 f4 f3 f2 f1 f0
theorem q_313_14 {q0 : Nat} {n0 n1 n2 n3 n4 n5 n6 n7 n8 n9 n10 n11 n12 n13 n14 n15 n16 n17 n18 n19 n20 : Int} {H0 H1 : gH} (f0 : n0 ≤ 24) (f1 : 0 ≤ n0) (f2 : n1 ≤ 2147483647) (f3 : (-2147483648) ≤ n1) (f4 : n2 ≤ 2147483647) (f5 : (-2147483648) ≤ n2) (f6 : n3 ≤ 2147483647) (f7 : (-2147483648) ≤ n3) (f8 : n4 ≤ 2147483647) (f9 : (-2147483648) ≤ n4) (f10 : n5 ≤ 2147483647) (f11 : (-2147483648) ≤ n5) (f12 : n6 = 285) (f13 : n7 ≤ 2147483647) (f14 : (-2147483648) ≤ n7) (f15 : n8 ≤ 2147483647) (f16 : (-2147483648) ≤ n8) (f17 : n9 ≤ 2147483647) (f18 : (-2147483648) ≤ n9) (f19 : n10 ≤ 2147483647) (f20 : (-2147483648) ≤ n10) (f21 : n11 = 285) (f22 : (hLe T0 H0 H1 ∧ hFr s_313.2.2.2.2 H0 H1 ∧ hWt T0 H1) ∧ (Ab_313_93 n11 n10 n9 n8 n7 n6 n5 n4 n3 n2 n1 n0 H0 H1 ∧ preb_313 n11 n10 n9 n8 n7 H0) ∧ some q0 = some (mub_313_93 n11 n10 n9 n8 n7 n6 n5 n4 n3 n2 n1 n0 H0 H1)) (f23 : n12 = 12) (f24 : n13 ≤ 1) (f25 : 0 ≤ n13) (f26 : n13 = hV H1 (n6).toNat 34) (f27 : n14 = w32 (n12 * n13)) (f28 : n15 = 306) (f29 : n15 = hV H1 (n6).toNat 36) (f30 : n16 ≤ 1) (f31 : 0 ≤ n16) (f32 : n16 = hV H1 (n6).toNat 34) (f33 : n17 ≤ 12) (f34 : 0 ≤ n17) (f35 : n17 = hV H1 (n15).toNat (n16).toNat) (f36 : n18 = w32 (n14 + n17)) (f37 : n0 < n18) (f38 : n19 = 307) (f39 : n19 = hV H1 (n6).toNat 37) (f40 : n20 ≤ 1) (f41 : 0 ≤ n20) (f42 : n20 = hV H1 (n19).toNat (n0).toNat) (f43 : n20 = 0) : preb_239 n6 n0 H1 := by
  have g4 := f22.2.1.1
  unfold Ab_313_93 at g4
  have g3 := f22.2.1.2
  unfold preb_313 at g3
  unfold preb_239
  have e1 : n13 = hV H0 285 34 := (by rw [f12] at f26; exact f26 : n13 = hV H1 285 34).trans ((f22.1.2.1.1 285 34 kF_313_285_34))
  have e2 : n16 = hV H0 285 34 := (by rw [f12] at f32; exact f32 : n16 = hV H1 285 34).trans ((f22.1.2.1.1 285 34 kF_313_285_34))
  have e3 : hV H1 306 = hV H0 306 := fRow f22.1.2.1 306 kR_313_306
  have e4 : n17 = hV H0 306 (n16).toNat := (by rw [f28] at f35; exact f35 : n17 = hV H1 306 (n16).toNat).trans ((congrFun e3 _))
  have e5 : hV H1 307 = hV H0 307 := fRow f22.1.2.1 307 kR_313_307
  have e6 : n20 = hV H0 307 (n0).toNat := (by rw [f38] at f42; exact f42 : n20 = hV H1 307 (n0).toNat).trans ((congrFun e5 _))
  have e7 : hV H1 285 34 = hV H0 285 34 := (f22.1.2.1.1 285 34 kF_313_285_34)
  have e8 : RV H1 = RV H0 := RV_fr f22.1.2.1 (by decide +kernel)
  have e9 : (0 : Int) ≤ hV H0 285 34 ∧ hV H0 285 34 ≤ 1 := bTo e7 (f22.1.2.2 285 34 _ _ kW_285_34)
  try simp only [e7, e3, e5, e8]
  have k0 := g4.1
  have k1 := g4.2.1
  have k2 := g4.2.2.1
  have k3 := g4.2.2.2.1
  have y0 := g4.2.2.2.2
  have p0 := g3.1
  have p1 := g3.2.1
  have p2 := g3.2.2
  try simp only [e7] at y0
  clear g3
  clear g4
  clear f26 f29 f32 f35 f39 f42 e3 e5 e7 e8
  clear f22
  subst e1
  subst e2
  subst e4
  subst e6
  rw [f23] at f27
  unfold w32 at f27 f36
  try have hl : hV H0 285 34 = 0 ∨ hV H0 285 34 = 1 := by omega
  try subst k3
  try subst k2
  try subst k1
  try subst k0
  refine ⟨?_, ?_, ?_, ?_⟩ <;> first | assumption | omega | trivial
def g_313_93_5 : vG := ([(30, [20], [], 0), (22, [20, 19, 11], [1], 0), (90, [20], [], 0), (91, [20], [], 1), (20, [19, 5], [1], 37), (0, [19], [], 307), (42, [11, 18], [], 0), (1, [18, 14, 17], [], 0), (22, [17, 15, 16], [1], 0), (90, [17], [], 0), (91, [17], [], 12), (20, [16, 5], [1], 34), (90, [16], [], 0), (91, [16], [], 1), (20, [15, 5], [1], 36), (0, [15], [], 306), (3, [14, 12, 13], [], 0), (20, [13, 5], [1], 34), (90, [13], [], 0), (91, [13], [], 1), (0, [12], [], 12), (5000, [0, 1, 2, 3, 4, 5, 6, 7, 8, 9, 10, 11], [0, 1], 93), (0, [0], [], 285), (90, [1], [], -2147483648), (91, [1], [], 2147483647), (90, [2], [], -2147483648), (91, [2], [], 2147483647), (90, [3], [], -2147483648), (91, [3], [], 2147483647), (90, [4], [], -2147483648), (91, [4], [], 2147483647), (0, [5], [], 285), (90, [6], [], -2147483648), (91, [6], [], 2147483647), (90, [7], [], -2147483648), (91, [7], [], 2147483647), (90, [8], [], -2147483648), (91, [8], [], 2147483647), (90, [9], [], -2147483648), (91, [9], [], 2147483647), (90, [10], [], -2147483648), (91, [10], [], 2147483647), (90, [11], [], 0), (91, [11], [], 24)], (2239, [5, 11], [1], 0))
theorem c_313_93_5 {q0 : Nat} : vOkm T0 (eP e_313 L_313 A_313 mu_313 (some q0)) 5 g_313_93_5 := vOk_inI fun ρ η f0 f1 f2 f3 f4 f5 f6 f7 f8 f9 f10 f11 f12 f13 f14 f15 f16 f17 f18 f19 f20 f21 f22 f23 f24 f25 f26 f27 f28 f29 f30 f31 f32 f33 f34 f35 f36 f37 f38 f39 f40 f41 f42 f43 => q_313_14 (q0 := q0) (n0 := ρ 11) (n1 := ρ 10) (n2 := ρ 9) (n3 := ρ 8) (n4 := ρ 7) (n5 := ρ 6) (n6 := ρ 5) (n7 := ρ 4) (n8 := ρ 3) (n9 := ρ 2) (n10 := ρ 1) (n11 := ρ 0) (n12 := ρ 12) (n13 := ρ 13) (n14 := ρ 14) (n15 := ρ 15) (n16 := ρ 16) (n17 := ρ 17) (n18 := ρ 18) (n19 := ρ 19) (n20 := ρ 20) (H0 := η 0) (H1 := η 1) f43 f42 f41 f40 f39 f38 f37 f36 f35 f34 f33 f32 f31 f30 f29 f28 f27 f26 f25 f24 f23 f22 f21 f20 f19 f18 f17 f16 f15 f14 f13 f12 f11 f10 f9 f8 f7 f6 f5 f4 f3 f2 f1 f0
theorem q_313_15 {q0 : Nat} {n0 n1 n2 n3 n4 n5 n6 n7 n8 n9 n10 n11 n12 n13 n14 n15 n16 n17 n18 n19 n20 n21 : Int} {H0 H1 : gH} (f0 : n0 ≤ 24) (f1 : 0 ≤ n0) (f2 : n1 ≤ 2147483647) (f3 : (-2147483648) ≤ n1) (f4 : n2 ≤ 2147483647) (f5 : (-2147483648) ≤ n2) (f6 : n3 ≤ 2147483647) (f7 : (-2147483648) ≤ n3) (f8 : n4 ≤ 2147483647) (f9 : (-2147483648) ≤ n4) (f10 : n5 ≤ 2147483647) (f11 : (-2147483648) ≤ n5) (f12 : n6 = 285) (f13 : n7 ≤ 2147483647) (f14 : (-2147483648) ≤ n7) (f15 : n8 ≤ 2147483647) (f16 : (-2147483648) ≤ n8) (f17 : n9 ≤ 2147483647) (f18 : (-2147483648) ≤ n9) (f19 : n10 ≤ 2147483647) (f20 : (-2147483648) ≤ n10) (f21 : n11 = 285) (f22 : (hLe T0 H0 H1 ∧ hFr s_313.2.2.2.2 H0 H1 ∧ hWt T0 H1) ∧ (Ab_313_93 n11 n10 n9 n8 n7 n6 n5 n4 n3 n2 n1 n0 H0 H1 ∧ preb_313 n11 n10 n9 n8 n7 H0) ∧ some q0 = some (mub_313_93 n11 n10 n9 n8 n7 n6 n5 n4 n3 n2 n1 n0 H0 H1)) (f23 : n12 = 12) (f24 : n13 ≤ 1) (f25 : 0 ≤ n13) (f26 : n13 = hV H1 (n6).toNat 34) (f27 : n14 = w32 (n12 * n13)) (f28 : n15 = 306) (f29 : n15 = hV H1 (n6).toNat 36) (f30 : n16 ≤ 1) (f31 : 0 ≤ n16) (f32 : n16 = hV H1 (n6).toNat 34) (f33 : n17 ≤ 12) (f34 : 0 ≤ n17) (f35 : n17 = hV H1 (n15).toNat (n16).toNat) (f36 : n18 = w32 (n14 + n17)) (f37 : n0 < n18) (f38 : n19 = 307) (f39 : n19 = hV H1 (n6).toNat 37) (f40 : n20 ≤ 1) (f41 : 0 ≤ n20) (f42 : n20 = hV H1 (n19).toNat (n0).toNat) (f43 : n20 = 0) (f44 : n21 = w32 (n0 + 1)) : 0 ≤ n21 := by
  have g4 := f22.2.1.1
  unfold Ab_313_93 at g4
  have g3 := f22.2.1.2
  unfold preb_313 at g3
  have e1 : n13 = hV H0 285 34 := (by rw [f12] at f26; exact f26 : n13 = hV H1 285 34).trans ((f22.1.2.1.1 285 34 kF_313_285_34))
  have e2 : n16 = hV H0 285 34 := (by rw [f12] at f32; exact f32 : n16 = hV H1 285 34).trans ((f22.1.2.1.1 285 34 kF_313_285_34))
  have e4 : n17 = hV H0 306 (n16).toNat := (by rw [f28] at f35; exact f35 : n17 = hV H1 306 (n16).toNat).trans ((congrFun (fRow f22.1.2.1 306 kR_313_306) _))
  have e6 : n20 = hV H0 307 (n0).toNat := (by rw [f38] at f42; exact f42 : n20 = hV H1 307 (n0).toNat).trans ((congrFun (fRow f22.1.2.1 307 kR_313_307) _))
  have e7 : hV H1 285 34 = hV H0 285 34 := (f22.1.2.1.1 285 34 kF_313_285_34)
  have e8 : (0 : Int) ≤ hV H0 285 34 ∧ hV H0 285 34 ≤ 1 := bTo e7 (f22.1.2.2 285 34 _ _ kW_285_34)
  have k0 := g4.1
  have k1 := g4.2.1
  have k2 := g4.2.2.1
  have k3 := g4.2.2.2.1
  have y0 := g4.2.2.2.2
  have p0 := g3.1
  have p1 := g3.2.1
  have p2 := g3.2.2
  try simp only [e7] at y0
  clear g3
  clear g4
  clear f26 f29 f32 f35 f39 f42 e7
  clear f22
  subst e1
  subst e2
  subst e4
  subst e6
  rw [f23] at f27
  try have hl : hV H0 285 34 = 0 ∨ hV H0 285 34 = 1 := by omega
  first
  | (have ix0 : n21 = n0 + 1 := Eq.trans f44 (w32_iv (Iad (Iat f1 f0) (IC 1)) (by decide)); subst ix0; clear f44)
  | (have ix0 : n21 = n0 + 1 := Eq.trans f44 (w32_id (by omega) (by omega)); subst ix0; clear f44)
  | (unfold w32 at f44; have ix0 : n21 = n0 + 1 := (by omega); subst ix0)
  | skip
  try unfold w32 at f27
  try unfold w32 at f36
  try unfold w32 at f44
  try subst k3
  try subst k2
  try subst k1
  try subst k0
  omega
def g_313_93_6 : vG := ([(10, [22, 11], [], 1), (30, [20], [], 0), (22, [20, 19, 11], [1], 0), (90, [20], [], 0), (91, [20], [], 1), (20, [19, 5], [1], 37), (0, [19], [], 307), (42, [11, 18], [], 0), (1, [18, 14, 17], [], 0), (22, [17, 15, 16], [1], 0), (90, [17], [], 0), (91, [17], [], 12), (20, [16, 5], [1], 34), (90, [16], [], 0), (91, [16], [], 1), (20, [15, 5], [1], 36), (0, [15], [], 306), (3, [14, 12, 13], [], 0), (20, [13, 5], [1], 34), (90, [13], [], 0), (91, [13], [], 1), (0, [12], [], 12), (5000, [0, 1, 2, 3, 4, 5, 6, 7, 8, 9, 10, 11], [0, 1], 93), (0, [0], [], 285), (90, [1], [], -2147483648), (91, [1], [], 2147483647), (90, [2], [], -2147483648), (91, [2], [], 2147483647), (90, [3], [], -2147483648), (91, [3], [], 2147483647), (90, [4], [], -2147483648), (91, [4], [], 2147483647), (0, [5], [], 285), (90, [6], [], -2147483648), (91, [6], [], 2147483647), (90, [7], [], -2147483648), (91, [7], [], 2147483647), (90, [8], [], -2147483648), (91, [8], [], 2147483647), (90, [9], [], -2147483648), (91, [9], [], 2147483647), (90, [10], [], -2147483648), (91, [10], [], 2147483647), (90, [11], [], 0), (91, [11], [], 24)], (90, [22], [], 0))
theorem c_313_93_6 {q0 : Nat} : vOkm T0 (eP e_313 L_313 A_313 mu_313 (some q0)) 5 g_313_93_6 := vOk_inI fun ρ η f0 f1 f2 f3 f4 f5 f6 f7 f8 f9 f10 f11 f12 f13 f14 f15 f16 f17 f18 f19 f20 f21 f22 f23 f24 f25 f26 f27 f28 f29 f30 f31 f32 f33 f34 f35 f36 f37 f38 f39 f40 f41 f42 f43 f44 => q_313_15 (q0 := q0) (n0 := ρ 11) (n1 := ρ 10) (n2 := ρ 9) (n3 := ρ 8) (n4 := ρ 7) (n5 := ρ 6) (n6 := ρ 5) (n7 := ρ 4) (n8 := ρ 3) (n9 := ρ 2) (n10 := ρ 1) (n11 := ρ 0) (n12 := ρ 12) (n13 := ρ 13) (n14 := ρ 14) (n15 := ρ 15) (n16 := ρ 16) (n17 := ρ 17) (n18 := ρ 18) (n19 := ρ 19) (n20 := ρ 20) (n21 := ρ 22) (H0 := η 0) (H1 := η 1) f44 f43 f42 f41 f40 f39 f38 f37 f36 f35 f34 f33 f32 f31 f30 f29 f28 f27 f26 f25 f24 f23 f22 f21 f20 f19 f18 f17 f16 f15 f14 f13 f12 f11 f10 f9 f8 f7 f6 f5 f4 f3 f2 f1 f0
theorem q_313_16 {q0 : Nat} {n0 n1 n2 n3 n4 n5 n6 n7 n8 n9 n10 n11 n12 n13 n14 n15 n16 n17 n18 n19 n20 n21 : Int} {H0 H1 : gH} (f0 : n0 ≤ 24) (f1 : 0 ≤ n0) (f2 : n1 ≤ 2147483647) (f3 : (-2147483648) ≤ n1) (f4 : n2 ≤ 2147483647) (f5 : (-2147483648) ≤ n2) (f6 : n3 ≤ 2147483647) (f7 : (-2147483648) ≤ n3) (f8 : n4 ≤ 2147483647) (f9 : (-2147483648) ≤ n4) (f10 : n5 ≤ 2147483647) (f11 : (-2147483648) ≤ n5) (f12 : n6 = 285) (f13 : n7 ≤ 2147483647) (f14 : (-2147483648) ≤ n7) (f15 : n8 ≤ 2147483647) (f16 : (-2147483648) ≤ n8) (f17 : n9 ≤ 2147483647) (f18 : (-2147483648) ≤ n9) (f19 : n10 ≤ 2147483647) (f20 : (-2147483648) ≤ n10) (f21 : n11 = 285) (f22 : (hLe T0 H0 H1 ∧ hFr s_313.2.2.2.2 H0 H1 ∧ hWt T0 H1) ∧ (Ab_313_93 n11 n10 n9 n8 n7 n6 n5 n4 n3 n2 n1 n0 H0 H1 ∧ preb_313 n11 n10 n9 n8 n7 H0) ∧ some q0 = some (mub_313_93 n11 n10 n9 n8 n7 n6 n5 n4 n3 n2 n1 n0 H0 H1)) (f23 : n12 = 12) (f24 : n13 ≤ 1) (f25 : 0 ≤ n13) (f26 : n13 = hV H1 (n6).toNat 34) (f27 : n14 = w32 (n12 * n13)) (f28 : n15 = 306) (f29 : n15 = hV H1 (n6).toNat 36) (f30 : n16 ≤ 1) (f31 : 0 ≤ n16) (f32 : n16 = hV H1 (n6).toNat 34) (f33 : n17 ≤ 12) (f34 : 0 ≤ n17) (f35 : n17 = hV H1 (n15).toNat (n16).toNat) (f36 : n18 = w32 (n14 + n17)) (f37 : n0 < n18) (f38 : n19 = 307) (f39 : n19 = hV H1 (n6).toNat 37) (f40 : n20 ≤ 1) (f41 : 0 ≤ n20) (f42 : n20 = hV H1 (n19).toNat (n0).toNat) (f43 : n20 = 0) (f44 : n21 = w32 (n0 + 1)) : n21 ≤ 24 := by
  have g4 := f22.2.1.1
  unfold Ab_313_93 at g4
  have g3 := f22.2.1.2
  unfold preb_313 at g3
  have e1 : n13 = hV H0 285 34 := (by rw [f12] at f26; exact f26 : n13 = hV H1 285 34).trans ((f22.1.2.1.1 285 34 kF_313_285_34))
  have e2 : n16 = hV H0 285 34 := (by rw [f12] at f32; exact f32 : n16 = hV H1 285 34).trans ((f22.1.2.1.1 285 34 kF_313_285_34))
  have e4 : n17 = hV H0 306 (n16).toNat := (by rw [f28] at f35; exact f35 : n17 = hV H1 306 (n16).toNat).trans ((congrFun (fRow f22.1.2.1 306 kR_313_306) _))
  have e6 : n20 = hV H0 307 (n0).toNat := (by rw [f38] at f42; exact f42 : n20 = hV H1 307 (n0).toNat).trans ((congrFun (fRow f22.1.2.1 307 kR_313_307) _))
  have e7 : hV H1 285 34 = hV H0 285 34 := (f22.1.2.1.1 285 34 kF_313_285_34)
  have e8 : (0 : Int) ≤ hV H0 285 34 ∧ hV H0 285 34 ≤ 1 := bTo e7 (f22.1.2.2 285 34 _ _ kW_285_34)
  have k0 := g4.1
  have k1 := g4.2.1
  have k2 := g4.2.2.1
  have k3 := g4.2.2.2.1
  have y0 := g4.2.2.2.2
  have p0 := g3.1
  have p1 := g3.2.1
  have p2 := g3.2.2
  try simp only [e7] at y0
  clear g3
  clear g4
  clear f26 f29 f32 f35 f39 f42 e7
  clear f22
  subst e1
  subst e2
  subst e4
  subst e6
  rw [f23] at f27
  try have hl : hV H0 285 34 = 0 ∨ hV H0 285 34 = 1 := by omega
  first
  | (have ix0 : n21 = n0 + 1 := Eq.trans f44 (w32_iv (Iad (Iat f1 f0) (IC 1)) (by decide)); subst ix0; clear f44)
  | (have ix0 : n21 = n0 + 1 := Eq.trans f44 (w32_id (by omega) (by omega)); subst ix0; clear f44)
  | (unfold w32 at f44; have ix0 : n21 = n0 + 1 := (by omega); subst ix0)
  | skip
  try unfold w32 at f27
  try unfold w32 at f36
  try unfold w32 at f44
  try subst k3
  try subst k2
  try subst k1
  try subst k0
  omega
def g_313_93_7 : vG := ([(10, [22, 11], [], 1), (30, [20], [], 0), (22, [20, 19, 11], [1], 0), (90, [20], [], 0), (91, [20], [], 1), (20, [19, 5], [1], 37), (0, [19], [], 307), (42, [11, 18], [], 0), (1, [18, 14, 17], [], 0), (22, [17, 15, 16], [1], 0), (90, [17], [], 0), (91, [17], [], 12), (20, [16, 5], [1], 34), (90, [16], [], 0), (91, [16], [], 1), (20, [15, 5], [1], 36), (0, [15], [], 306), (3, [14, 12, 13], [], 0), (20, [13, 5], [1], 34), (90, [13], [], 0), (91, [13], [], 1), (0, [12], [], 12), (5000, [0, 1, 2, 3, 4, 5, 6, 7, 8, 9, 10, 11], [0, 1], 93), (0, [0], [], 285), (90, [1], [], -2147483648), (91, [1], [], 2147483647), (90, [2], [], -2147483648), (91, [2], [], 2147483647), (90, [3], [], -2147483648), (91, [3], [], 2147483647), (90, [4], [], -2147483648), (91, [4], [], 2147483647), (0, [5], [], 285), (90, [6], [], -2147483648), (91, [6], [], 2147483647), (90, [7], [], -2147483648), (91, [7], [], 2147483647), (90, [8], [], -2147483648), (91, [8], [], 2147483647), (90, [9], [], -2147483648), (91, [9], [], 2147483647), (90, [10], [], -2147483648), (91, [10], [], 2147483647), (90, [11], [], 0), (91, [11], [], 24)], (91, [22], [], 24))
theorem c_313_93_7 {q0 : Nat} : vOkm T0 (eP e_313 L_313 A_313 mu_313 (some q0)) 5 g_313_93_7 := vOk_inI fun ρ η f0 f1 f2 f3 f4 f5 f6 f7 f8 f9 f10 f11 f12 f13 f14 f15 f16 f17 f18 f19 f20 f21 f22 f23 f24 f25 f26 f27 f28 f29 f30 f31 f32 f33 f34 f35 f36 f37 f38 f39 f40 f41 f42 f43 f44 => q_313_16 (q0 := q0) (n0 := ρ 11) (n1 := ρ 10) (n2 := ρ 9) (n3 := ρ 8) (n4 := ρ 7) (n5 := ρ 6) (n6 := ρ 5) (n7 := ρ 4) (n8 := ρ 3) (n9 := ρ 2) (n10 := ρ 1) (n11 := ρ 0) (n12 := ρ 12) (n13 := ρ 13) (n14 := ρ 14) (n15 := ρ 15) (n16 := ρ 16) (n17 := ρ 17) (n18 := ρ 18) (n19 := ρ 19) (n20 := ρ 20) (n21 := ρ 22) (H0 := η 0) (H1 := η 1) f44 f43 f42 f41 f40 f39 f38 f37 f36 f35 f34 f33 f32 f31 f30 f29 f28 f27 f26 f25 f24 f23 f22 f21 f20 f19 f18 f17 f16 f15 f14 f13 f12 f11 f10 f9 f8 f7 f6 f5 f4 f3 f2 f1 f0
theorem q_313_17 {q0 : Nat} {n0 n1 n2 n3 n4 n5 n6 n7 n8 n9 n10 n11 n12 n13 n14 n15 n16 n17 n18 n19 n20 n21 n22 : Int} {H0 H1 H2 : gH} (f0 : n0 ≤ 24) (f1 : 0 ≤ n0) (f2 : n1 ≤ 2147483647) (f3 : (-2147483648) ≤ n1) (f4 : n2 ≤ 2147483647) (f5 : (-2147483648) ≤ n2) (f6 : n3 ≤ 2147483647) (f7 : (-2147483648) ≤ n3) (f8 : n4 ≤ 2147483647) (f9 : (-2147483648) ≤ n4) (f10 : n5 ≤ 2147483647) (f11 : (-2147483648) ≤ n5) (f12 : n6 = 285) (f13 : n7 ≤ 2147483647) (f14 : (-2147483648) ≤ n7) (f15 : n8 ≤ 2147483647) (f16 : (-2147483648) ≤ n8) (f17 : n9 ≤ 2147483647) (f18 : (-2147483648) ≤ n9) (f19 : n10 ≤ 2147483647) (f20 : (-2147483648) ≤ n10) (f21 : n11 = 285) (f22 : (hLe T0 H0 H1 ∧ hFr s_313.2.2.2.2 H0 H1 ∧ hWt T0 H1) ∧ (Ab_313_93 n11 n10 n9 n8 n7 n6 n5 n4 n3 n2 n1 n0 H0 H1 ∧ preb_313 n11 n10 n9 n8 n7 H0) ∧ some q0 = some (mub_313_93 n11 n10 n9 n8 n7 n6 n5 n4 n3 n2 n1 n0 H0 H1)) (f23 : n12 = 12) (f24 : n13 ≤ 1) (f25 : 0 ≤ n13) (f26 : n13 = hV H1 (n6).toNat 34) (f27 : n14 = w32 (n12 * n13)) (f28 : n15 = 306) (f29 : n15 = hV H1 (n6).toNat 36) (f30 : n16 ≤ 1) (f31 : 0 ≤ n16) (f32 : n16 = hV H1 (n6).toNat 34) (f33 : n17 ≤ 12) (f34 : 0 ≤ n17) (f35 : n17 = hV H1 (n15).toNat (n16).toNat) (f36 : n18 = w32 (n14 + n17)) (f37 : n0 < n18) (f38 : n19 = 307) (f39 : n19 = hV H1 (n6).toNat 37) (f40 : n20 ≤ 1) (f41 : 0 ≤ n20) (f42 : n20 = hV H1 (n19).toNat (n0).toNat) (f43 : n20 = 0) (f44 : n21 ≤ 1) (f45 : 0 ≤ n21) (f46 : (hLe T0 H1 H2 ∧ hFr s_239.2.2.2.2 H1 H2 ∧ ((0 : Int) = 0 → H2.length = H1.length) ∧ hWt T0 H2) ∧ True) (f47 : n21 = 0) (f48 : n22 = w32 (n0 + 1)) : Ab_313_93 n11 n10 n9 n8 n7 n6 n5 n4 n3 n2 n1 n22 H0 H2 ∧ ∀ q, some q0 = some q → mub_313_93 n11 n10 n9 n8 n7 n6 n5 n4 n3 n2 n1 n22 H0 H2 < q := by
  have g4 := f22.2.1.1
  unfold Ab_313_93 at g4
  have g3 := f22.2.1.2
  unfold preb_313 at g3
  have g5 := Option.some.inj f22.2.2
  unfold mub_313_93 at g5
  unfold Ab_313_93
  unfold mub_313_93
  have e1 : n13 = hV H0 285 34 := (by rw [f12] at f26; exact f26 : n13 = hV H1 285 34).trans ((f22.1.2.1.1 285 34 kF_313_285_34))
  have e2 : n16 = hV H0 285 34 := (by rw [f12] at f32; exact f32 : n16 = hV H1 285 34).trans ((f22.1.2.1.1 285 34 kF_313_285_34))
  have e4 : n17 = hV H0 306 (n16).toNat := (by rw [f28] at f35; exact f35 : n17 = hV H1 306 (n16).toNat).trans ((congrFun (fRow f22.1.2.1 306 kR_313_306) _))
  have e6 : n20 = hV H0 307 (n0).toNat := (by rw [f38] at f42; exact f42 : n20 = hV H1 307 (n0).toNat).trans ((congrFun (fRow f22.1.2.1 307 kR_313_307) _))
  have e7 : hV H1 285 34 = hV H0 285 34 := (f22.1.2.1.1 285 34 kF_313_285_34)
  have e9 : hV H2 285 34 = hV H0 285 34 := ((f46.1.2.1.1 285 34 kF_239_285_34)).trans (f22.1.2.1.1 285 34 kF_313_285_34)
  have e10 : (0 : Int) ≤ hV H0 285 34 ∧ hV H0 285 34 ≤ 1 := bTo e7 (f22.1.2.2 285 34 _ _ kW_285_34)
  try simp only [e9]
  have k0 := g4.1
  have k1 := g4.2.1
  have k2 := g4.2.2.1
  have k3 := g4.2.2.2.1
  have y0 := g4.2.2.2.2
  have p0 := g3.1
  have p1 := g3.2.1
  have p2 := g3.2.2
  try simp only [e7] at y0
  clear g3
  clear g4
  clear f26 f29 f32 f35 f39 f42 e7 e9
  clear f22 f46
  subst e1
  subst e2
  subst e4
  subst e6
  rw [f23] at f27
  try have hl : hV H0 285 34 = 0 ∨ hV H0 285 34 = 1 := by omega
  first
  | (have ix0 : n22 = n0 + 1 := Eq.trans f48 (w32_iv (Iad (Iat f1 f0) (IC 1)) (by decide)); subst ix0; clear f48)
  | (have ix0 : n22 = n0 + 1 := Eq.trans f48 (w32_id (by omega) (by omega)); subst ix0; clear f48)
  | (unfold w32 at f48; have ix0 : n22 = n0 + 1 := (by omega); subst ix0)
  | skip
  try unfold w32 at f27
  try unfold w32 at f36
  try unfold w32 at f48
  try subst k3
  try subst k2
  try subst k1
  try subst k0
  refine ⟨?_, fun q hq => ?_⟩
  · refine ⟨?_, ?_, ?_, ?_, ?_⟩ <;> first | assumption | omega | trivial
  · have g6 := Option.some.inj hq
    subst g6
    omega
def g_313_93_8 : vG := ([(10, [22, 11], [], 1), (30, [21], [], 0), (1239, [21, 5, 11], [1, 2], 0), (90, [21], [], 0), (91, [21], [], 1), (30, [20], [], 0), (22, [20, 19, 11], [1], 0), (90, [20], [], 0), (91, [20], [], 1), (20, [19, 5], [1], 37), (0, [19], [], 307), (42, [11, 18], [], 0), (1, [18, 14, 17], [], 0), (22, [17, 15, 16], [1], 0), (90, [17], [], 0), (91, [17], [], 12), (20, [16, 5], [1], 34), (90, [16], [], 0), (91, [16], [], 1), (20, [15, 5], [1], 36), (0, [15], [], 306), (3, [14, 12, 13], [], 0), (20, [13, 5], [1], 34), (90, [13], [], 0), (91, [13], [], 1), (0, [12], [], 12), (5000, [0, 1, 2, 3, 4, 5, 6, 7, 8, 9, 10, 11], [0, 1], 93), (0, [0], [], 285), (90, [1], [], -2147483648), (91, [1], [], 2147483647), (90, [2], [], -2147483648), (91, [2], [], 2147483647), (90, [3], [], -2147483648), (91, [3], [], 2147483647), (90, [4], [], -2147483648), (91, [4], [], 2147483647), (0, [5], [], 285), (90, [6], [], -2147483648), (91, [6], [], 2147483647), (90, [7], [], -2147483648), (91, [7], [], 2147483647), (90, [8], [], -2147483648), (91, [8], [], 2147483647), (90, [9], [], -2147483648), (91, [9], [], 2147483647), (90, [10], [], -2147483648), (91, [10], [], 2147483647), (90, [11], [], 0), (91, [11], [], 24)], (4000, [5, 6, 7, 8, 9, 10, 22], [2], 93))
theorem c_313_93_8 {q0 : Nat} : vOkm T0 (eP e_313 L_313 A_313 mu_313 (some q0)) 5 g_313_93_8 := vOk_inI fun ρ η f0 f1 f2 f3 f4 f5 f6 f7 f8 f9 f10 f11 f12 f13 f14 f15 f16 f17 f18 f19 f20 f21 f22 f23 f24 f25 f26 f27 f28 f29 f30 f31 f32 f33 f34 f35 f36 f37 f38 f39 f40 f41 f42 f43 f44 f45 f46 f47 f48 => q_313_17 (q0 := q0) (n0 := ρ 11) (n1 := ρ 10) (n2 := ρ 9) (n3 := ρ 8) (n4 := ρ 7) (n5 := ρ 6) (n6 := ρ 5) (n7 := ρ 4) (n8 := ρ 3) (n9 := ρ 2) (n10 := ρ 1) (n11 := ρ 0) (n12 := ρ 12) (n13 := ρ 13) (n14 := ρ 14) (n15 := ρ 15) (n16 := ρ 16) (n17 := ρ 17) (n18 := ρ 18) (n19 := ρ 19) (n20 := ρ 20) (n21 := ρ 21) (n22 := ρ 22) (H0 := η 0) (H1 := η 1) (H2 := η 2) f48 f47 f46 f45 f44 f43 f42 f41 f40 f39 f38 f37 f36 f35 f34 f33 f32 f31 f30 f29 f28 f27 f26 f25 f24 f23 f22 f21 f20 f19 f18 f17 f16 f15 f14 f13 f12 f11 f10 f9 f8 f7 f6 f5 f4 f3 f2 f1 f0
def p_313_93 : List vG := [g_313_93_0,
  g_313_93_1,
  g_313_93_2,
  g_313_93_3,
  g_313_93_4,
  g_313_93_5,
  g_313_93_6,
  g_313_93_7,
  g_313_93_8]
theorem r_313_93 : vCovO true (eRc e_313 L_313 cs_313 2000 (93, [(0, (3, 12, 285, 0)), (1, (0, -2147483648, 2147483647, 0)), (2, (0, -2147483648, 2147483647, 0)), (3, (0, -2147483648, 2147483647, 0)), (4, (0, -2147483648, 2147483647, 0)), (5, (0, -2147483648, 2147483647, 0)), (6, (0, 0, 24, 0))])) p_313_93 = true := by decide +kernel
theorem m_313 (d : Nat) : eC e_313 (d + 5) := eC_ok (e := e_313) (L := L_313) (cs := cs_313) (n := 2000) (d := d + 4) (A := A_313) (μ := mu_313) (tp := true) (p0 := p_313_s) rfl ⟨m_239 (d + 2), ⟨m_251 (d + 3), ⟨m_310 d, ⟨m_311 (d + 1), trivial⟩⟩⟩⟩ rfl (.inl rfl) (by decide +kernel) (fun _ => post0_ok) r_313_s (allC c_313_s_0 (allC c_313_s_1 (allC c_313_s_2 (allC c_313_s_3 (allC c_313_s_4 (allC c_313_s_5 (allC c_313_s_6 (allC c_313_s_7 (allC c_313_s_8 allN))))))))) (allC (.inl ⟨p_313_93, r_313_93, fun q0 => (allC c_313_93_0 (allC c_313_93_1 (allC c_313_93_2 (allC c_313_93_3 (allC c_313_93_4 (allC c_313_93_5 (allC c_313_93_6 (allC c_313_93_7 (allC c_313_93_8 allN)))))))))⟩) allN)
