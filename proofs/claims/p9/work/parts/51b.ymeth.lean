/-! CONTRACTS of methods (printed by wip/gen/emit.py). -/
/- MixStageModel.termOf (II)I -/
noncomputable def s_238 : vM := ([(3, 12, 285, 0), (0, 0, 1200, 0), (0, 0, 1200, 0)], (0, -2147483648, 2147483647, 0), 1, 0, [(12, 58), (420, 0)])
def preb_238 (a0 a1 a2 : Int) (h : gH) : Prop := CGp (hV h 320) (hV h 321) a1 a2 ∧ a2 - a1 ≤ 500
def pre_238 : List Int → gH → Prop := fun xs h => match xs with
  | [a0, a1, a2] => preb_238 a0 a1 a2 h
  | _ => False
noncomputable def e_238 : vE := (238, s_238, pre_238, post0)
noncomputable def L_238 : List vE := []
def cs_238 : List vC := [(5, [(0, (3, 12, 285, 0)), (1, (0, 0, 1200, 0)), (2, (0, 0, 1200, 0)), (3, (0, 0, 500, 0)), (4, (0, 0, 1200, 0))])]
def Ab_238_5 (a0 a1 a2 x0 x1 x2 x3 x4 : Int) (h0 h : gH) : Prop := x1 = a1 ∧ x2 = a2 ∧ x3 = dpt (hV h 320) (a1).toNat (x4 - a1).toNat ∧ a1 ≤ x4 ∧ x4 ≤ a2
def mub_238_5 (a0 a1 a2 x0 x1 x2 x3 x4 : Int) (h0 h : gH) : Nat := (2000 - x4).toNat
def A_238 : Int → List Int → gH → gH → Prop := fun c xs h0 h => match c.toNat with
  | 5 => (match xs with
    | [a0, a1, a2, x0, x1, x2, x3, x4] => Ab_238_5 a0 a1 a2 x0 x1 x2 x3 x4 h0 h
    | _ => False)
  | _ => True
def mu_238 : Int → List Int → gH → gH → Nat := fun c xs h0 h => match c.toNat with
  | 5 => (match xs with
    | [a0, a1, a2, x0, x1, x2, x3, x4] => mub_238_5 a0 a1 a2 x0 x1 x2 x3 x4 h0 h
    | _ => 0)
  | _ => 0
theorem q_238_0 {n0 n1 n2 n3 : Int} {H0 : gH} (f0 : n0 ≤ 1200) (f1 : 0 ≤ n0) (f2 : n1 ≤ 1200) (f3 : 0 ≤ n1) (f4 : n2 = 285) (f5 : hWt T0 H0 ∧ preb_238 n2 n1 n0 H0) (f6 : n3 = 0) : Ab_238_5 n2 n1 n0 n2 n1 n0 n3 n1 H0 H0 ∧ ∀ q, none = some q → mub_238_5 n2 n1 n0 n2 n1 n0 n3 n1 H0 H0 < q := by
  unfold preb_238 at f5
  unfold Ab_238_5
  have p0 := f5.2.1
  have p1 := f5.2.2
  clear f5

  have e0 : (n1 - n1).toNat = 0 := by omega
  refine ⟨⟨?_, ?_, ?_, ?_, ?_⟩, fun q hq => nomatch hq⟩
  · omega
  · omega
  · rw [e0]
    show _ = (0 : Int)
    omega
  · omega
  · have := p0.1
    omega
def g_238_s_0 : vG := ([(0, [3], [], 0), (6000, [0, 1, 2], [0], 0), (0, [0], [], 285), (90, [1], [], 0), (91, [1], [], 1200), (90, [2], [], 0), (91, [2], [], 1200)], (4000, [0, 1, 2, 3, 1], [0], 5))
theorem c_238_s_0 : vOkm T0 (eP e_238 L_238 A_238 mu_238 none) 3 g_238_s_0 := vOk_inI fun ρ η f0 f1 f2 f3 f4 f5 f6 => q_238_0 (n0 := ρ 2) (n1 := ρ 1) (n2 := ρ 0) (n3 := ρ 3) (H0 := η 0) f6 f5 f4 f3 f2 f1 f0
def p_238_s : List vG := [g_238_s_0]
theorem r_238_s : vCovO true (eR0 e_238 L_238 cs_238 2000) p_238_s = true := by decide +kernel
theorem kR_238_320 : vFreeR s_238.2.2.2.2 320 = true := by decide +kernel
theorem q_238_1 {q0 : Nat} {n0 n1 n2 n3 n4 n5 n6 n7 : Int} {H0 H1 : gH} (f0 : n0 ≤ 1200) (f1 : 0 ≤ n0) (f2 : n1 ≤ 500) (f3 : 0 ≤ n1) (f4 : n2 ≤ 1200) (f5 : 0 ≤ n2) (f6 : n3 ≤ 1200) (f7 : 0 ≤ n3) (f8 : n4 = 285) (f9 : n5 ≤ 1200) (f10 : 0 ≤ n5) (f11 : n6 ≤ 1200) (f12 : 0 ≤ n6) (f13 : n7 = 285) (f14 : (hLe T0 H0 H1 ∧ hFr s_238.2.2.2.2 H0 H1 ∧ hWt T0 H1) ∧ (Ab_238_5 n7 n6 n5 n4 n3 n2 n1 n0 H0 H1 ∧ preb_238 n7 n6 n5 H0) ∧ some q0 = some (mub_238_5 n7 n6 n5 n4 n3 n2 n1 n0 H0 H1)) (f15 : n0 < n2) : 0 ≤ n0 ∧ n0 < 1200 := by
  have g4 := f14.2.1.1
  unfold Ab_238_5 at g4
  have g3 := f14.2.1.2
  unfold preb_238 at g3
  have e0 : hV H1 320 = hV H0 320 := fRow f14.1.2.1 320 kR_238_320
  have k0 := g4.1
  have k1 := g4.2.1
  have y0 := g4.2.2.1
  have y1 := g4.2.2.2.1
  have y2 := g4.2.2.2.2
  have p0 := g3.1
  have p1 := g3.2
  try simp only [e0] at y0
  clear g3
  clear g4
  clear e0
  clear f14
  try have cg := CG_at p0 (by omega) (by omega) (c := n0) (by omega)
  try subst k1
  try subst k0
  subst y0
  omega
def g_238_5_0 : vG := ([(42, [7, 5], [], 0), (5000, [0, 1, 2, 3, 4, 5, 6, 7], [0, 1], 5), (0, [0], [], 285), (90, [1], [], 0), (91, [1], [], 1200), (90, [2], [], 0), (91, [2], [], 1200), (0, [3], [], 285), (90, [4], [], 0), (91, [4], [], 1200), (90, [5], [], 0), (91, [5], [], 1200), (90, [6], [], 0), (91, [6], [], 500), (90, [7], [], 0), (91, [7], [], 1200)], (70, [7], [], 1200))
theorem c_238_5_0 {q0 : Nat} : vOkm T0 (eP e_238 L_238 A_238 mu_238 (some q0)) 3 g_238_5_0 := vOk_inI fun ρ η f0 f1 f2 f3 f4 f5 f6 f7 f8 f9 f10 f11 f12 f13 f14 f15 => q_238_1 (q0 := q0) (n0 := ρ 7) (n1 := ρ 6) (n2 := ρ 5) (n3 := ρ 4) (n4 := ρ 3) (n5 := ρ 2) (n6 := ρ 1) (n7 := ρ 0) (H0 := η 0) (H1 := η 1) f15 f14 f13 f12 f11 f10 f9 f8 f7 f6 f5 f4 f3 f2 f1 f0
theorem q_238_2 {q0 : Nat} {n0 n1 n2 n3 n4 n5 n6 n7 n8 n9 n10 n11 n12 n13 : Int} {H0 H1 : gH} (f0 : n0 ≤ 1200) (f1 : 0 ≤ n0) (f2 : n1 ≤ 500) (f3 : 0 ≤ n1) (f4 : n2 ≤ 1200) (f5 : 0 ≤ n2) (f6 : n3 ≤ 1200) (f7 : 0 ≤ n3) (f8 : n4 = 285) (f9 : n5 ≤ 1200) (f10 : 0 ≤ n5) (f11 : n6 ≤ 1200) (f12 : 0 ≤ n6) (f13 : n7 = 285) (f14 : (hLe T0 H0 H1 ∧ hFr s_238.2.2.2.2 H0 H1 ∧ hWt T0 H1) ∧ (Ab_238_5 n7 n6 n5 n4 n3 n2 n1 n0 H0 H1 ∧ preb_238 n7 n6 n5 H0) ∧ some q0 = some (mub_238_5 n7 n6 n5 n4 n3 n2 n1 n0 H0 H1)) (f15 : n0 < n2) (f16 : n8 = 320) (f17 : n8 = hV H1 (n4).toNat 52) (f18 : n9 ≤ 5) (f19 : 0 ≤ n9) (f20 : n9 = hV H1 (n8).toNat (n0).toNat) (f21 : n10 = 2) (f22 : n10 ≤ n9) (f23 : n11 = w32 (n1 + (-1))) (f24 : n12 = 1) (f25 : n13 = w32 (n11 - n12)) : 0 ≤ n13 ∧ n13 < 500 := by
  have g4 := f14.2.1.1
  unfold Ab_238_5 at g4
  have g3 := f14.2.1.2
  unfold preb_238 at g3
  have e0 : hV H1 320 = hV H0 320 := fRow f14.1.2.1 320 kR_238_320
  have e1 : n9 = hV H0 320 (n0).toNat := (by rw [f16] at f20; exact f20 : n9 = hV H1 320 (n0).toNat).trans ((congrFun e0 _))
  have k0 := g4.1
  have k1 := g4.2.1
  have y0 := g4.2.2.1
  have y1 := g4.2.2.2.1
  have y2 := g4.2.2.2.2
  have p0 := g3.1
  have p1 := g3.2
  try simp only [e0] at y0
  clear g3
  clear g4
  clear f17 f20 e0
  clear f14
  subst e1
  try have cg := CG_at p0 (by omega) (by omega) (c := n0) (by omega)
  first
  | (have ix0 : n11 = n1 + -1 := Eq.trans f23 (w32_iv (Iad (Iat f3 f2) (IC (-1))) (by decide)); subst ix0; clear f23)
  | (have ix0 : n11 = n1 + -1 := Eq.trans f23 (w32_id (by omega) (by omega)); subst ix0; clear f23)
  | (unfold w32 at f23; have ix0 : n11 = n1 + -1 := (by omega); subst ix0)
  | skip
  first
  | (have ix1 : n13 = (n1 + -1) - 1 := Eq.trans f25 (w32_iv (Isu (Iad (Iat f3 f2) (IC (-1))) (IC 1)) (by decide)); subst ix1; clear f25)
  | (have ix1 : n13 = (n1 + -1) - 1 := Eq.trans f25 (w32_id (by omega) (by omega)); subst ix1; clear f25)
  | (unfold w32 at f25; have ix1 : n13 = (n1 + -1) - 1 := (by omega); subst ix1)
  | skip
  try unfold w32 at f23
  try unfold w32 at f25
  try subst k1
  try subst k0
  subst y0
  omega
def g_238_5_1 : vG := ([(2, [14, 11, 13], [], 0), (0, [13], [], 1), (10, [11, 6], [], -1), (43, [9, 10], [], 0), (0, [10], [], 2), (22, [9, 8, 7], [1], 0), (90, [9], [], 0), (91, [9], [], 5), (20, [8, 3], [1], 52), (0, [8], [], 320), (42, [7, 5], [], 0), (5000, [0, 1, 2, 3, 4, 5, 6, 7], [0, 1], 5), (0, [0], [], 285), (90, [1], [], 0), (91, [1], [], 1200), (90, [2], [], 0), (91, [2], [], 1200), (0, [3], [], 285), (90, [4], [], 0), (91, [4], [], 1200), (90, [5], [], 0), (91, [5], [], 1200), (90, [6], [], 0), (91, [6], [], 500), (90, [7], [], 0), (91, [7], [], 1200)], (70, [14], [], 500))
theorem c_238_5_1 {q0 : Nat} : vOkm T0 (eP e_238 L_238 A_238 mu_238 (some q0)) 3 g_238_5_1 := vOk_inI fun ρ η f0 f1 f2 f3 f4 f5 f6 f7 f8 f9 f10 f11 f12 f13 f14 f15 f16 f17 f18 f19 f20 f21 f22 f23 f24 f25 => q_238_2 (q0 := q0) (n0 := ρ 7) (n1 := ρ 6) (n2 := ρ 5) (n3 := ρ 4) (n4 := ρ 3) (n5 := ρ 2) (n6 := ρ 1) (n7 := ρ 0) (n8 := ρ 8) (n9 := ρ 9) (n10 := ρ 10) (n11 := ρ 11) (n12 := ρ 13) (n13 := ρ 14) (H0 := η 0) (H1 := η 1) f25 f24 f23 f22 f21 f20 f19 f18 f17 f16 f15 f14 f13 f12 f11 f10 f9 f8 f7 f6 f5 f4 f3 f2 f1 f0
theorem q_238_3 {q0 : Nat} {n0 n1 n2 n3 n4 n5 n6 n7 n8 n9 n10 n11 n12 n13 : Int} {H0 H1 : gH} (f0 : n0 ≤ 1200) (f1 : 0 ≤ n0) (f2 : n1 ≤ 500) (f3 : 0 ≤ n1) (f4 : n2 ≤ 1200) (f5 : 0 ≤ n2) (f6 : n3 ≤ 1200) (f7 : 0 ≤ n3) (f8 : n4 = 285) (f9 : n5 ≤ 1200) (f10 : 0 ≤ n5) (f11 : n6 ≤ 1200) (f12 : 0 ≤ n6) (f13 : n7 = 285) (f14 : (hLe T0 H0 H1 ∧ hFr s_238.2.2.2.2 H0 H1 ∧ hWt T0 H1) ∧ (Ab_238_5 n7 n6 n5 n4 n3 n2 n1 n0 H0 H1 ∧ preb_238 n7 n6 n5 H0) ∧ some q0 = some (mub_238_5 n7 n6 n5 n4 n3 n2 n1 n0 H0 H1)) (f15 : n0 < n2) (f16 : n8 = 320) (f17 : n8 = hV H1 (n4).toNat 52) (f18 : n9 ≤ 5) (f19 : 0 ≤ n9) (f20 : n9 = hV H1 (n8).toNat (n0).toNat) (f21 : n10 = 2) (f22 : n10 ≤ n9) (f23 : n11 = w32 (n1 + (-1))) (f24 : n12 = 1) (f25 : n13 = w32 (n11 - n12)) : 0 ≤ n11 ∧ n11 < 500 := by
  have g4 := f14.2.1.1
  unfold Ab_238_5 at g4
  have g3 := f14.2.1.2
  unfold preb_238 at g3
  have e0 : hV H1 320 = hV H0 320 := fRow f14.1.2.1 320 kR_238_320
  have e1 : n9 = hV H0 320 (n0).toNat := (by rw [f16] at f20; exact f20 : n9 = hV H1 320 (n0).toNat).trans ((congrFun e0 _))
  have k0 := g4.1
  have k1 := g4.2.1
  have y0 := g4.2.2.1
  have y1 := g4.2.2.2.1
  have y2 := g4.2.2.2.2
  have p0 := g3.1
  have p1 := g3.2
  try simp only [e0] at y0
  clear g3
  clear g4
  clear f17 f20 e0
  clear f14
  subst e1
  try have cg := CG_at p0 (by omega) (by omega) (c := n0) (by omega)
  first
  | (have ix0 : n11 = n1 + -1 := Eq.trans f23 (w32_iv (Iad (Iat f3 f2) (IC (-1))) (by decide)); subst ix0; clear f23)
  | (have ix0 : n11 = n1 + -1 := Eq.trans f23 (w32_id (by omega) (by omega)); subst ix0; clear f23)
  | (unfold w32 at f23; have ix0 : n11 = n1 + -1 := (by omega); subst ix0)
  | skip
  try unfold w32 at f23
  try unfold w32 at f25
  try subst k1
  try subst k0
  subst y0
  omega
def g_238_5_2 : vG := ([(2, [14, 11, 13], [], 0), (0, [13], [], 1), (10, [11, 6], [], -1), (43, [9, 10], [], 0), (0, [10], [], 2), (22, [9, 8, 7], [1], 0), (90, [9], [], 0), (91, [9], [], 5), (20, [8, 3], [1], 52), (0, [8], [], 320), (42, [7, 5], [], 0), (5000, [0, 1, 2, 3, 4, 5, 6, 7], [0, 1], 5), (0, [0], [], 285), (90, [1], [], 0), (91, [1], [], 1200), (90, [2], [], 0), (91, [2], [], 1200), (0, [3], [], 285), (90, [4], [], 0), (91, [4], [], 1200), (90, [5], [], 0), (91, [5], [], 1200), (90, [6], [], 0), (91, [6], [], 500), (90, [7], [], 0), (91, [7], [], 1200)], (70, [11], [], 500))
theorem c_238_5_2 {q0 : Nat} : vOkm T0 (eP e_238 L_238 A_238 mu_238 (some q0)) 3 g_238_5_2 := vOk_inI fun ρ η f0 f1 f2 f3 f4 f5 f6 f7 f8 f9 f10 f11 f12 f13 f14 f15 f16 f17 f18 f19 f20 f21 f22 f23 f24 f25 => q_238_3 (q0 := q0) (n0 := ρ 7) (n1 := ρ 6) (n2 := ρ 5) (n3 := ρ 4) (n4 := ρ 3) (n5 := ρ 2) (n6 := ρ 1) (n7 := ρ 0) (n8 := ρ 8) (n9 := ρ 9) (n10 := ρ 10) (n11 := ρ 11) (n12 := ρ 13) (n13 := ρ 14) (H0 := η 0) (H1 := η 1) f25 f24 f23 f22 f21 f20 f19 f18 f17 f16 f15 f14 f13 f12 f11 f10 f9 f8 f7 f6 f5 f4 f3 f2 f1 f0
theorem q_238_4 {q0 : Nat} {n0 n1 n2 n3 n4 n5 n6 n7 n8 n9 n10 n11 n12 n13 n14 n15 n16 n17 n18 n19 n20 n21 n22 n23 n24 : Int} {H0 H1 : gH} (f0 : n0 ≤ 1200) (f1 : 0 ≤ n0) (f2 : n1 ≤ 500) (f3 : 0 ≤ n1) (f4 : n2 ≤ 1200) (f5 : 0 ≤ n2) (f6 : n3 ≤ 1200) (f7 : 0 ≤ n3) (f8 : n4 = 285) (f9 : n5 ≤ 1200) (f10 : 0 ≤ n5) (f11 : n6 ≤ 1200) (f12 : 0 ≤ n6) (f13 : n7 = 285) (f14 : (hLe T0 H0 H1 ∧ hFr s_238.2.2.2.2 H0 H1 ∧ hWt T0 H1) ∧ (Ab_238_5 n7 n6 n5 n4 n3 n2 n1 n0 H0 H1 ∧ preb_238 n7 n6 n5 H0) ∧ some q0 = some (mub_238_5 n7 n6 n5 n4 n3 n2 n1 n0 H0 H1)) (f15 : n0 < n2) (f16 : n8 = 320) (f17 : n8 = hV H1 (n4).toNat 52) (f18 : n9 ≤ 5) (f19 : 0 ≤ n9) (f20 : n9 = hV H1 (n8).toNat (n0).toNat) (f21 : n10 = 2) (f22 : n10 ≤ n9) (f23 : n11 = w32 (n1 + (-1))) (f24 : n12 = 324) (f25 : n12 = hV H1 (n4).toNat 57) (f26 : n13 = 1) (f27 : n14 = w32 (n11 - n13)) (f28 : n15 ≤ 2147483647) (f29 : (-2147483648) ≤ n15) (f30 : n15 = hV H1 (n12).toNat (n14).toNat) (f31 : n16 = 324) (f32 : n16 = hV H1 (n4).toNat 57) (f33 : n17 ≤ 2147483647) (f34 : (-2147483648) ≤ n17) (f35 : n17 = hV H1 (n16).toNat (n11).toNat) (f36 : n18 = 5) (f37 : n9 ≠ n18) (f38 : n19 = 324) (f39 : n19 = hV H1 (n4).toNat 57) (f40 : n20 = 1) (f41 : n21 = w32 (n11 - n20)) (f42 : n22 = 2) (f43 : n9 ≠ n22) (f44 : n23 = 3) (f45 : n9 ≠ n23) (f46 : n24 = 4) (f47 : n9 ≠ n24) : n17 ≠ 0 := by
  have g4 := f14.2.1.1
  unfold Ab_238_5 at g4
  have g3 := f14.2.1.2
  unfold preb_238 at g3
  have e0 : hV H1 320 = hV H0 320 := fRow f14.1.2.1 320 kR_238_320
  have e1 : n9 = hV H0 320 (n0).toNat := (by rw [f16] at f20; exact f20 : n9 = hV H1 320 (n0).toNat).trans ((congrFun e0 _))
  have e2 : n15 = hV H1 324 (n14).toNat := (by rw [f24] at f30; exact f30 : n15 = hV H1 324 (n14).toNat)
  have e3 : n17 = hV H1 324 (n11).toNat := (by rw [f31] at f35; exact f35 : n17 = hV H1 324 (n11).toNat)
  have k0 := g4.1
  have k1 := g4.2.1
  have y0 := g4.2.2.1
  have y1 := g4.2.2.2.1
  have y2 := g4.2.2.2.2
  have p0 := g3.1
  have p1 := g3.2
  try simp only [e0] at y0
  clear g3
  clear g4
  clear f17 f20 f25 f30 f32 f35 f39 e0
  clear f14
  subst e1
  subst e2
  subst e3
  try have cg := CG_at p0 (by omega) (by omega) (c := n0) (by omega)
  first
  | (have ix0 : n11 = n1 + -1 := Eq.trans f23 (w32_iv (Iad (Iat f3 f2) (IC (-1))) (by decide)); subst ix0; clear f23)
  | (have ix0 : n11 = n1 + -1 := Eq.trans f23 (w32_id (by omega) (by omega)); subst ix0; clear f23)
  | (unfold w32 at f23; have ix0 : n11 = n1 + -1 := (by omega); subst ix0)
  | skip
  first
  | (have ix1 : n14 = (n1 + -1) - 1 := Eq.trans f27 (w32_iv (Isu (Iad (Iat f3 f2) (IC (-1))) (IC 1)) (by decide)); subst ix1; clear f27)
  | (have ix1 : n14 = (n1 + -1) - 1 := Eq.trans f27 (w32_id (by omega) (by omega)); subst ix1; clear f27)
  | (unfold w32 at f27; have ix1 : n14 = (n1 + -1) - 1 := (by omega); subst ix1)
  | skip
  try unfold w32 at f23
  try unfold w32 at f27
  try unfold w32 at f41
  try subst k1
  try subst k0
  subst y0
  omega
def g_238_5_3 : vG := ([(41, [9, 24], [], 0), (0, [24], [], 4), (41, [9, 23], [], 0), (0, [23], [], 3), (41, [9, 22], [], 0), (0, [22], [], 2), (2, [21, 11, 20], [], 0), (0, [20], [], 1), (20, [19, 3], [1], 57), (0, [19], [], 324), (41, [9, 18], [], 0), (0, [18], [], 5), (22, [17, 16, 11], [1], 0), (90, [17], [], -2147483648), (91, [17], [], 2147483647), (20, [16, 3], [1], 57), (0, [16], [], 324), (22, [15, 12, 14], [1], 0), (90, [15], [], -2147483648), (91, [15], [], 2147483647), (2, [14, 11, 13], [], 0), (0, [13], [], 1), (20, [12, 3], [1], 57), (0, [12], [], 324), (10, [11, 6], [], -1), (43, [9, 10], [], 0), (0, [10], [], 2), (22, [9, 8, 7], [1], 0), (90, [9], [], 0), (91, [9], [], 5), (20, [8, 3], [1], 52), (0, [8], [], 320), (42, [7, 5], [], 0), (5000, [0, 1, 2, 3, 4, 5, 6, 7], [0, 1], 5), (0, [0], [], 285), (90, [1], [], 0), (91, [1], [], 1200), (90, [2], [], 0), (91, [2], [], 1200), (0, [3], [], 285), (90, [4], [], 0), (91, [4], [], 1200), (90, [5], [], 0), (91, [5], [], 1200), (90, [6], [], 0), (91, [6], [], 500), (90, [7], [], 0), (91, [7], [], 1200)], (72, [17], [], 0))
theorem c_238_5_3 {q0 : Nat} : vOkm T0 (eP e_238 L_238 A_238 mu_238 (some q0)) 3 g_238_5_3 := vOk_inI fun ρ η f0 f1 f2 f3 f4 f5 f6 f7 f8 f9 f10 f11 f12 f13 f14 f15 f16 f17 f18 f19 f20 f21 f22 f23 f24 f25 f26 f27 f28 f29 f30 f31 f32 f33 f34 f35 f36 f37 f38 f39 f40 f41 f42 f43 f44 f45 f46 f47 => q_238_4 (q0 := q0) (n0 := ρ 7) (n1 := ρ 6) (n2 := ρ 5) (n3 := ρ 4) (n4 := ρ 3) (n5 := ρ 2) (n6 := ρ 1) (n7 := ρ 0) (n8 := ρ 8) (n9 := ρ 9) (n10 := ρ 10) (n11 := ρ 11) (n12 := ρ 12) (n13 := ρ 13) (n14 := ρ 14) (n15 := ρ 15) (n16 := ρ 16) (n17 := ρ 17) (n18 := ρ 18) (n19 := ρ 19) (n20 := ρ 20) (n21 := ρ 21) (n22 := ρ 22) (n23 := ρ 23) (n24 := ρ 24) (H0 := η 0) (H1 := η 1) f47 f46 f45 f44 f43 f42 f41 f40 f39 f38 f37 f36 f35 f34 f33 f32 f31 f30 f29 f28 f27 f26 f25 f24 f23 f22 f21 f20 f19 f18 f17 f16 f15 f14 f13 f12 f11 f10 f9 f8 f7 f6 f5 f4 f3 f2 f1 f0
theorem q_238_5 {q0 : Nat} {n0 n1 n2 n3 n4 n5 n6 n7 n8 n9 n10 n11 n12 n13 n14 n15 n16 n17 n18 n19 : Int} {H0 H1 : gH} (f0 : n0 ≤ 1200) (f1 : 0 ≤ n0) (f2 : n1 ≤ 500) (f3 : 0 ≤ n1) (f4 : n2 ≤ 1200) (f5 : 0 ≤ n2) (f6 : n3 ≤ 1200) (f7 : 0 ≤ n3) (f8 : n4 = 285) (f9 : n5 ≤ 1200) (f10 : 0 ≤ n5) (f11 : n6 ≤ 1200) (f12 : 0 ≤ n6) (f13 : n7 = 285) (f14 : (hLe T0 H0 H1 ∧ hFr s_238.2.2.2.2 H0 H1 ∧ hWt T0 H1) ∧ (Ab_238_5 n7 n6 n5 n4 n3 n2 n1 n0 H0 H1 ∧ preb_238 n7 n6 n5 H0) ∧ some q0 = some (mub_238_5 n7 n6 n5 n4 n3 n2 n1 n0 H0 H1)) (f15 : n0 < n2) (f16 : n8 = 320) (f17 : n8 = hV H1 (n4).toNat 52) (f18 : n9 ≤ 5) (f19 : 0 ≤ n9) (f20 : n9 = hV H1 (n8).toNat (n0).toNat) (f21 : n10 = 2) (f22 : n10 ≤ n9) (f23 : n11 = w32 (n1 + (-1))) (f24 : n12 = 1) (f25 : n13 = w32 (n11 - n12)) (f26 : n14 = 5) (f27 : n9 ≠ n14) (f28 : n15 = 1) (f29 : n16 = w32 (n11 - n15)) (f30 : n17 = 2) (f31 : n9 ≠ n17) (f32 : n18 = 3) (f33 : n9 ≠ n18) (f34 : n19 = 4) (f35 : n9 ≠ n19) : 0 ≤ n16 ∧ n16 < 500 := by
  have g4 := f14.2.1.1
  unfold Ab_238_5 at g4
  have g3 := f14.2.1.2
  unfold preb_238 at g3
  have e0 : hV H1 320 = hV H0 320 := fRow f14.1.2.1 320 kR_238_320
  have e1 : n9 = hV H0 320 (n0).toNat := (by rw [f16] at f20; exact f20 : n9 = hV H1 320 (n0).toNat).trans ((congrFun e0 _))
  have k0 := g4.1
  have k1 := g4.2.1
  have y0 := g4.2.2.1
  have y1 := g4.2.2.2.1
  have y2 := g4.2.2.2.2
  have p0 := g3.1
  have p1 := g3.2
  try simp only [e0] at y0
  clear g3
  clear g4
  clear f17 f20 e0
  clear f14
  subst e1
  try have cg := CG_at p0 (by omega) (by omega) (c := n0) (by omega)
  first
  | (have ix0 : n11 = n1 + -1 := Eq.trans f23 (w32_iv (Iad (Iat f3 f2) (IC (-1))) (by decide)); subst ix0; clear f23)
  | (have ix0 : n11 = n1 + -1 := Eq.trans f23 (w32_id (by omega) (by omega)); subst ix0; clear f23)
  | (unfold w32 at f23; have ix0 : n11 = n1 + -1 := (by omega); subst ix0)
  | skip
  first
  | (have ix1 : n16 = (n1 + -1) - 1 := Eq.trans f29 (w32_iv (Isu (Iad (Iat f3 f2) (IC (-1))) (IC 1)) (by decide)); subst ix1; clear f29)
  | (have ix1 : n16 = (n1 + -1) - 1 := Eq.trans f29 (w32_id (by omega) (by omega)); subst ix1; clear f29)
  | (unfold w32 at f29; have ix1 : n16 = (n1 + -1) - 1 := (by omega); subst ix1)
  | skip
  try unfold w32 at f23
  try unfold w32 at f25
  try unfold w32 at f29
  try subst k1
  try subst k0
  subst y0
  omega
def g_238_5_4 : vG := ([(41, [9, 24], [], 0), (0, [24], [], 4), (41, [9, 23], [], 0), (0, [23], [], 3), (41, [9, 22], [], 0), (0, [22], [], 2), (2, [21, 11, 20], [], 0), (0, [20], [], 1), (41, [9, 18], [], 0), (0, [18], [], 5), (2, [14, 11, 13], [], 0), (0, [13], [], 1), (10, [11, 6], [], -1), (43, [9, 10], [], 0), (0, [10], [], 2), (22, [9, 8, 7], [1], 0), (90, [9], [], 0), (91, [9], [], 5), (20, [8, 3], [1], 52), (0, [8], [], 320), (42, [7, 5], [], 0), (5000, [0, 1, 2, 3, 4, 5, 6, 7], [0, 1], 5), (0, [0], [], 285), (90, [1], [], 0), (91, [1], [], 1200), (90, [2], [], 0), (91, [2], [], 1200), (0, [3], [], 285), (90, [4], [], 0), (91, [4], [], 1200), (90, [5], [], 0), (91, [5], [], 1200), (90, [6], [], 0), (91, [6], [], 500), (90, [7], [], 0), (91, [7], [], 1200)], (70, [21], [], 500))
theorem c_238_5_4 {q0 : Nat} : vOkm T0 (eP e_238 L_238 A_238 mu_238 (some q0)) 3 g_238_5_4 := vOk_inI fun ρ η f0 f1 f2 f3 f4 f5 f6 f7 f8 f9 f10 f11 f12 f13 f14 f15 f16 f17 f18 f19 f20 f21 f22 f23 f24 f25 f26 f27 f28 f29 f30 f31 f32 f33 f34 f35 => q_238_5 (q0 := q0) (n0 := ρ 7) (n1 := ρ 6) (n2 := ρ 5) (n3 := ρ 4) (n4 := ρ 3) (n5 := ρ 2) (n6 := ρ 1) (n7 := ρ 0) (n8 := ρ 8) (n9 := ρ 9) (n10 := ρ 10) (n11 := ρ 11) (n12 := ρ 13) (n13 := ρ 14) (n14 := ρ 18) (n15 := ρ 20) (n16 := ρ 21) (n17 := ρ 22) (n18 := ρ 23) (n19 := ρ 24) (H0 := η 0) (H1 := η 1) f35 f34 f33 f32 f31 f30 f29 f28 f27 f26 f25 f24 f23 f22 f21 f20 f19 f18 f17 f16 f15 f14 f13 f12 f11 f10 f9 f8 f7 f6 f5 f4 f3 f2 f1 f0
theorem q_238_6 {q0 : Nat} {n0 n1 n2 n3 n4 n5 n6 n7 n8 n9 n10 n11 n12 n13 n14 n15 n16 n17 n18 n19 n20 : Int} {H0 H1 : gH} (f0 : n0 ≤ 1200) (f1 : 0 ≤ n0) (f2 : n1 ≤ 500) (f3 : 0 ≤ n1) (f4 : n2 ≤ 1200) (f5 : 0 ≤ n2) (f6 : n3 ≤ 1200) (f7 : 0 ≤ n3) (f8 : n4 = 285) (f9 : n5 ≤ 1200) (f10 : 0 ≤ n5) (f11 : n6 ≤ 1200) (f12 : 0 ≤ n6) (f13 : n7 = 285) (f14 : (hLe T0 H0 H1 ∧ hFr s_238.2.2.2.2 H0 H1 ∧ hWt T0 H1) ∧ (Ab_238_5 n7 n6 n5 n4 n3 n2 n1 n0 H0 H1 ∧ preb_238 n7 n6 n5 H0) ∧ some q0 = some (mub_238_5 n7 n6 n5 n4 n3 n2 n1 n0 H0 H1)) (f15 : n0 < n2) (f16 : n8 = 320) (f17 : n8 = hV H1 (n4).toNat 52) (f18 : n9 ≤ 5) (f19 : 0 ≤ n9) (f20 : n9 = hV H1 (n8).toNat (n0).toNat) (f21 : n10 = 2) (f22 : n10 ≤ n9) (f23 : n11 = w32 (n1 + (-1))) (f24 : n12 = 1) (f25 : n13 = w32 (n11 - n12)) (f26 : n14 = 5) (f27 : n9 ≠ n14) (f28 : n15 = 1) (f29 : n16 = w32 (n11 - n15)) (f30 : n17 = 2) (f31 : n9 ≠ n17) (f32 : n18 = 3) (f33 : n9 ≠ n18) (f34 : n19 = 4) (f35 : n9 ≠ n19) (f36 : n20 = w32 (n0 + 1)) : 0 ≤ n11 := by
  have g4 := f14.2.1.1
  unfold Ab_238_5 at g4
  have g3 := f14.2.1.2
  unfold preb_238 at g3
  have e0 : hV H1 320 = hV H0 320 := fRow f14.1.2.1 320 kR_238_320
  have e1 : n9 = hV H0 320 (n0).toNat := (by rw [f16] at f20; exact f20 : n9 = hV H1 320 (n0).toNat).trans ((congrFun e0 _))
  have k0 := g4.1
  have k1 := g4.2.1
  have y0 := g4.2.2.1
  have y1 := g4.2.2.2.1
  have y2 := g4.2.2.2.2
  have p0 := g3.1
  have p1 := g3.2
  try simp only [e0] at y0
  clear g3
  clear g4
  clear f17 f20 e0
  clear f14
  subst e1
  try have cg := CG_at p0 (by omega) (by omega) (c := n0) (by omega)
  first
  | (have ix0 : n11 = n1 + -1 := Eq.trans f23 (w32_iv (Iad (Iat f3 f2) (IC (-1))) (by decide)); subst ix0; clear f23)
  | (have ix0 : n11 = n1 + -1 := Eq.trans f23 (w32_id (by omega) (by omega)); subst ix0; clear f23)
  | (unfold w32 at f23; have ix0 : n11 = n1 + -1 := (by omega); subst ix0)
  | skip
  try unfold w32 at f23
  try unfold w32 at f25
  try unfold w32 at f29
  try unfold w32 at f36
  try subst k1
  try subst k0
  subst y0
  omega
def g_238_5_5 : vG := ([(10, [26, 7], [], 1), (41, [9, 24], [], 0), (0, [24], [], 4), (41, [9, 23], [], 0), (0, [23], [], 3), (41, [9, 22], [], 0), (0, [22], [], 2), (2, [21, 11, 20], [], 0), (0, [20], [], 1), (41, [9, 18], [], 0), (0, [18], [], 5), (2, [14, 11, 13], [], 0), (0, [13], [], 1), (10, [11, 6], [], -1), (43, [9, 10], [], 0), (0, [10], [], 2), (22, [9, 8, 7], [1], 0), (90, [9], [], 0), (91, [9], [], 5), (20, [8, 3], [1], 52), (0, [8], [], 320), (42, [7, 5], [], 0), (5000, [0, 1, 2, 3, 4, 5, 6, 7], [0, 1], 5), (0, [0], [], 285), (90, [1], [], 0), (91, [1], [], 1200), (90, [2], [], 0), (91, [2], [], 1200), (0, [3], [], 285), (90, [4], [], 0), (91, [4], [], 1200), (90, [5], [], 0), (91, [5], [], 1200), (90, [6], [], 0), (91, [6], [], 500), (90, [7], [], 0), (91, [7], [], 1200)], (90, [11], [], 0))
theorem c_238_5_5 {q0 : Nat} : vOkm T0 (eP e_238 L_238 A_238 mu_238 (some q0)) 3 g_238_5_5 := vOk_inI fun ρ η f0 f1 f2 f3 f4 f5 f6 f7 f8 f9 f10 f11 f12 f13 f14 f15 f16 f17 f18 f19 f20 f21 f22 f23 f24 f25 f26 f27 f28 f29 f30 f31 f32 f33 f34 f35 f36 => q_238_6 (q0 := q0) (n0 := ρ 7) (n1 := ρ 6) (n2 := ρ 5) (n3 := ρ 4) (n4 := ρ 3) (n5 := ρ 2) (n6 := ρ 1) (n7 := ρ 0) (n8 := ρ 8) (n9 := ρ 9) (n10 := ρ 10) (n11 := ρ 11) (n12 := ρ 13) (n13 := ρ 14) (n14 := ρ 18) (n15 := ρ 20) (n16 := ρ 21) (n17 := ρ 22) (n18 := ρ 23) (n19 := ρ 24) (n20 := ρ 26) (H0 := η 0) (H1 := η 1) f36 f35 f34 f33 f32 f31 f30 f29 f28 f27 f26 f25 f24 f23 f22 f21 f20 f19 f18 f17 f16 f15 f14 f13 f12 f11 f10 f9 f8 f7 f6 f5 f4 f3 f2 f1 f0
theorem q_238_7 {q0 : Nat} {n0 n1 n2 n3 n4 n5 n6 n7 n8 n9 n10 n11 n12 n13 n14 n15 n16 n17 n18 n19 n20 : Int} {H0 H1 : gH} (f0 : n0 ≤ 1200) (f1 : 0 ≤ n0) (f2 : n1 ≤ 500) (f3 : 0 ≤ n1) (f4 : n2 ≤ 1200) (f5 : 0 ≤ n2) (f6 : n3 ≤ 1200) (f7 : 0 ≤ n3) (f8 : n4 = 285) (f9 : n5 ≤ 1200) (f10 : 0 ≤ n5) (f11 : n6 ≤ 1200) (f12 : 0 ≤ n6) (f13 : n7 = 285) (f14 : (hLe T0 H0 H1 ∧ hFr s_238.2.2.2.2 H0 H1 ∧ hWt T0 H1) ∧ (Ab_238_5 n7 n6 n5 n4 n3 n2 n1 n0 H0 H1 ∧ preb_238 n7 n6 n5 H0) ∧ some q0 = some (mub_238_5 n7 n6 n5 n4 n3 n2 n1 n0 H0 H1)) (f15 : n0 < n2) (f16 : n8 = 320) (f17 : n8 = hV H1 (n4).toNat 52) (f18 : n9 ≤ 5) (f19 : 0 ≤ n9) (f20 : n9 = hV H1 (n8).toNat (n0).toNat) (f21 : n10 = 2) (f22 : n10 ≤ n9) (f23 : n11 = w32 (n1 + (-1))) (f24 : n12 = 1) (f25 : n13 = w32 (n11 - n12)) (f26 : n14 = 5) (f27 : n9 ≠ n14) (f28 : n15 = 1) (f29 : n16 = w32 (n11 - n15)) (f30 : n17 = 2) (f31 : n9 ≠ n17) (f32 : n18 = 3) (f33 : n9 ≠ n18) (f34 : n19 = 4) (f35 : n9 ≠ n19) (f36 : n20 = w32 (n0 + 1)) : n11 ≤ 500 := by
  have g4 := f14.2.1.1
  unfold Ab_238_5 at g4
  have g3 := f14.2.1.2
  unfold preb_238 at g3
  have e0 : hV H1 320 = hV H0 320 := fRow f14.1.2.1 320 kR_238_320
  have e1 : n9 = hV H0 320 (n0).toNat := (by rw [f16] at f20; exact f20 : n9 = hV H1 320 (n0).toNat).trans ((congrFun e0 _))
  have k0 := g4.1
  have k1 := g4.2.1
  have y0 := g4.2.2.1
  have y1 := g4.2.2.2.1
  have y2 := g4.2.2.2.2
  have p0 := g3.1
  have p1 := g3.2
  try simp only [e0] at y0
  clear g3
  clear g4
  clear f17 f20 e0
  clear f14
  subst e1
  try have cg := CG_at p0 (by omega) (by omega) (c := n0) (by omega)
  first
  | (have ix0 : n11 = n1 + -1 := Eq.trans f23 (w32_iv (Iad (Iat f3 f2) (IC (-1))) (by decide)); subst ix0; clear f23)
  | (have ix0 : n11 = n1 + -1 := Eq.trans f23 (w32_id (by omega) (by omega)); subst ix0; clear f23)
  | (unfold w32 at f23; have ix0 : n11 = n1 + -1 := (by omega); subst ix0)
  | skip
  try unfold w32 at f23
  try unfold w32 at f25
  try unfold w32 at f29
  try unfold w32 at f36
  try subst k1
  try subst k0
  subst y0
  omega
def g_238_5_6 : vG := ([(10, [26, 7], [], 1), (41, [9, 24], [], 0), (0, [24], [], 4), (41, [9, 23], [], 0), (0, [23], [], 3), (41, [9, 22], [], 0), (0, [22], [], 2), (2, [21, 11, 20], [], 0), (0, [20], [], 1), (41, [9, 18], [], 0), (0, [18], [], 5), (2, [14, 11, 13], [], 0), (0, [13], [], 1), (10, [11, 6], [], -1), (43, [9, 10], [], 0), (0, [10], [], 2), (22, [9, 8, 7], [1], 0), (90, [9], [], 0), (91, [9], [], 5), (20, [8, 3], [1], 52), (0, [8], [], 320), (42, [7, 5], [], 0), (5000, [0, 1, 2, 3, 4, 5, 6, 7], [0, 1], 5), (0, [0], [], 285), (90, [1], [], 0), (91, [1], [], 1200), (90, [2], [], 0), (91, [2], [], 1200), (0, [3], [], 285), (90, [4], [], 0), (91, [4], [], 1200), (90, [5], [], 0), (91, [5], [], 1200), (90, [6], [], 0), (91, [6], [], 500), (90, [7], [], 0), (91, [7], [], 1200)], (91, [11], [], 500))
theorem c_238_5_6 {q0 : Nat} : vOkm T0 (eP e_238 L_238 A_238 mu_238 (some q0)) 3 g_238_5_6 := vOk_inI fun ρ η f0 f1 f2 f3 f4 f5 f6 f7 f8 f9 f10 f11 f12 f13 f14 f15 f16 f17 f18 f19 f20 f21 f22 f23 f24 f25 f26 f27 f28 f29 f30 f31 f32 f33 f34 f35 f36 => q_238_7 (q0 := q0) (n0 := ρ 7) (n1 := ρ 6) (n2 := ρ 5) (n3 := ρ 4) (n4 := ρ 3) (n5 := ρ 2) (n6 := ρ 1) (n7 := ρ 0) (n8 := ρ 8) (n9 := ρ 9) (n10 := ρ 10) (n11 := ρ 11) (n12 := ρ 13) (n13 := ρ 14) (n14 := ρ 18) (n15 := ρ 20) (n16 := ρ 21) (n17 := ρ 22) (n18 := ρ 23) (n19 := ρ 24) (n20 := ρ 26) (H0 := η 0) (H1 := η 1) f36 f35 f34 f33 f32 f31 f30 f29 f28 f27 f26 f25 f24 f23 f22 f21 f20 f19 f18 f17 f16 f15 f14 f13 f12 f11 f10 f9 f8 f7 f6 f5 f4 f3 f2 f1 f0
theorem q_238_8 {q0 : Nat} {n0 n1 n2 n3 n4 n5 n6 n7 n8 n9 n10 n11 n12 n13 n14 n15 n16 n17 n18 n19 n20 : Int} {H0 H1 : gH} (f0 : n0 ≤ 1200) (f1 : 0 ≤ n0) (f2 : n1 ≤ 500) (f3 : 0 ≤ n1) (f4 : n2 ≤ 1200) (f5 : 0 ≤ n2) (f6 : n3 ≤ 1200) (f7 : 0 ≤ n3) (f8 : n4 = 285) (f9 : n5 ≤ 1200) (f10 : 0 ≤ n5) (f11 : n6 ≤ 1200) (f12 : 0 ≤ n6) (f13 : n7 = 285) (f14 : (hLe T0 H0 H1 ∧ hFr s_238.2.2.2.2 H0 H1 ∧ hWt T0 H1) ∧ (Ab_238_5 n7 n6 n5 n4 n3 n2 n1 n0 H0 H1 ∧ preb_238 n7 n6 n5 H0) ∧ some q0 = some (mub_238_5 n7 n6 n5 n4 n3 n2 n1 n0 H0 H1)) (f15 : n0 < n2) (f16 : n8 = 320) (f17 : n8 = hV H1 (n4).toNat 52) (f18 : n9 ≤ 5) (f19 : 0 ≤ n9) (f20 : n9 = hV H1 (n8).toNat (n0).toNat) (f21 : n10 = 2) (f22 : n10 ≤ n9) (f23 : n11 = w32 (n1 + (-1))) (f24 : n12 = 1) (f25 : n13 = w32 (n11 - n12)) (f26 : n14 = 5) (f27 : n9 ≠ n14) (f28 : n15 = 1) (f29 : n16 = w32 (n11 - n15)) (f30 : n17 = 2) (f31 : n9 ≠ n17) (f32 : n18 = 3) (f33 : n9 ≠ n18) (f34 : n19 = 4) (f35 : n9 ≠ n19) (f36 : n20 = w32 (n0 + 1)) : 0 ≤ n20 := by
  have g4 := f14.2.1.1
  unfold Ab_238_5 at g4
  have g3 := f14.2.1.2
  unfold preb_238 at g3
  have e0 : hV H1 320 = hV H0 320 := fRow f14.1.2.1 320 kR_238_320
  have e1 : n9 = hV H0 320 (n0).toNat := (by rw [f16] at f20; exact f20 : n9 = hV H1 320 (n0).toNat).trans ((congrFun e0 _))
  have k0 := g4.1
  have k1 := g4.2.1
  have y0 := g4.2.2.1
  have y1 := g4.2.2.2.1
  have y2 := g4.2.2.2.2
  have p0 := g3.1
  have p1 := g3.2
  try simp only [e0] at y0
  clear g3
  clear g4
  clear f17 f20 e0
  clear f14
  subst e1
  try have cg := CG_at p0 (by omega) (by omega) (c := n0) (by omega)
  first
  | (have ix0 : n20 = n0 + 1 := Eq.trans f36 (w32_iv (Iad (Iat f1 f0) (IC 1)) (by decide)); subst ix0; clear f36)
  | (have ix0 : n20 = n0 + 1 := Eq.trans f36 (w32_id (by omega) (by omega)); subst ix0; clear f36)
  | (unfold w32 at f36; have ix0 : n20 = n0 + 1 := (by omega); subst ix0)
  | skip
  try unfold w32 at f23
  try unfold w32 at f25
  try unfold w32 at f29
  try unfold w32 at f36
  try subst k1
  try subst k0
  subst y0
  omega
def g_238_5_7 : vG := ([(10, [26, 7], [], 1), (41, [9, 24], [], 0), (0, [24], [], 4), (41, [9, 23], [], 0), (0, [23], [], 3), (41, [9, 22], [], 0), (0, [22], [], 2), (2, [21, 11, 20], [], 0), (0, [20], [], 1), (41, [9, 18], [], 0), (0, [18], [], 5), (2, [14, 11, 13], [], 0), (0, [13], [], 1), (10, [11, 6], [], -1), (43, [9, 10], [], 0), (0, [10], [], 2), (22, [9, 8, 7], [1], 0), (90, [9], [], 0), (91, [9], [], 5), (20, [8, 3], [1], 52), (0, [8], [], 320), (42, [7, 5], [], 0), (5000, [0, 1, 2, 3, 4, 5, 6, 7], [0, 1], 5), (0, [0], [], 285), (90, [1], [], 0), (91, [1], [], 1200), (90, [2], [], 0), (91, [2], [], 1200), (0, [3], [], 285), (90, [4], [], 0), (91, [4], [], 1200), (90, [5], [], 0), (91, [5], [], 1200), (90, [6], [], 0), (91, [6], [], 500), (90, [7], [], 0), (91, [7], [], 1200)], (90, [26], [], 0))
theorem c_238_5_7 {q0 : Nat} : vOkm T0 (eP e_238 L_238 A_238 mu_238 (some q0)) 3 g_238_5_7 := vOk_inI fun ρ η f0 f1 f2 f3 f4 f5 f6 f7 f8 f9 f10 f11 f12 f13 f14 f15 f16 f17 f18 f19 f20 f21 f22 f23 f24 f25 f26 f27 f28 f29 f30 f31 f32 f33 f34 f35 f36 => q_238_8 (q0 := q0) (n0 := ρ 7) (n1 := ρ 6) (n2 := ρ 5) (n3 := ρ 4) (n4 := ρ 3) (n5 := ρ 2) (n6 := ρ 1) (n7 := ρ 0) (n8 := ρ 8) (n9 := ρ 9) (n10 := ρ 10) (n11 := ρ 11) (n12 := ρ 13) (n13 := ρ 14) (n14 := ρ 18) (n15 := ρ 20) (n16 := ρ 21) (n17 := ρ 22) (n18 := ρ 23) (n19 := ρ 24) (n20 := ρ 26) (H0 := η 0) (H1 := η 1) f36 f35 f34 f33 f32 f31 f30 f29 f28 f27 f26 f25 f24 f23 f22 f21 f20 f19 f18 f17 f16 f15 f14 f13 f12 f11 f10 f9 f8 f7 f6 f5 f4 f3 f2 f1 f0
theorem q_238_9 {q0 : Nat} {n0 n1 n2 n3 n4 n5 n6 n7 n8 n9 n10 n11 n12 n13 n14 n15 n16 n17 n18 n19 n20 : Int} {H0 H1 : gH} (f0 : n0 ≤ 1200) (f1 : 0 ≤ n0) (f2 : n1 ≤ 500) (f3 : 0 ≤ n1) (f4 : n2 ≤ 1200) (f5 : 0 ≤ n2) (f6 : n3 ≤ 1200) (f7 : 0 ≤ n3) (f8 : n4 = 285) (f9 : n5 ≤ 1200) (f10 : 0 ≤ n5) (f11 : n6 ≤ 1200) (f12 : 0 ≤ n6) (f13 : n7 = 285) (f14 : (hLe T0 H0 H1 ∧ hFr s_238.2.2.2.2 H0 H1 ∧ hWt T0 H1) ∧ (Ab_238_5 n7 n6 n5 n4 n3 n2 n1 n0 H0 H1 ∧ preb_238 n7 n6 n5 H0) ∧ some q0 = some (mub_238_5 n7 n6 n5 n4 n3 n2 n1 n0 H0 H1)) (f15 : n0 < n2) (f16 : n8 = 320) (f17 : n8 = hV H1 (n4).toNat 52) (f18 : n9 ≤ 5) (f19 : 0 ≤ n9) (f20 : n9 = hV H1 (n8).toNat (n0).toNat) (f21 : n10 = 2) (f22 : n10 ≤ n9) (f23 : n11 = w32 (n1 + (-1))) (f24 : n12 = 1) (f25 : n13 = w32 (n11 - n12)) (f26 : n14 = 5) (f27 : n9 ≠ n14) (f28 : n15 = 1) (f29 : n16 = w32 (n11 - n15)) (f30 : n17 = 2) (f31 : n9 ≠ n17) (f32 : n18 = 3) (f33 : n9 ≠ n18) (f34 : n19 = 4) (f35 : n9 ≠ n19) (f36 : n20 = w32 (n0 + 1)) : n20 ≤ 1200 := by
  have g4 := f14.2.1.1
  unfold Ab_238_5 at g4
  have g3 := f14.2.1.2
  unfold preb_238 at g3
  have e0 : hV H1 320 = hV H0 320 := fRow f14.1.2.1 320 kR_238_320
  have e1 : n9 = hV H0 320 (n0).toNat := (by rw [f16] at f20; exact f20 : n9 = hV H1 320 (n0).toNat).trans ((congrFun e0 _))
  have k0 := g4.1
  have k1 := g4.2.1
  have y0 := g4.2.2.1
  have y1 := g4.2.2.2.1
  have y2 := g4.2.2.2.2
  have p0 := g3.1
  have p1 := g3.2
  try simp only [e0] at y0
  clear g3
  clear g4
  clear f17 f20 e0
  clear f14
  subst e1
  try have cg := CG_at p0 (by omega) (by omega) (c := n0) (by omega)
  first
  | (have ix0 : n20 = n0 + 1 := Eq.trans f36 (w32_iv (Iad (Iat f1 f0) (IC 1)) (by decide)); subst ix0; clear f36)
  | (have ix0 : n20 = n0 + 1 := Eq.trans f36 (w32_id (by omega) (by omega)); subst ix0; clear f36)
  | (unfold w32 at f36; have ix0 : n20 = n0 + 1 := (by omega); subst ix0)
  | skip
  try unfold w32 at f23
  try unfold w32 at f25
  try unfold w32 at f29
  try unfold w32 at f36
  try subst k1
  try subst k0
  subst y0
  omega
def g_238_5_8 : vG := ([(10, [26, 7], [], 1), (41, [9, 24], [], 0), (0, [24], [], 4), (41, [9, 23], [], 0), (0, [23], [], 3), (41, [9, 22], [], 0), (0, [22], [], 2), (2, [21, 11, 20], [], 0), (0, [20], [], 1), (41, [9, 18], [], 0), (0, [18], [], 5), (2, [14, 11, 13], [], 0), (0, [13], [], 1), (10, [11, 6], [], -1), (43, [9, 10], [], 0), (0, [10], [], 2), (22, [9, 8, 7], [1], 0), (90, [9], [], 0), (91, [9], [], 5), (20, [8, 3], [1], 52), (0, [8], [], 320), (42, [7, 5], [], 0), (5000, [0, 1, 2, 3, 4, 5, 6, 7], [0, 1], 5), (0, [0], [], 285), (90, [1], [], 0), (91, [1], [], 1200), (90, [2], [], 0), (91, [2], [], 1200), (0, [3], [], 285), (90, [4], [], 0), (91, [4], [], 1200), (90, [5], [], 0), (91, [5], [], 1200), (90, [6], [], 0), (91, [6], [], 500), (90, [7], [], 0), (91, [7], [], 1200)], (91, [26], [], 1200))
theorem c_238_5_8 {q0 : Nat} : vOkm T0 (eP e_238 L_238 A_238 mu_238 (some q0)) 3 g_238_5_8 := vOk_inI fun ρ η f0 f1 f2 f3 f4 f5 f6 f7 f8 f9 f10 f11 f12 f13 f14 f15 f16 f17 f18 f19 f20 f21 f22 f23 f24 f25 f26 f27 f28 f29 f30 f31 f32 f33 f34 f35 f36 => q_238_9 (q0 := q0) (n0 := ρ 7) (n1 := ρ 6) (n2 := ρ 5) (n3 := ρ 4) (n4 := ρ 3) (n5 := ρ 2) (n6 := ρ 1) (n7 := ρ 0) (n8 := ρ 8) (n9 := ρ 9) (n10 := ρ 10) (n11 := ρ 11) (n12 := ρ 13) (n13 := ρ 14) (n14 := ρ 18) (n15 := ρ 20) (n16 := ρ 21) (n17 := ρ 22) (n18 := ρ 23) (n19 := ρ 24) (n20 := ρ 26) (H0 := η 0) (H1 := η 1) f36 f35 f34 f33 f32 f31 f30 f29 f28 f27 f26 f25 f24 f23 f22 f21 f20 f19 f18 f17 f16 f15 f14 f13 f12 f11 f10 f9 f8 f7 f6 f5 f4 f3 f2 f1 f0
theorem q_238_10 {q0 : Nat} {n0 n1 n2 n3 n4 n5 n6 n7 n8 n9 n10 n11 n12 n13 n14 n15 n16 n17 n18 n19 n20 n21 n22 n23 n24 n25 n26 : Int} {H0 H1 H2 : gH} (f0 : n0 ≤ 1200) (f1 : 0 ≤ n0) (f2 : n1 ≤ 500) (f3 : 0 ≤ n1) (f4 : n2 ≤ 1200) (f5 : 0 ≤ n2) (f6 : n3 ≤ 1200) (f7 : 0 ≤ n3) (f8 : n4 = 285) (f9 : n5 ≤ 1200) (f10 : 0 ≤ n5) (f11 : n6 ≤ 1200) (f12 : 0 ≤ n6) (f13 : n7 = 285) (f14 : (hLe T0 H0 H1 ∧ hFr s_238.2.2.2.2 H0 H1 ∧ hWt T0 H1) ∧ (Ab_238_5 n7 n6 n5 n4 n3 n2 n1 n0 H0 H1 ∧ preb_238 n7 n6 n5 H0) ∧ some q0 = some (mub_238_5 n7 n6 n5 n4 n3 n2 n1 n0 H0 H1)) (f15 : n0 < n2) (f16 : n8 = 320) (f17 : n8 = hV H1 (n4).toNat 52) (f18 : n9 ≤ 5) (f19 : 0 ≤ n9) (f20 : n9 = hV H1 (n8).toNat (n0).toNat) (f21 : n10 = 2) (f22 : n10 ≤ n9) (f23 : n11 = w32 (n1 + (-1))) (f24 : n12 = 324) (f25 : n12 = hV H1 (n4).toNat 57) (f26 : n13 = 1) (f27 : n14 = w32 (n11 - n13)) (f28 : n15 ≤ 2147483647) (f29 : (-2147483648) ≤ n15) (f30 : n15 = hV H1 (n12).toNat (n14).toNat) (f31 : n16 = 324) (f32 : n16 = hV H1 (n4).toNat 57) (f33 : n17 ≤ 2147483647) (f34 : (-2147483648) ≤ n17) (f35 : n17 = hV H1 (n16).toNat (n11).toNat) (f36 : n18 = 5) (f37 : n9 ≠ n18) (f38 : n19 = 324) (f39 : n19 = hV H1 (n4).toNat 57) (f40 : n20 = 1) (f41 : n21 = w32 (n11 - n20)) (f42 : n22 = 2) (f43 : n9 ≠ n22) (f44 : n23 = 3) (f45 : n9 ≠ n23) (f46 : n24 = 4) (f47 : n9 ≠ n24) (f48 : n25 = o32 (fun x y => x / y) n15 n17) (f49 : hUpd H2 H1 n19 n21 n25) (f50 : n26 = w32 (n0 + 1)) : Ab_238_5 n7 n6 n5 n4 n3 n2 n11 n26 H0 H2 ∧ ∀ q, some q0 = some q → mub_238_5 n7 n6 n5 n4 n3 n2 n11 n26 H0 H2 < q := by
  have g4 := f14.2.1.1
  unfold Ab_238_5 at g4
  have g3 := f14.2.1.2
  unfold preb_238 at g3
  have g5 := Option.some.inj f14.2.2
  unfold mub_238_5 at g5
  unfold Ab_238_5
  unfold mub_238_5
  have e0 : hV H1 320 = hV H0 320 := fRow f14.1.2.1 320 kR_238_320
  have e1 : n9 = hV H0 320 (n0).toNat := (by rw [f16] at f20; exact f20 : n9 = hV H1 320 (n0).toNat).trans ((congrFun e0 _))
  have e2 : n15 = hV H1 324 (n14).toNat := (by rw [f24] at f30; exact f30 : n15 = hV H1 324 (n14).toNat)
  have e3 : n17 = hV H1 324 (n11).toNat := (by rw [f31] at f35; exact f35 : n17 = hV H1 324 (n11).toNat)
  have e5 : hV H2 320 = hV H0 320 := (uRowNe f49 320 (iS (show n19 = ((324 : Nat) : Int) from f38) rfl)).trans e0
  try simp only [e5]
  have k0 := g4.1
  have k1 := g4.2.1
  have y0 := g4.2.2.1
  have y1 := g4.2.2.2.1
  have y2 := g4.2.2.2.2
  have p0 := g3.1
  have p1 := g3.2
  try simp only [e0] at y0
  clear g3
  clear g4
  clear f17 f20 f25 f30 f32 f35 f39 e0 e5
  clear f14
  subst e1
  subst e2
  subst e3
  try have cg := CG_at p0 (by omega) (by omega) (c := n0) (by omega)
  first
  | (have ix0 : n11 = n1 + -1 := Eq.trans f23 (w32_iv (Iad (Iat f3 f2) (IC (-1))) (by decide)); subst ix0; clear f23)
  | (have ix0 : n11 = n1 + -1 := Eq.trans f23 (w32_id (by omega) (by omega)); subst ix0; clear f23)
  | (unfold w32 at f23; have ix0 : n11 = n1 + -1 := (by omega); subst ix0)
  | skip
  first
  | (have ix1 : n14 = (n1 + -1) - 1 := Eq.trans f27 (w32_iv (Isu (Iad (Iat f3 f2) (IC (-1))) (IC 1)) (by decide)); subst ix1; clear f27)
  | (have ix1 : n14 = (n1 + -1) - 1 := Eq.trans f27 (w32_id (by omega) (by omega)); subst ix1; clear f27)
  | (unfold w32 at f27; have ix1 : n14 = (n1 + -1) - 1 := (by omega); subst ix1)
  | skip
  first
  | (have ix2 : n21 = (n1 + -1) - 1 := Eq.trans f41 (w32_iv (Isu (Iad (Iat f3 f2) (IC (-1))) (IC 1)) (by decide)); subst ix2; clear f41)
  | (have ix2 : n21 = (n1 + -1) - 1 := Eq.trans f41 (w32_id (by omega) (by omega)); subst ix2; clear f41)
  | (unfold w32 at f41; have ix2 : n21 = (n1 + -1) - 1 := (by omega); subst ix2)
  | skip
  first
  | (have ix3 : n26 = n0 + 1 := Eq.trans f50 (w32_iv (Iad (Iat f1 f0) (IC 1)) (by decide)); subst ix3; clear f50)
  | (have ix3 : n26 = n0 + 1 := Eq.trans f50 (w32_id (by omega) (by omega)); subst ix3; clear f50)
  | (unfold w32 at f50; have ix3 : n26 = n0 + 1 := (by omega); subst ix3)
  | skip
  try unfold w32 at f23
  try unfold w32 at f27
  try unfold w32 at f41
  try unfold w32 at f50
  try subst k1
  try subst k0
  subst y0
  refine ⟨?_, fun q hq => ?_⟩
  · refine ⟨?_, ?_, ?_, ?_, ?_⟩ <;> first | assumption | omega | trivial
  · have g6 := Option.some.inj hq
    subst g6
    omega
def g_238_5_9 : vG := ([(10, [26, 7], [], 1), (80, [19, 21, 25], [2, 1], 0), (11, [25, 15, 17], [], 0), (41, [9, 24], [], 0), (0, [24], [], 4), (41, [9, 23], [], 0), (0, [23], [], 3), (41, [9, 22], [], 0), (0, [22], [], 2), (2, [21, 11, 20], [], 0), (0, [20], [], 1), (20, [19, 3], [1], 57), (0, [19], [], 324), (41, [9, 18], [], 0), (0, [18], [], 5), (22, [17, 16, 11], [1], 0), (90, [17], [], -2147483648), (91, [17], [], 2147483647), (20, [16, 3], [1], 57), (0, [16], [], 324), (22, [15, 12, 14], [1], 0), (90, [15], [], -2147483648), (91, [15], [], 2147483647), (2, [14, 11, 13], [], 0), (0, [13], [], 1), (20, [12, 3], [1], 57), (0, [12], [], 324), (10, [11, 6], [], -1), (43, [9, 10], [], 0), (0, [10], [], 2), (22, [9, 8, 7], [1], 0), (90, [9], [], 0), (91, [9], [], 5), (20, [8, 3], [1], 52), (0, [8], [], 320), (42, [7, 5], [], 0), (5000, [0, 1, 2, 3, 4, 5, 6, 7], [0, 1], 5), (0, [0], [], 285), (90, [1], [], 0), (91, [1], [], 1200), (90, [2], [], 0), (91, [2], [], 1200), (0, [3], [], 285), (90, [4], [], 0), (91, [4], [], 1200), (90, [5], [], 0), (91, [5], [], 1200), (90, [6], [], 0), (91, [6], [], 500), (90, [7], [], 0), (91, [7], [], 1200)], (4000, [3, 4, 5, 11, 26], [2], 5))
theorem c_238_5_9 {q0 : Nat} : vOkm T0 (eP e_238 L_238 A_238 mu_238 (some q0)) 3 g_238_5_9 := vOk_inI fun ρ η f0 f1 f2 f3 f4 f5 f6 f7 f8 f9 f10 f11 f12 f13 f14 f15 f16 f17 f18 f19 f20 f21 f22 f23 f24 f25 f26 f27 f28 f29 f30 f31 f32 f33 f34 f35 f36 f37 f38 f39 f40 f41 f42 f43 f44 f45 f46 f47 f48 f49 f50 => q_238_10 (q0 := q0) (n0 := ρ 7) (n1 := ρ 6) (n2 := ρ 5) (n3 := ρ 4) (n4 := ρ 3) (n5 := ρ 2) (n6 := ρ 1) (n7 := ρ 0) (n8 := ρ 8) (n9 := ρ 9) (n10 := ρ 10) (n11 := ρ 11) (n12 := ρ 12) (n13 := ρ 13) (n14 := ρ 14) (n15 := ρ 15) (n16 := ρ 16) (n17 := ρ 17) (n18 := ρ 18) (n19 := ρ 19) (n20 := ρ 20) (n21 := ρ 21) (n22 := ρ 22) (n23 := ρ 23) (n24 := ρ 24) (n25 := ρ 25) (n26 := ρ 26) (H0 := η 0) (H1 := η 1) (H2 := η 2) f50 f49 f48 f47 f46 f45 f44 f43 f42 f41 f40 f39 f38 f37 f36 f35 f34 f33 f32 f31 f30 f29 f28 f27 f26 f25 f24 f23 f22 f21 f20 f19 f18 f17 f16 f15 f14 f13 f12 f11 f10 f9 f8 f7 f6 f5 f4 f3 f2 f1 f0
theorem q_238_11 {q0 : Nat} {n0 n1 n2 n3 n4 n5 n6 n7 n8 n9 n10 n11 n12 n13 n14 n15 n16 n17 n18 n19 : Int} {H0 H1 : gH} (f0 : n0 ≤ 1200) (f1 : 0 ≤ n0) (f2 : n1 ≤ 500) (f3 : 0 ≤ n1) (f4 : n2 ≤ 1200) (f5 : 0 ≤ n2) (f6 : n3 ≤ 1200) (f7 : 0 ≤ n3) (f8 : n4 = 285) (f9 : n5 ≤ 1200) (f10 : 0 ≤ n5) (f11 : n6 ≤ 1200) (f12 : 0 ≤ n6) (f13 : n7 = 285) (f14 : (hLe T0 H0 H1 ∧ hFr s_238.2.2.2.2 H0 H1 ∧ hWt T0 H1) ∧ (Ab_238_5 n7 n6 n5 n4 n3 n2 n1 n0 H0 H1 ∧ preb_238 n7 n6 n5 H0) ∧ some q0 = some (mub_238_5 n7 n6 n5 n4 n3 n2 n1 n0 H0 H1)) (f15 : n0 < n2) (f16 : n8 = 320) (f17 : n8 = hV H1 (n4).toNat 52) (f18 : n9 ≤ 5) (f19 : 0 ≤ n9) (f20 : n9 = hV H1 (n8).toNat (n0).toNat) (f21 : n10 = 2) (f22 : n10 ≤ n9) (f23 : n11 = w32 (n1 + (-1))) (f24 : n12 = 1) (f25 : n13 = w32 (n11 - n12)) (f26 : n14 = 5) (f27 : n9 ≠ n14) (f28 : n15 = 1) (f29 : n16 = w32 (n11 - n15)) (f30 : n17 = 2) (f31 : n9 ≠ n17) (f32 : n18 = 3) (f33 : n9 ≠ n18) (f34 : n19 = 4) (f35 : n9 = n19) : 0 ≤ n16 ∧ n16 < 500 := by
  have g4 := f14.2.1.1
  unfold Ab_238_5 at g4
  have g3 := f14.2.1.2
  unfold preb_238 at g3
  have e0 : hV H1 320 = hV H0 320 := fRow f14.1.2.1 320 kR_238_320
  have e1 : n9 = hV H0 320 (n0).toNat := (by rw [f16] at f20; exact f20 : n9 = hV H1 320 (n0).toNat).trans ((congrFun e0 _))
  have k0 := g4.1
  have k1 := g4.2.1
  have y0 := g4.2.2.1
  have y1 := g4.2.2.2.1
  have y2 := g4.2.2.2.2
  have p0 := g3.1
  have p1 := g3.2
  try simp only [e0] at y0
  clear g3
  clear g4
  clear f17 f20 e0
  clear f14
  subst e1
  try have cg := CG_at p0 (by omega) (by omega) (c := n0) (by omega)
  first
  | (have ix0 : n11 = n1 + -1 := Eq.trans f23 (w32_iv (Iad (Iat f3 f2) (IC (-1))) (by decide)); subst ix0; clear f23)
  | (have ix0 : n11 = n1 + -1 := Eq.trans f23 (w32_id (by omega) (by omega)); subst ix0; clear f23)
  | (unfold w32 at f23; have ix0 : n11 = n1 + -1 := (by omega); subst ix0)
  | skip
  first
  | (have ix1 : n16 = (n1 + -1) - 1 := Eq.trans f29 (w32_iv (Isu (Iad (Iat f3 f2) (IC (-1))) (IC 1)) (by decide)); subst ix1; clear f29)
  | (have ix1 : n16 = (n1 + -1) - 1 := Eq.trans f29 (w32_id (by omega) (by omega)); subst ix1; clear f29)
  | (unfold w32 at f29; have ix1 : n16 = (n1 + -1) - 1 := (by omega); subst ix1)
  | skip
  try unfold w32 at f23
  try unfold w32 at f25
  try unfold w32 at f29
  try subst k1
  try subst k0
  subst y0
  omega
def g_238_5_10 : vG := ([(40, [9, 24], [], 0), (0, [24], [], 4), (41, [9, 23], [], 0), (0, [23], [], 3), (41, [9, 22], [], 0), (0, [22], [], 2), (2, [21, 11, 20], [], 0), (0, [20], [], 1), (41, [9, 18], [], 0), (0, [18], [], 5), (2, [14, 11, 13], [], 0), (0, [13], [], 1), (10, [11, 6], [], -1), (43, [9, 10], [], 0), (0, [10], [], 2), (22, [9, 8, 7], [1], 0), (90, [9], [], 0), (91, [9], [], 5), (20, [8, 3], [1], 52), (0, [8], [], 320), (42, [7, 5], [], 0), (5000, [0, 1, 2, 3, 4, 5, 6, 7], [0, 1], 5), (0, [0], [], 285), (90, [1], [], 0), (91, [1], [], 1200), (90, [2], [], 0), (91, [2], [], 1200), (0, [3], [], 285), (90, [4], [], 0), (91, [4], [], 1200), (90, [5], [], 0), (91, [5], [], 1200), (90, [6], [], 0), (91, [6], [], 500), (90, [7], [], 0), (91, [7], [], 1200)], (70, [21], [], 500))
theorem c_238_5_10 {q0 : Nat} : vOkm T0 (eP e_238 L_238 A_238 mu_238 (some q0)) 3 g_238_5_10 := vOk_inI fun ρ η f0 f1 f2 f3 f4 f5 f6 f7 f8 f9 f10 f11 f12 f13 f14 f15 f16 f17 f18 f19 f20 f21 f22 f23 f24 f25 f26 f27 f28 f29 f30 f31 f32 f33 f34 f35 => q_238_11 (q0 := q0) (n0 := ρ 7) (n1 := ρ 6) (n2 := ρ 5) (n3 := ρ 4) (n4 := ρ 3) (n5 := ρ 2) (n6 := ρ 1) (n7 := ρ 0) (n8 := ρ 8) (n9 := ρ 9) (n10 := ρ 10) (n11 := ρ 11) (n12 := ρ 13) (n13 := ρ 14) (n14 := ρ 18) (n15 := ρ 20) (n16 := ρ 21) (n17 := ρ 22) (n18 := ρ 23) (n19 := ρ 24) (H0 := η 0) (H1 := η 1) f35 f34 f33 f32 f31 f30 f29 f28 f27 f26 f25 f24 f23 f22 f21 f20 f19 f18 f17 f16 f15 f14 f13 f12 f11 f10 f9 f8 f7 f6 f5 f4 f3 f2 f1 f0
theorem q_238_12 {q0 : Nat} {n0 n1 n2 n3 n4 n5 n6 n7 n8 n9 n10 n11 n12 n13 n14 n15 n16 n17 n18 n19 n20 : Int} {H0 H1 : gH} (f0 : n0 ≤ 1200) (f1 : 0 ≤ n0) (f2 : n1 ≤ 500) (f3 : 0 ≤ n1) (f4 : n2 ≤ 1200) (f5 : 0 ≤ n2) (f6 : n3 ≤ 1200) (f7 : 0 ≤ n3) (f8 : n4 = 285) (f9 : n5 ≤ 1200) (f10 : 0 ≤ n5) (f11 : n6 ≤ 1200) (f12 : 0 ≤ n6) (f13 : n7 = 285) (f14 : (hLe T0 H0 H1 ∧ hFr s_238.2.2.2.2 H0 H1 ∧ hWt T0 H1) ∧ (Ab_238_5 n7 n6 n5 n4 n3 n2 n1 n0 H0 H1 ∧ preb_238 n7 n6 n5 H0) ∧ some q0 = some (mub_238_5 n7 n6 n5 n4 n3 n2 n1 n0 H0 H1)) (f15 : n0 < n2) (f16 : n8 = 320) (f17 : n8 = hV H1 (n4).toNat 52) (f18 : n9 ≤ 5) (f19 : 0 ≤ n9) (f20 : n9 = hV H1 (n8).toNat (n0).toNat) (f21 : n10 = 2) (f22 : n10 ≤ n9) (f23 : n11 = w32 (n1 + (-1))) (f24 : n12 = 1) (f25 : n13 = w32 (n11 - n12)) (f26 : n14 = 5) (f27 : n9 ≠ n14) (f28 : n15 = 1) (f29 : n16 = w32 (n11 - n15)) (f30 : n17 = 2) (f31 : n9 ≠ n17) (f32 : n18 = 3) (f33 : n9 ≠ n18) (f34 : n19 = 4) (f35 : n9 = n19) (f36 : n20 = w32 (n0 + 1)) : 0 ≤ n11 := by
  have g4 := f14.2.1.1
  unfold Ab_238_5 at g4
  have g3 := f14.2.1.2
  unfold preb_238 at g3
  have e0 : hV H1 320 = hV H0 320 := fRow f14.1.2.1 320 kR_238_320
  have e1 : n9 = hV H0 320 (n0).toNat := (by rw [f16] at f20; exact f20 : n9 = hV H1 320 (n0).toNat).trans ((congrFun e0 _))
  have k0 := g4.1
  have k1 := g4.2.1
  have y0 := g4.2.2.1
  have y1 := g4.2.2.2.1
  have y2 := g4.2.2.2.2
  have p0 := g3.1
  have p1 := g3.2
  try simp only [e0] at y0
  clear g3
  clear g4
  clear f17 f20 e0
  clear f14
  subst e1
  try have cg := CG_at p0 (by omega) (by omega) (c := n0) (by omega)
  first
  | (have ix0 : n11 = n1 + -1 := Eq.trans f23 (w32_iv (Iad (Iat f3 f2) (IC (-1))) (by decide)); subst ix0; clear f23)
  | (have ix0 : n11 = n1 + -1 := Eq.trans f23 (w32_id (by omega) (by omega)); subst ix0; clear f23)
  | (unfold w32 at f23; have ix0 : n11 = n1 + -1 := (by omega); subst ix0)
  | skip
  try unfold w32 at f23
  try unfold w32 at f25
  try unfold w32 at f29
  try unfold w32 at f36
  try subst k1
  try subst k0
  subst y0
  omega
def g_238_5_11 : vG := ([(10, [26, 7], [], 1), (40, [9, 24], [], 0), (0, [24], [], 4), (41, [9, 23], [], 0), (0, [23], [], 3), (41, [9, 22], [], 0), (0, [22], [], 2), (2, [21, 11, 20], [], 0), (0, [20], [], 1), (41, [9, 18], [], 0), (0, [18], [], 5), (2, [14, 11, 13], [], 0), (0, [13], [], 1), (10, [11, 6], [], -1), (43, [9, 10], [], 0), (0, [10], [], 2), (22, [9, 8, 7], [1], 0), (90, [9], [], 0), (91, [9], [], 5), (20, [8, 3], [1], 52), (0, [8], [], 320), (42, [7, 5], [], 0), (5000, [0, 1, 2, 3, 4, 5, 6, 7], [0, 1], 5), (0, [0], [], 285), (90, [1], [], 0), (91, [1], [], 1200), (90, [2], [], 0), (91, [2], [], 1200), (0, [3], [], 285), (90, [4], [], 0), (91, [4], [], 1200), (90, [5], [], 0), (91, [5], [], 1200), (90, [6], [], 0), (91, [6], [], 500), (90, [7], [], 0), (91, [7], [], 1200)], (90, [11], [], 0))
theorem c_238_5_11 {q0 : Nat} : vOkm T0 (eP e_238 L_238 A_238 mu_238 (some q0)) 3 g_238_5_11 := vOk_inI fun ρ η f0 f1 f2 f3 f4 f5 f6 f7 f8 f9 f10 f11 f12 f13 f14 f15 f16 f17 f18 f19 f20 f21 f22 f23 f24 f25 f26 f27 f28 f29 f30 f31 f32 f33 f34 f35 f36 => q_238_12 (q0 := q0) (n0 := ρ 7) (n1 := ρ 6) (n2 := ρ 5) (n3 := ρ 4) (n4 := ρ 3) (n5 := ρ 2) (n6 := ρ 1) (n7 := ρ 0) (n8 := ρ 8) (n9 := ρ 9) (n10 := ρ 10) (n11 := ρ 11) (n12 := ρ 13) (n13 := ρ 14) (n14 := ρ 18) (n15 := ρ 20) (n16 := ρ 21) (n17 := ρ 22) (n18 := ρ 23) (n19 := ρ 24) (n20 := ρ 26) (H0 := η 0) (H1 := η 1) f36 f35 f34 f33 f32 f31 f30 f29 f28 f27 f26 f25 f24 f23 f22 f21 f20 f19 f18 f17 f16 f15 f14 f13 f12 f11 f10 f9 f8 f7 f6 f5 f4 f3 f2 f1 f0
theorem q_238_13 {q0 : Nat} {n0 n1 n2 n3 n4 n5 n6 n7 n8 n9 n10 n11 n12 n13 n14 n15 n16 n17 n18 n19 n20 : Int} {H0 H1 : gH} (f0 : n0 ≤ 1200) (f1 : 0 ≤ n0) (f2 : n1 ≤ 500) (f3 : 0 ≤ n1) (f4 : n2 ≤ 1200) (f5 : 0 ≤ n2) (f6 : n3 ≤ 1200) (f7 : 0 ≤ n3) (f8 : n4 = 285) (f9 : n5 ≤ 1200) (f10 : 0 ≤ n5) (f11 : n6 ≤ 1200) (f12 : 0 ≤ n6) (f13 : n7 = 285) (f14 : (hLe T0 H0 H1 ∧ hFr s_238.2.2.2.2 H0 H1 ∧ hWt T0 H1) ∧ (Ab_238_5 n7 n6 n5 n4 n3 n2 n1 n0 H0 H1 ∧ preb_238 n7 n6 n5 H0) ∧ some q0 = some (mub_238_5 n7 n6 n5 n4 n3 n2 n1 n0 H0 H1)) (f15 : n0 < n2) (f16 : n8 = 320) (f17 : n8 = hV H1 (n4).toNat 52) (f18 : n9 ≤ 5) (f19 : 0 ≤ n9) (f20 : n9 = hV H1 (n8).toNat (n0).toNat) (f21 : n10 = 2) (f22 : n10 ≤ n9) (f23 : n11 = w32 (n1 + (-1))) (f24 : n12 = 1) (f25 : n13 = w32 (n11 - n12)) (f26 : n14 = 5) (f27 : n9 ≠ n14) (f28 : n15 = 1) (f29 : n16 = w32 (n11 - n15)) (f30 : n17 = 2) (f31 : n9 ≠ n17) (f32 : n18 = 3) (f33 : n9 ≠ n18) (f34 : n19 = 4) (f35 : n9 = n19) (f36 : n20 = w32 (n0 + 1)) : n11 ≤ 500 := by
  have g4 := f14.2.1.1
  unfold Ab_238_5 at g4
  have g3 := f14.2.1.2
  unfold preb_238 at g3
  have e0 : hV H1 320 = hV H0 320 := fRow f14.1.2.1 320 kR_238_320
  have e1 : n9 = hV H0 320 (n0).toNat := (by rw [f16] at f20; exact f20 : n9 = hV H1 320 (n0).toNat).trans ((congrFun e0 _))
  have k0 := g4.1
  have k1 := g4.2.1
  have y0 := g4.2.2.1
  have y1 := g4.2.2.2.1
  have y2 := g4.2.2.2.2
  have p0 := g3.1
  have p1 := g3.2
  try simp only [e0] at y0
  clear g3
  clear g4
  clear f17 f20 e0
  clear f14
  subst e1
  try have cg := CG_at p0 (by omega) (by omega) (c := n0) (by omega)
  first
  | (have ix0 : n11 = n1 + -1 := Eq.trans f23 (w32_iv (Iad (Iat f3 f2) (IC (-1))) (by decide)); subst ix0; clear f23)
  | (have ix0 : n11 = n1 + -1 := Eq.trans f23 (w32_id (by omega) (by omega)); subst ix0; clear f23)
  | (unfold w32 at f23; have ix0 : n11 = n1 + -1 := (by omega); subst ix0)
  | skip
  try unfold w32 at f23
  try unfold w32 at f25
  try unfold w32 at f29
  try unfold w32 at f36
  try subst k1
  try subst k0
  subst y0
  omega
def g_238_5_12 : vG := ([(10, [26, 7], [], 1), (40, [9, 24], [], 0), (0, [24], [], 4), (41, [9, 23], [], 0), (0, [23], [], 3), (41, [9, 22], [], 0), (0, [22], [], 2), (2, [21, 11, 20], [], 0), (0, [20], [], 1), (41, [9, 18], [], 0), (0, [18], [], 5), (2, [14, 11, 13], [], 0), (0, [13], [], 1), (10, [11, 6], [], -1), (43, [9, 10], [], 0), (0, [10], [], 2), (22, [9, 8, 7], [1], 0), (90, [9], [], 0), (91, [9], [], 5), (20, [8, 3], [1], 52), (0, [8], [], 320), (42, [7, 5], [], 0), (5000, [0, 1, 2, 3, 4, 5, 6, 7], [0, 1], 5), (0, [0], [], 285), (90, [1], [], 0), (91, [1], [], 1200), (90, [2], [], 0), (91, [2], [], 1200), (0, [3], [], 285), (90, [4], [], 0), (91, [4], [], 1200), (90, [5], [], 0), (91, [5], [], 1200), (90, [6], [], 0), (91, [6], [], 500), (90, [7], [], 0), (91, [7], [], 1200)], (91, [11], [], 500))
theorem c_238_5_12 {q0 : Nat} : vOkm T0 (eP e_238 L_238 A_238 mu_238 (some q0)) 3 g_238_5_12 := vOk_inI fun ρ η f0 f1 f2 f3 f4 f5 f6 f7 f8 f9 f10 f11 f12 f13 f14 f15 f16 f17 f18 f19 f20 f21 f22 f23 f24 f25 f26 f27 f28 f29 f30 f31 f32 f33 f34 f35 f36 => q_238_13 (q0 := q0) (n0 := ρ 7) (n1 := ρ 6) (n2 := ρ 5) (n3 := ρ 4) (n4 := ρ 3) (n5 := ρ 2) (n6 := ρ 1) (n7 := ρ 0) (n8 := ρ 8) (n9 := ρ 9) (n10 := ρ 10) (n11 := ρ 11) (n12 := ρ 13) (n13 := ρ 14) (n14 := ρ 18) (n15 := ρ 20) (n16 := ρ 21) (n17 := ρ 22) (n18 := ρ 23) (n19 := ρ 24) (n20 := ρ 26) (H0 := η 0) (H1 := η 1) f36 f35 f34 f33 f32 f31 f30 f29 f28 f27 f26 f25 f24 f23 f22 f21 f20 f19 f18 f17 f16 f15 f14 f13 f12 f11 f10 f9 f8 f7 f6 f5 f4 f3 f2 f1 f0
theorem q_238_14 {q0 : Nat} {n0 n1 n2 n3 n4 n5 n6 n7 n8 n9 n10 n11 n12 n13 n14 n15 n16 n17 n18 n19 n20 : Int} {H0 H1 : gH} (f0 : n0 ≤ 1200) (f1 : 0 ≤ n0) (f2 : n1 ≤ 500) (f3 : 0 ≤ n1) (f4 : n2 ≤ 1200) (f5 : 0 ≤ n2) (f6 : n3 ≤ 1200) (f7 : 0 ≤ n3) (f8 : n4 = 285) (f9 : n5 ≤ 1200) (f10 : 0 ≤ n5) (f11 : n6 ≤ 1200) (f12 : 0 ≤ n6) (f13 : n7 = 285) (f14 : (hLe T0 H0 H1 ∧ hFr s_238.2.2.2.2 H0 H1 ∧ hWt T0 H1) ∧ (Ab_238_5 n7 n6 n5 n4 n3 n2 n1 n0 H0 H1 ∧ preb_238 n7 n6 n5 H0) ∧ some q0 = some (mub_238_5 n7 n6 n5 n4 n3 n2 n1 n0 H0 H1)) (f15 : n0 < n2) (f16 : n8 = 320) (f17 : n8 = hV H1 (n4).toNat 52) (f18 : n9 ≤ 5) (f19 : 0 ≤ n9) (f20 : n9 = hV H1 (n8).toNat (n0).toNat) (f21 : n10 = 2) (f22 : n10 ≤ n9) (f23 : n11 = w32 (n1 + (-1))) (f24 : n12 = 1) (f25 : n13 = w32 (n11 - n12)) (f26 : n14 = 5) (f27 : n9 ≠ n14) (f28 : n15 = 1) (f29 : n16 = w32 (n11 - n15)) (f30 : n17 = 2) (f31 : n9 ≠ n17) (f32 : n18 = 3) (f33 : n9 ≠ n18) (f34 : n19 = 4) (f35 : n9 = n19) (f36 : n20 = w32 (n0 + 1)) : 0 ≤ n20 := by
  have g4 := f14.2.1.1
  unfold Ab_238_5 at g4
  have g3 := f14.2.1.2
  unfold preb_238 at g3
  have e0 : hV H1 320 = hV H0 320 := fRow f14.1.2.1 320 kR_238_320
  have e1 : n9 = hV H0 320 (n0).toNat := (by rw [f16] at f20; exact f20 : n9 = hV H1 320 (n0).toNat).trans ((congrFun e0 _))
  have k0 := g4.1
  have k1 := g4.2.1
  have y0 := g4.2.2.1
  have y1 := g4.2.2.2.1
  have y2 := g4.2.2.2.2
  have p0 := g3.1
  have p1 := g3.2
  try simp only [e0] at y0
  clear g3
  clear g4
  clear f17 f20 e0
  clear f14
  subst e1
  try have cg := CG_at p0 (by omega) (by omega) (c := n0) (by omega)
  first
  | (have ix0 : n20 = n0 + 1 := Eq.trans f36 (w32_iv (Iad (Iat f1 f0) (IC 1)) (by decide)); subst ix0; clear f36)
  | (have ix0 : n20 = n0 + 1 := Eq.trans f36 (w32_id (by omega) (by omega)); subst ix0; clear f36)
  | (unfold w32 at f36; have ix0 : n20 = n0 + 1 := (by omega); subst ix0)
  | skip
  try unfold w32 at f23
  try unfold w32 at f25
  try unfold w32 at f29
  try unfold w32 at f36
  try subst k1
  try subst k0
  subst y0
  omega
def g_238_5_13 : vG := ([(10, [26, 7], [], 1), (40, [9, 24], [], 0), (0, [24], [], 4), (41, [9, 23], [], 0), (0, [23], [], 3), (41, [9, 22], [], 0), (0, [22], [], 2), (2, [21, 11, 20], [], 0), (0, [20], [], 1), (41, [9, 18], [], 0), (0, [18], [], 5), (2, [14, 11, 13], [], 0), (0, [13], [], 1), (10, [11, 6], [], -1), (43, [9, 10], [], 0), (0, [10], [], 2), (22, [9, 8, 7], [1], 0), (90, [9], [], 0), (91, [9], [], 5), (20, [8, 3], [1], 52), (0, [8], [], 320), (42, [7, 5], [], 0), (5000, [0, 1, 2, 3, 4, 5, 6, 7], [0, 1], 5), (0, [0], [], 285), (90, [1], [], 0), (91, [1], [], 1200), (90, [2], [], 0), (91, [2], [], 1200), (0, [3], [], 285), (90, [4], [], 0), (91, [4], [], 1200), (90, [5], [], 0), (91, [5], [], 1200), (90, [6], [], 0), (91, [6], [], 500), (90, [7], [], 0), (91, [7], [], 1200)], (90, [26], [], 0))
theorem c_238_5_13 {q0 : Nat} : vOkm T0 (eP e_238 L_238 A_238 mu_238 (some q0)) 3 g_238_5_13 := vOk_inI fun ρ η f0 f1 f2 f3 f4 f5 f6 f7 f8 f9 f10 f11 f12 f13 f14 f15 f16 f17 f18 f19 f20 f21 f22 f23 f24 f25 f26 f27 f28 f29 f30 f31 f32 f33 f34 f35 f36 => q_238_14 (q0 := q0) (n0 := ρ 7) (n1 := ρ 6) (n2 := ρ 5) (n3 := ρ 4) (n4 := ρ 3) (n5 := ρ 2) (n6 := ρ 1) (n7 := ρ 0) (n8 := ρ 8) (n9 := ρ 9) (n10 := ρ 10) (n11 := ρ 11) (n12 := ρ 13) (n13 := ρ 14) (n14 := ρ 18) (n15 := ρ 20) (n16 := ρ 21) (n17 := ρ 22) (n18 := ρ 23) (n19 := ρ 24) (n20 := ρ 26) (H0 := η 0) (H1 := η 1) f36 f35 f34 f33 f32 f31 f30 f29 f28 f27 f26 f25 f24 f23 f22 f21 f20 f19 f18 f17 f16 f15 f14 f13 f12 f11 f10 f9 f8 f7 f6 f5 f4 f3 f2 f1 f0
theorem q_238_15 {q0 : Nat} {n0 n1 n2 n3 n4 n5 n6 n7 n8 n9 n10 n11 n12 n13 n14 n15 n16 n17 n18 n19 n20 : Int} {H0 H1 : gH} (f0 : n0 ≤ 1200) (f1 : 0 ≤ n0) (f2 : n1 ≤ 500) (f3 : 0 ≤ n1) (f4 : n2 ≤ 1200) (f5 : 0 ≤ n2) (f6 : n3 ≤ 1200) (f7 : 0 ≤ n3) (f8 : n4 = 285) (f9 : n5 ≤ 1200) (f10 : 0 ≤ n5) (f11 : n6 ≤ 1200) (f12 : 0 ≤ n6) (f13 : n7 = 285) (f14 : (hLe T0 H0 H1 ∧ hFr s_238.2.2.2.2 H0 H1 ∧ hWt T0 H1) ∧ (Ab_238_5 n7 n6 n5 n4 n3 n2 n1 n0 H0 H1 ∧ preb_238 n7 n6 n5 H0) ∧ some q0 = some (mub_238_5 n7 n6 n5 n4 n3 n2 n1 n0 H0 H1)) (f15 : n0 < n2) (f16 : n8 = 320) (f17 : n8 = hV H1 (n4).toNat 52) (f18 : n9 ≤ 5) (f19 : 0 ≤ n9) (f20 : n9 = hV H1 (n8).toNat (n0).toNat) (f21 : n10 = 2) (f22 : n10 ≤ n9) (f23 : n11 = w32 (n1 + (-1))) (f24 : n12 = 1) (f25 : n13 = w32 (n11 - n12)) (f26 : n14 = 5) (f27 : n9 ≠ n14) (f28 : n15 = 1) (f29 : n16 = w32 (n11 - n15)) (f30 : n17 = 2) (f31 : n9 ≠ n17) (f32 : n18 = 3) (f33 : n9 ≠ n18) (f34 : n19 = 4) (f35 : n9 = n19) (f36 : n20 = w32 (n0 + 1)) : n20 ≤ 1200 := by
  have g4 := f14.2.1.1
  unfold Ab_238_5 at g4
  have g3 := f14.2.1.2
  unfold preb_238 at g3
  have e0 : hV H1 320 = hV H0 320 := fRow f14.1.2.1 320 kR_238_320
  have e1 : n9 = hV H0 320 (n0).toNat := (by rw [f16] at f20; exact f20 : n9 = hV H1 320 (n0).toNat).trans ((congrFun e0 _))
  have k0 := g4.1
  have k1 := g4.2.1
  have y0 := g4.2.2.1
  have y1 := g4.2.2.2.1
  have y2 := g4.2.2.2.2
  have p0 := g3.1
  have p1 := g3.2
  try simp only [e0] at y0
  clear g3
  clear g4
  clear f17 f20 e0
  clear f14
  subst e1
  try have cg := CG_at p0 (by omega) (by omega) (c := n0) (by omega)
  first
  | (have ix0 : n20 = n0 + 1 := Eq.trans f36 (w32_iv (Iad (Iat f1 f0) (IC 1)) (by decide)); subst ix0; clear f36)
  | (have ix0 : n20 = n0 + 1 := Eq.trans f36 (w32_id (by omega) (by omega)); subst ix0; clear f36)
  | (unfold w32 at f36; have ix0 : n20 = n0 + 1 := (by omega); subst ix0)
  | skip
  try unfold w32 at f23
  try unfold w32 at f25
  try unfold w32 at f29
  try unfold w32 at f36
  try subst k1
  try subst k0
  subst y0
  omega
def g_238_5_14 : vG := ([(10, [26, 7], [], 1), (40, [9, 24], [], 0), (0, [24], [], 4), (41, [9, 23], [], 0), (0, [23], [], 3), (41, [9, 22], [], 0), (0, [22], [], 2), (2, [21, 11, 20], [], 0), (0, [20], [], 1), (41, [9, 18], [], 0), (0, [18], [], 5), (2, [14, 11, 13], [], 0), (0, [13], [], 1), (10, [11, 6], [], -1), (43, [9, 10], [], 0), (0, [10], [], 2), (22, [9, 8, 7], [1], 0), (90, [9], [], 0), (91, [9], [], 5), (20, [8, 3], [1], 52), (0, [8], [], 320), (42, [7, 5], [], 0), (5000, [0, 1, 2, 3, 4, 5, 6, 7], [0, 1], 5), (0, [0], [], 285), (90, [1], [], 0), (91, [1], [], 1200), (90, [2], [], 0), (91, [2], [], 1200), (0, [3], [], 285), (90, [4], [], 0), (91, [4], [], 1200), (90, [5], [], 0), (91, [5], [], 1200), (90, [6], [], 0), (91, [6], [], 500), (90, [7], [], 0), (91, [7], [], 1200)], (91, [26], [], 1200))
theorem c_238_5_14 {q0 : Nat} : vOkm T0 (eP e_238 L_238 A_238 mu_238 (some q0)) 3 g_238_5_14 := vOk_inI fun ρ η f0 f1 f2 f3 f4 f5 f6 f7 f8 f9 f10 f11 f12 f13 f14 f15 f16 f17 f18 f19 f20 f21 f22 f23 f24 f25 f26 f27 f28 f29 f30 f31 f32 f33 f34 f35 f36 => q_238_15 (q0 := q0) (n0 := ρ 7) (n1 := ρ 6) (n2 := ρ 5) (n3 := ρ 4) (n4 := ρ 3) (n5 := ρ 2) (n6 := ρ 1) (n7 := ρ 0) (n8 := ρ 8) (n9 := ρ 9) (n10 := ρ 10) (n11 := ρ 11) (n12 := ρ 13) (n13 := ρ 14) (n14 := ρ 18) (n15 := ρ 20) (n16 := ρ 21) (n17 := ρ 22) (n18 := ρ 23) (n19 := ρ 24) (n20 := ρ 26) (H0 := η 0) (H1 := η 1) f36 f35 f34 f33 f32 f31 f30 f29 f28 f27 f26 f25 f24 f23 f22 f21 f20 f19 f18 f17 f16 f15 f14 f13 f12 f11 f10 f9 f8 f7 f6 f5 f4 f3 f2 f1 f0
theorem q_238_16 {q0 : Nat} {n0 n1 n2 n3 n4 n5 n6 n7 n8 n9 n10 n11 n12 n13 n14 n15 n16 n17 n18 n19 n20 n21 n22 n23 n24 n25 n26 : Int} {H0 H1 H2 : gH} (f0 : n0 ≤ 1200) (f1 : 0 ≤ n0) (f2 : n1 ≤ 500) (f3 : 0 ≤ n1) (f4 : n2 ≤ 1200) (f5 : 0 ≤ n2) (f6 : n3 ≤ 1200) (f7 : 0 ≤ n3) (f8 : n4 = 285) (f9 : n5 ≤ 1200) (f10 : 0 ≤ n5) (f11 : n6 ≤ 1200) (f12 : 0 ≤ n6) (f13 : n7 = 285) (f14 : (hLe T0 H0 H1 ∧ hFr s_238.2.2.2.2 H0 H1 ∧ hWt T0 H1) ∧ (Ab_238_5 n7 n6 n5 n4 n3 n2 n1 n0 H0 H1 ∧ preb_238 n7 n6 n5 H0) ∧ some q0 = some (mub_238_5 n7 n6 n5 n4 n3 n2 n1 n0 H0 H1)) (f15 : n0 < n2) (f16 : n8 = 320) (f17 : n8 = hV H1 (n4).toNat 52) (f18 : n9 ≤ 5) (f19 : 0 ≤ n9) (f20 : n9 = hV H1 (n8).toNat (n0).toNat) (f21 : n10 = 2) (f22 : n10 ≤ n9) (f23 : n11 = w32 (n1 + (-1))) (f24 : n12 = 324) (f25 : n12 = hV H1 (n4).toNat 57) (f26 : n13 = 1) (f27 : n14 = w32 (n11 - n13)) (f28 : n15 ≤ 2147483647) (f29 : (-2147483648) ≤ n15) (f30 : n15 = hV H1 (n12).toNat (n14).toNat) (f31 : n16 = 324) (f32 : n16 = hV H1 (n4).toNat 57) (f33 : n17 ≤ 2147483647) (f34 : (-2147483648) ≤ n17) (f35 : n17 = hV H1 (n16).toNat (n11).toNat) (f36 : n18 = 5) (f37 : n9 ≠ n18) (f38 : n19 = 324) (f39 : n19 = hV H1 (n4).toNat 57) (f40 : n20 = 1) (f41 : n21 = w32 (n11 - n20)) (f42 : n22 = 2) (f43 : n9 ≠ n22) (f44 : n23 = 3) (f45 : n9 ≠ n23) (f46 : n24 = 4) (f47 : n9 = n24) (f48 : n25 = w32 (n15 * n17)) (f49 : hUpd H2 H1 n19 n21 n25) (f50 : n26 = w32 (n0 + 1)) : Ab_238_5 n7 n6 n5 n4 n3 n2 n11 n26 H0 H2 ∧ ∀ q, some q0 = some q → mub_238_5 n7 n6 n5 n4 n3 n2 n11 n26 H0 H2 < q := by
  have g4 := f14.2.1.1
  unfold Ab_238_5 at g4
  have g3 := f14.2.1.2
  unfold preb_238 at g3
  have g5 := Option.some.inj f14.2.2
  unfold mub_238_5 at g5
  unfold Ab_238_5
  unfold mub_238_5
  have e0 : hV H1 320 = hV H0 320 := fRow f14.1.2.1 320 kR_238_320
  have e1 : n9 = hV H0 320 (n0).toNat := (by rw [f16] at f20; exact f20 : n9 = hV H1 320 (n0).toNat).trans ((congrFun e0 _))
  have e2 : n15 = hV H1 324 (n14).toNat := (by rw [f24] at f30; exact f30 : n15 = hV H1 324 (n14).toNat)
  have e3 : n17 = hV H1 324 (n11).toNat := (by rw [f31] at f35; exact f35 : n17 = hV H1 324 (n11).toNat)
  have e5 : hV H2 320 = hV H0 320 := (uRowNe f49 320 (iS (show n19 = ((324 : Nat) : Int) from f38) rfl)).trans e0
  try simp only [e5]
  have k0 := g4.1
  have k1 := g4.2.1
  have y0 := g4.2.2.1
  have y1 := g4.2.2.2.1
  have y2 := g4.2.2.2.2
  have p0 := g3.1
  have p1 := g3.2
  try simp only [e0] at y0
  clear g3
  clear g4
  clear f17 f20 f25 f30 f32 f35 f39 e0 e5
  clear f14
  subst e1
  subst e2
  subst e3
  try have cg := CG_at p0 (by omega) (by omega) (c := n0) (by omega)
  first
  | (have ix0 : n11 = n1 + -1 := Eq.trans f23 (w32_iv (Iad (Iat f3 f2) (IC (-1))) (by decide)); subst ix0; clear f23)
  | (have ix0 : n11 = n1 + -1 := Eq.trans f23 (w32_id (by omega) (by omega)); subst ix0; clear f23)
  | (unfold w32 at f23; have ix0 : n11 = n1 + -1 := (by omega); subst ix0)
  | skip
  first
  | (have ix1 : n14 = (n1 + -1) - 1 := Eq.trans f27 (w32_iv (Isu (Iad (Iat f3 f2) (IC (-1))) (IC 1)) (by decide)); subst ix1; clear f27)
  | (have ix1 : n14 = (n1 + -1) - 1 := Eq.trans f27 (w32_id (by omega) (by omega)); subst ix1; clear f27)
  | (unfold w32 at f27; have ix1 : n14 = (n1 + -1) - 1 := (by omega); subst ix1)
  | skip
  first
  | (have ix2 : n21 = (n1 + -1) - 1 := Eq.trans f41 (w32_iv (Isu (Iad (Iat f3 f2) (IC (-1))) (IC 1)) (by decide)); subst ix2; clear f41)
  | (have ix2 : n21 = (n1 + -1) - 1 := Eq.trans f41 (w32_id (by omega) (by omega)); subst ix2; clear f41)
  | (unfold w32 at f41; have ix2 : n21 = (n1 + -1) - 1 := (by omega); subst ix2)
  | skip
  first
  | (have ix3 : n26 = n0 + 1 := Eq.trans f50 (w32_iv (Iad (Iat f1 f0) (IC 1)) (by decide)); subst ix3; clear f50)
  | (have ix3 : n26 = n0 + 1 := Eq.trans f50 (w32_id (by omega) (by omega)); subst ix3; clear f50)
  | (unfold w32 at f50; have ix3 : n26 = n0 + 1 := (by omega); subst ix3)
  | skip
  try unfold w32 at f23
  try unfold w32 at f27
  try unfold w32 at f41
  try unfold w32 at f48
  try unfold w32 at f50
  try subst k1
  try subst k0
  subst y0
  refine ⟨?_, fun q hq => ?_⟩
  · refine ⟨?_, ?_, ?_, ?_, ?_⟩ <;> first | assumption | omega | trivial
  · have g6 := Option.some.inj hq
    subst g6
    omega
def g_238_5_15 : vG := ([(10, [26, 7], [], 1), (80, [19, 21, 25], [2, 1], 0), (3, [25, 15, 17], [], 0), (40, [9, 24], [], 0), (0, [24], [], 4), (41, [9, 23], [], 0), (0, [23], [], 3), (41, [9, 22], [], 0), (0, [22], [], 2), (2, [21, 11, 20], [], 0), (0, [20], [], 1), (20, [19, 3], [1], 57), (0, [19], [], 324), (41, [9, 18], [], 0), (0, [18], [], 5), (22, [17, 16, 11], [1], 0), (90, [17], [], -2147483648), (91, [17], [], 2147483647), (20, [16, 3], [1], 57), (0, [16], [], 324), (22, [15, 12, 14], [1], 0), (90, [15], [], -2147483648), (91, [15], [], 2147483647), (2, [14, 11, 13], [], 0), (0, [13], [], 1), (20, [12, 3], [1], 57), (0, [12], [], 324), (10, [11, 6], [], -1), (43, [9, 10], [], 0), (0, [10], [], 2), (22, [9, 8, 7], [1], 0), (90, [9], [], 0), (91, [9], [], 5), (20, [8, 3], [1], 52), (0, [8], [], 320), (42, [7, 5], [], 0), (5000, [0, 1, 2, 3, 4, 5, 6, 7], [0, 1], 5), (0, [0], [], 285), (90, [1], [], 0), (91, [1], [], 1200), (90, [2], [], 0), (91, [2], [], 1200), (0, [3], [], 285), (90, [4], [], 0), (91, [4], [], 1200), (90, [5], [], 0), (91, [5], [], 1200), (90, [6], [], 0), (91, [6], [], 500), (90, [7], [], 0), (91, [7], [], 1200)], (4000, [3, 4, 5, 11, 26], [2], 5))
theorem c_238_5_15 {q0 : Nat} : vOkm T0 (eP e_238 L_238 A_238 mu_238 (some q0)) 3 g_238_5_15 := vOk_inI fun ρ η f0 f1 f2 f3 f4 f5 f6 f7 f8 f9 f10 f11 f12 f13 f14 f15 f16 f17 f18 f19 f20 f21 f22 f23 f24 f25 f26 f27 f28 f29 f30 f31 f32 f33 f34 f35 f36 f37 f38 f39 f40 f41 f42 f43 f44 f45 f46 f47 f48 f49 f50 => q_238_16 (q0 := q0) (n0 := ρ 7) (n1 := ρ 6) (n2 := ρ 5) (n3 := ρ 4) (n4 := ρ 3) (n5 := ρ 2) (n6 := ρ 1) (n7 := ρ 0) (n8 := ρ 8) (n9 := ρ 9) (n10 := ρ 10) (n11 := ρ 11) (n12 := ρ 12) (n13 := ρ 13) (n14 := ρ 14) (n15 := ρ 15) (n16 := ρ 16) (n17 := ρ 17) (n18 := ρ 18) (n19 := ρ 19) (n20 := ρ 20) (n21 := ρ 21) (n22 := ρ 22) (n23 := ρ 23) (n24 := ρ 24) (n25 := ρ 25) (n26 := ρ 26) (H0 := η 0) (H1 := η 1) (H2 := η 2) f50 f49 f48 f47 f46 f45 f44 f43 f42 f41 f40 f39 f38 f37 f36 f35 f34 f33 f32 f31 f30 f29 f28 f27 f26 f25 f24 f23 f22 f21 f20 f19 f18 f17 f16 f15 f14 f13 f12 f11 f10 f9 f8 f7 f6 f5 f4 f3 f2 f1 f0
theorem q_238_17 {q0 : Nat} {n0 n1 n2 n3 n4 n5 n6 n7 n8 n9 n10 n11 n12 n13 n14 n15 n16 n17 n18 : Int} {H0 H1 : gH} (f0 : n0 ≤ 1200) (f1 : 0 ≤ n0) (f2 : n1 ≤ 500) (f3 : 0 ≤ n1) (f4 : n2 ≤ 1200) (f5 : 0 ≤ n2) (f6 : n3 ≤ 1200) (f7 : 0 ≤ n3) (f8 : n4 = 285) (f9 : n5 ≤ 1200) (f10 : 0 ≤ n5) (f11 : n6 ≤ 1200) (f12 : 0 ≤ n6) (f13 : n7 = 285) (f14 : (hLe T0 H0 H1 ∧ hFr s_238.2.2.2.2 H0 H1 ∧ hWt T0 H1) ∧ (Ab_238_5 n7 n6 n5 n4 n3 n2 n1 n0 H0 H1 ∧ preb_238 n7 n6 n5 H0) ∧ some q0 = some (mub_238_5 n7 n6 n5 n4 n3 n2 n1 n0 H0 H1)) (f15 : n0 < n2) (f16 : n8 = 320) (f17 : n8 = hV H1 (n4).toNat 52) (f18 : n9 ≤ 5) (f19 : 0 ≤ n9) (f20 : n9 = hV H1 (n8).toNat (n0).toNat) (f21 : n10 = 2) (f22 : n10 ≤ n9) (f23 : n11 = w32 (n1 + (-1))) (f24 : n12 = 1) (f25 : n13 = w32 (n11 - n12)) (f26 : n14 = 5) (f27 : n9 ≠ n14) (f28 : n15 = 1) (f29 : n16 = w32 (n11 - n15)) (f30 : n17 = 2) (f31 : n9 ≠ n17) (f32 : n18 = 3) (f33 : n9 = n18) : 0 ≤ n16 ∧ n16 < 500 := by
  have g4 := f14.2.1.1
  unfold Ab_238_5 at g4
  have g3 := f14.2.1.2
  unfold preb_238 at g3
  have e0 : hV H1 320 = hV H0 320 := fRow f14.1.2.1 320 kR_238_320
  have e1 : n9 = hV H0 320 (n0).toNat := (by rw [f16] at f20; exact f20 : n9 = hV H1 320 (n0).toNat).trans ((congrFun e0 _))
  have k0 := g4.1
  have k1 := g4.2.1
  have y0 := g4.2.2.1
  have y1 := g4.2.2.2.1
  have y2 := g4.2.2.2.2
  have p0 := g3.1
  have p1 := g3.2
  try simp only [e0] at y0
  clear g3
  clear g4
  clear f17 f20 e0
  clear f14
  subst e1
  try have cg := CG_at p0 (by omega) (by omega) (c := n0) (by omega)
  first
  | (have ix0 : n11 = n1 + -1 := Eq.trans f23 (w32_iv (Iad (Iat f3 f2) (IC (-1))) (by decide)); subst ix0; clear f23)
  | (have ix0 : n11 = n1 + -1 := Eq.trans f23 (w32_id (by omega) (by omega)); subst ix0; clear f23)
  | (unfold w32 at f23; have ix0 : n11 = n1 + -1 := (by omega); subst ix0)
  | skip
  first
  | (have ix1 : n16 = (n1 + -1) - 1 := Eq.trans f29 (w32_iv (Isu (Iad (Iat f3 f2) (IC (-1))) (IC 1)) (by decide)); subst ix1; clear f29)
  | (have ix1 : n16 = (n1 + -1) - 1 := Eq.trans f29 (w32_id (by omega) (by omega)); subst ix1; clear f29)
  | (unfold w32 at f29; have ix1 : n16 = (n1 + -1) - 1 := (by omega); subst ix1)
  | skip
  try unfold w32 at f23
  try unfold w32 at f25
  try unfold w32 at f29
  try subst k1
  try subst k0
  subst y0
  omega
def g_238_5_16 : vG := ([(40, [9, 23], [], 0), (0, [23], [], 3), (41, [9, 22], [], 0), (0, [22], [], 2), (2, [21, 11, 20], [], 0), (0, [20], [], 1), (41, [9, 18], [], 0), (0, [18], [], 5), (2, [14, 11, 13], [], 0), (0, [13], [], 1), (10, [11, 6], [], -1), (43, [9, 10], [], 0), (0, [10], [], 2), (22, [9, 8, 7], [1], 0), (90, [9], [], 0), (91, [9], [], 5), (20, [8, 3], [1], 52), (0, [8], [], 320), (42, [7, 5], [], 0), (5000, [0, 1, 2, 3, 4, 5, 6, 7], [0, 1], 5), (0, [0], [], 285), (90, [1], [], 0), (91, [1], [], 1200), (90, [2], [], 0), (91, [2], [], 1200), (0, [3], [], 285), (90, [4], [], 0), (91, [4], [], 1200), (90, [5], [], 0), (91, [5], [], 1200), (90, [6], [], 0), (91, [6], [], 500), (90, [7], [], 0), (91, [7], [], 1200)], (70, [21], [], 500))
theorem c_238_5_16 {q0 : Nat} : vOkm T0 (eP e_238 L_238 A_238 mu_238 (some q0)) 3 g_238_5_16 := vOk_inI fun ρ η f0 f1 f2 f3 f4 f5 f6 f7 f8 f9 f10 f11 f12 f13 f14 f15 f16 f17 f18 f19 f20 f21 f22 f23 f24 f25 f26 f27 f28 f29 f30 f31 f32 f33 => q_238_17 (q0 := q0) (n0 := ρ 7) (n1 := ρ 6) (n2 := ρ 5) (n3 := ρ 4) (n4 := ρ 3) (n5 := ρ 2) (n6 := ρ 1) (n7 := ρ 0) (n8 := ρ 8) (n9 := ρ 9) (n10 := ρ 10) (n11 := ρ 11) (n12 := ρ 13) (n13 := ρ 14) (n14 := ρ 18) (n15 := ρ 20) (n16 := ρ 21) (n17 := ρ 22) (n18 := ρ 23) (H0 := η 0) (H1 := η 1) f33 f32 f31 f30 f29 f28 f27 f26 f25 f24 f23 f22 f21 f20 f19 f18 f17 f16 f15 f14 f13 f12 f11 f10 f9 f8 f7 f6 f5 f4 f3 f2 f1 f0
theorem q_238_18 {q0 : Nat} {n0 n1 n2 n3 n4 n5 n6 n7 n8 n9 n10 n11 n12 n13 n14 n15 n16 n17 n18 n19 : Int} {H0 H1 : gH} (f0 : n0 ≤ 1200) (f1 : 0 ≤ n0) (f2 : n1 ≤ 500) (f3 : 0 ≤ n1) (f4 : n2 ≤ 1200) (f5 : 0 ≤ n2) (f6 : n3 ≤ 1200) (f7 : 0 ≤ n3) (f8 : n4 = 285) (f9 : n5 ≤ 1200) (f10 : 0 ≤ n5) (f11 : n6 ≤ 1200) (f12 : 0 ≤ n6) (f13 : n7 = 285) (f14 : (hLe T0 H0 H1 ∧ hFr s_238.2.2.2.2 H0 H1 ∧ hWt T0 H1) ∧ (Ab_238_5 n7 n6 n5 n4 n3 n2 n1 n0 H0 H1 ∧ preb_238 n7 n6 n5 H0) ∧ some q0 = some (mub_238_5 n7 n6 n5 n4 n3 n2 n1 n0 H0 H1)) (f15 : n0 < n2) (f16 : n8 = 320) (f17 : n8 = hV H1 (n4).toNat 52) (f18 : n9 ≤ 5) (f19 : 0 ≤ n9) (f20 : n9 = hV H1 (n8).toNat (n0).toNat) (f21 : n10 = 2) (f22 : n10 ≤ n9) (f23 : n11 = w32 (n1 + (-1))) (f24 : n12 = 1) (f25 : n13 = w32 (n11 - n12)) (f26 : n14 = 5) (f27 : n9 ≠ n14) (f28 : n15 = 1) (f29 : n16 = w32 (n11 - n15)) (f30 : n17 = 2) (f31 : n9 ≠ n17) (f32 : n18 = 3) (f33 : n9 = n18) (f34 : n19 = w32 (n0 + 1)) : 0 ≤ n11 := by
  have g4 := f14.2.1.1
  unfold Ab_238_5 at g4
  have g3 := f14.2.1.2
  unfold preb_238 at g3
  have e0 : hV H1 320 = hV H0 320 := fRow f14.1.2.1 320 kR_238_320
  have e1 : n9 = hV H0 320 (n0).toNat := (by rw [f16] at f20; exact f20 : n9 = hV H1 320 (n0).toNat).trans ((congrFun e0 _))
  have k0 := g4.1
  have k1 := g4.2.1
  have y0 := g4.2.2.1
  have y1 := g4.2.2.2.1
  have y2 := g4.2.2.2.2
  have p0 := g3.1
  have p1 := g3.2
  try simp only [e0] at y0
  clear g3
  clear g4
  clear f17 f20 e0
  clear f14
  subst e1
  try have cg := CG_at p0 (by omega) (by omega) (c := n0) (by omega)
  first
  | (have ix0 : n11 = n1 + -1 := Eq.trans f23 (w32_iv (Iad (Iat f3 f2) (IC (-1))) (by decide)); subst ix0; clear f23)
  | (have ix0 : n11 = n1 + -1 := Eq.trans f23 (w32_id (by omega) (by omega)); subst ix0; clear f23)
  | (unfold w32 at f23; have ix0 : n11 = n1 + -1 := (by omega); subst ix0)
  | skip
  try unfold w32 at f23
  try unfold w32 at f25
  try unfold w32 at f29
  try unfold w32 at f34
  try subst k1
  try subst k0
  subst y0
  omega
def g_238_5_17 : vG := ([(10, [25, 7], [], 1), (40, [9, 23], [], 0), (0, [23], [], 3), (41, [9, 22], [], 0), (0, [22], [], 2), (2, [21, 11, 20], [], 0), (0, [20], [], 1), (41, [9, 18], [], 0), (0, [18], [], 5), (2, [14, 11, 13], [], 0), (0, [13], [], 1), (10, [11, 6], [], -1), (43, [9, 10], [], 0), (0, [10], [], 2), (22, [9, 8, 7], [1], 0), (90, [9], [], 0), (91, [9], [], 5), (20, [8, 3], [1], 52), (0, [8], [], 320), (42, [7, 5], [], 0), (5000, [0, 1, 2, 3, 4, 5, 6, 7], [0, 1], 5), (0, [0], [], 285), (90, [1], [], 0), (91, [1], [], 1200), (90, [2], [], 0), (91, [2], [], 1200), (0, [3], [], 285), (90, [4], [], 0), (91, [4], [], 1200), (90, [5], [], 0), (91, [5], [], 1200), (90, [6], [], 0), (91, [6], [], 500), (90, [7], [], 0), (91, [7], [], 1200)], (90, [11], [], 0))
theorem c_238_5_17 {q0 : Nat} : vOkm T0 (eP e_238 L_238 A_238 mu_238 (some q0)) 3 g_238_5_17 := vOk_inI fun ρ η f0 f1 f2 f3 f4 f5 f6 f7 f8 f9 f10 f11 f12 f13 f14 f15 f16 f17 f18 f19 f20 f21 f22 f23 f24 f25 f26 f27 f28 f29 f30 f31 f32 f33 f34 => q_238_18 (q0 := q0) (n0 := ρ 7) (n1 := ρ 6) (n2 := ρ 5) (n3 := ρ 4) (n4 := ρ 3) (n5 := ρ 2) (n6 := ρ 1) (n7 := ρ 0) (n8 := ρ 8) (n9 := ρ 9) (n10 := ρ 10) (n11 := ρ 11) (n12 := ρ 13) (n13 := ρ 14) (n14 := ρ 18) (n15 := ρ 20) (n16 := ρ 21) (n17 := ρ 22) (n18 := ρ 23) (n19 := ρ 25) (H0 := η 0) (H1 := η 1) f34 f33 f32 f31 f30 f29 f28 f27 f26 f25 f24 f23 f22 f21 f20 f19 f18 f17 f16 f15 f14 f13 f12 f11 f10 f9 f8 f7 f6 f5 f4 f3 f2 f1 f0
theorem q_238_19 {q0 : Nat} {n0 n1 n2 n3 n4 n5 n6 n7 n8 n9 n10 n11 n12 n13 n14 n15 n16 n17 n18 n19 : Int} {H0 H1 : gH} (f0 : n0 ≤ 1200) (f1 : 0 ≤ n0) (f2 : n1 ≤ 500) (f3 : 0 ≤ n1) (f4 : n2 ≤ 1200) (f5 : 0 ≤ n2) (f6 : n3 ≤ 1200) (f7 : 0 ≤ n3) (f8 : n4 = 285) (f9 : n5 ≤ 1200) (f10 : 0 ≤ n5) (f11 : n6 ≤ 1200) (f12 : 0 ≤ n6) (f13 : n7 = 285) (f14 : (hLe T0 H0 H1 ∧ hFr s_238.2.2.2.2 H0 H1 ∧ hWt T0 H1) ∧ (Ab_238_5 n7 n6 n5 n4 n3 n2 n1 n0 H0 H1 ∧ preb_238 n7 n6 n5 H0) ∧ some q0 = some (mub_238_5 n7 n6 n5 n4 n3 n2 n1 n0 H0 H1)) (f15 : n0 < n2) (f16 : n8 = 320) (f17 : n8 = hV H1 (n4).toNat 52) (f18 : n9 ≤ 5) (f19 : 0 ≤ n9) (f20 : n9 = hV H1 (n8).toNat (n0).toNat) (f21 : n10 = 2) (f22 : n10 ≤ n9) (f23 : n11 = w32 (n1 + (-1))) (f24 : n12 = 1) (f25 : n13 = w32 (n11 - n12)) (f26 : n14 = 5) (f27 : n9 ≠ n14) (f28 : n15 = 1) (f29 : n16 = w32 (n11 - n15)) (f30 : n17 = 2) (f31 : n9 ≠ n17) (f32 : n18 = 3) (f33 : n9 = n18) (f34 : n19 = w32 (n0 + 1)) : n11 ≤ 500 := by
  have g4 := f14.2.1.1
  unfold Ab_238_5 at g4
  have g3 := f14.2.1.2
  unfold preb_238 at g3
  have e0 : hV H1 320 = hV H0 320 := fRow f14.1.2.1 320 kR_238_320
  have e1 : n9 = hV H0 320 (n0).toNat := (by rw [f16] at f20; exact f20 : n9 = hV H1 320 (n0).toNat).trans ((congrFun e0 _))
  have k0 := g4.1
  have k1 := g4.2.1
  have y0 := g4.2.2.1
  have y1 := g4.2.2.2.1
  have y2 := g4.2.2.2.2
  have p0 := g3.1
  have p1 := g3.2
  try simp only [e0] at y0
  clear g3
  clear g4
  clear f17 f20 e0
  clear f14
  subst e1
  try have cg := CG_at p0 (by omega) (by omega) (c := n0) (by omega)
  first
  | (have ix0 : n11 = n1 + -1 := Eq.trans f23 (w32_iv (Iad (Iat f3 f2) (IC (-1))) (by decide)); subst ix0; clear f23)
  | (have ix0 : n11 = n1 + -1 := Eq.trans f23 (w32_id (by omega) (by omega)); subst ix0; clear f23)
  | (unfold w32 at f23; have ix0 : n11 = n1 + -1 := (by omega); subst ix0)
  | skip
  try unfold w32 at f23
  try unfold w32 at f25
  try unfold w32 at f29
  try unfold w32 at f34
  try subst k1
  try subst k0
  subst y0
  omega
def g_238_5_18 : vG := ([(10, [25, 7], [], 1), (40, [9, 23], [], 0), (0, [23], [], 3), (41, [9, 22], [], 0), (0, [22], [], 2), (2, [21, 11, 20], [], 0), (0, [20], [], 1), (41, [9, 18], [], 0), (0, [18], [], 5), (2, [14, 11, 13], [], 0), (0, [13], [], 1), (10, [11, 6], [], -1), (43, [9, 10], [], 0), (0, [10], [], 2), (22, [9, 8, 7], [1], 0), (90, [9], [], 0), (91, [9], [], 5), (20, [8, 3], [1], 52), (0, [8], [], 320), (42, [7, 5], [], 0), (5000, [0, 1, 2, 3, 4, 5, 6, 7], [0, 1], 5), (0, [0], [], 285), (90, [1], [], 0), (91, [1], [], 1200), (90, [2], [], 0), (91, [2], [], 1200), (0, [3], [], 285), (90, [4], [], 0), (91, [4], [], 1200), (90, [5], [], 0), (91, [5], [], 1200), (90, [6], [], 0), (91, [6], [], 500), (90, [7], [], 0), (91, [7], [], 1200)], (91, [11], [], 500))
theorem c_238_5_18 {q0 : Nat} : vOkm T0 (eP e_238 L_238 A_238 mu_238 (some q0)) 3 g_238_5_18 := vOk_inI fun ρ η f0 f1 f2 f3 f4 f5 f6 f7 f8 f9 f10 f11 f12 f13 f14 f15 f16 f17 f18 f19 f20 f21 f22 f23 f24 f25 f26 f27 f28 f29 f30 f31 f32 f33 f34 => q_238_19 (q0 := q0) (n0 := ρ 7) (n1 := ρ 6) (n2 := ρ 5) (n3 := ρ 4) (n4 := ρ 3) (n5 := ρ 2) (n6 := ρ 1) (n7 := ρ 0) (n8 := ρ 8) (n9 := ρ 9) (n10 := ρ 10) (n11 := ρ 11) (n12 := ρ 13) (n13 := ρ 14) (n14 := ρ 18) (n15 := ρ 20) (n16 := ρ 21) (n17 := ρ 22) (n18 := ρ 23) (n19 := ρ 25) (H0 := η 0) (H1 := η 1) f34 f33 f32 f31 f30 f29 f28 f27 f26 f25 f24 f23 f22 f21 f20 f19 f18 f17 f16 f15 f14 f13 f12 f11 f10 f9 f8 f7 f6 f5 f4 f3 f2 f1 f0
theorem q_238_20 {q0 : Nat} {n0 n1 n2 n3 n4 n5 n6 n7 n8 n9 n10 n11 n12 n13 n14 n15 n16 n17 n18 n19 : Int} {H0 H1 : gH} (f0 : n0 ≤ 1200) (f1 : 0 ≤ n0) (f2 : n1 ≤ 500) (f3 : 0 ≤ n1) (f4 : n2 ≤ 1200) (f5 : 0 ≤ n2) (f6 : n3 ≤ 1200) (f7 : 0 ≤ n3) (f8 : n4 = 285) (f9 : n5 ≤ 1200) (f10 : 0 ≤ n5) (f11 : n6 ≤ 1200) (f12 : 0 ≤ n6) (f13 : n7 = 285) (f14 : (hLe T0 H0 H1 ∧ hFr s_238.2.2.2.2 H0 H1 ∧ hWt T0 H1) ∧ (Ab_238_5 n7 n6 n5 n4 n3 n2 n1 n0 H0 H1 ∧ preb_238 n7 n6 n5 H0) ∧ some q0 = some (mub_238_5 n7 n6 n5 n4 n3 n2 n1 n0 H0 H1)) (f15 : n0 < n2) (f16 : n8 = 320) (f17 : n8 = hV H1 (n4).toNat 52) (f18 : n9 ≤ 5) (f19 : 0 ≤ n9) (f20 : n9 = hV H1 (n8).toNat (n0).toNat) (f21 : n10 = 2) (f22 : n10 ≤ n9) (f23 : n11 = w32 (n1 + (-1))) (f24 : n12 = 1) (f25 : n13 = w32 (n11 - n12)) (f26 : n14 = 5) (f27 : n9 ≠ n14) (f28 : n15 = 1) (f29 : n16 = w32 (n11 - n15)) (f30 : n17 = 2) (f31 : n9 ≠ n17) (f32 : n18 = 3) (f33 : n9 = n18) (f34 : n19 = w32 (n0 + 1)) : 0 ≤ n19 := by
  have g4 := f14.2.1.1
  unfold Ab_238_5 at g4
  have g3 := f14.2.1.2
  unfold preb_238 at g3
  have e0 : hV H1 320 = hV H0 320 := fRow f14.1.2.1 320 kR_238_320
  have e1 : n9 = hV H0 320 (n0).toNat := (by rw [f16] at f20; exact f20 : n9 = hV H1 320 (n0).toNat).trans ((congrFun e0 _))
  have k0 := g4.1
  have k1 := g4.2.1
  have y0 := g4.2.2.1
  have y1 := g4.2.2.2.1
  have y2 := g4.2.2.2.2
  have p0 := g3.1
  have p1 := g3.2
  try simp only [e0] at y0
  clear g3
  clear g4
  clear f17 f20 e0
  clear f14
  subst e1
  try have cg := CG_at p0 (by omega) (by omega) (c := n0) (by omega)
  first
  | (have ix0 : n19 = n0 + 1 := Eq.trans f34 (w32_iv (Iad (Iat f1 f0) (IC 1)) (by decide)); subst ix0; clear f34)
  | (have ix0 : n19 = n0 + 1 := Eq.trans f34 (w32_id (by omega) (by omega)); subst ix0; clear f34)
  | (unfold w32 at f34; have ix0 : n19 = n0 + 1 := (by omega); subst ix0)
  | skip
  try unfold w32 at f23
  try unfold w32 at f25
  try unfold w32 at f29
  try unfold w32 at f34
  try subst k1
  try subst k0
  subst y0
  omega
def g_238_5_19 : vG := ([(10, [25, 7], [], 1), (40, [9, 23], [], 0), (0, [23], [], 3), (41, [9, 22], [], 0), (0, [22], [], 2), (2, [21, 11, 20], [], 0), (0, [20], [], 1), (41, [9, 18], [], 0), (0, [18], [], 5), (2, [14, 11, 13], [], 0), (0, [13], [], 1), (10, [11, 6], [], -1), (43, [9, 10], [], 0), (0, [10], [], 2), (22, [9, 8, 7], [1], 0), (90, [9], [], 0), (91, [9], [], 5), (20, [8, 3], [1], 52), (0, [8], [], 320), (42, [7, 5], [], 0), (5000, [0, 1, 2, 3, 4, 5, 6, 7], [0, 1], 5), (0, [0], [], 285), (90, [1], [], 0), (91, [1], [], 1200), (90, [2], [], 0), (91, [2], [], 1200), (0, [3], [], 285), (90, [4], [], 0), (91, [4], [], 1200), (90, [5], [], 0), (91, [5], [], 1200), (90, [6], [], 0), (91, [6], [], 500), (90, [7], [], 0), (91, [7], [], 1200)], (90, [25], [], 0))
theorem c_238_5_19 {q0 : Nat} : vOkm T0 (eP e_238 L_238 A_238 mu_238 (some q0)) 3 g_238_5_19 := vOk_inI fun ρ η f0 f1 f2 f3 f4 f5 f6 f7 f8 f9 f10 f11 f12 f13 f14 f15 f16 f17 f18 f19 f20 f21 f22 f23 f24 f25 f26 f27 f28 f29 f30 f31 f32 f33 f34 => q_238_20 (q0 := q0) (n0 := ρ 7) (n1 := ρ 6) (n2 := ρ 5) (n3 := ρ 4) (n4 := ρ 3) (n5 := ρ 2) (n6 := ρ 1) (n7 := ρ 0) (n8 := ρ 8) (n9 := ρ 9) (n10 := ρ 10) (n11 := ρ 11) (n12 := ρ 13) (n13 := ρ 14) (n14 := ρ 18) (n15 := ρ 20) (n16 := ρ 21) (n17 := ρ 22) (n18 := ρ 23) (n19 := ρ 25) (H0 := η 0) (H1 := η 1) f34 f33 f32 f31 f30 f29 f28 f27 f26 f25 f24 f23 f22 f21 f20 f19 f18 f17 f16 f15 f14 f13 f12 f11 f10 f9 f8 f7 f6 f5 f4 f3 f2 f1 f0
theorem q_238_21 {q0 : Nat} {n0 n1 n2 n3 n4 n5 n6 n7 n8 n9 n10 n11 n12 n13 n14 n15 n16 n17 n18 n19 : Int} {H0 H1 : gH} (f0 : n0 ≤ 1200) (f1 : 0 ≤ n0) (f2 : n1 ≤ 500) (f3 : 0 ≤ n1) (f4 : n2 ≤ 1200) (f5 : 0 ≤ n2) (f6 : n3 ≤ 1200) (f7 : 0 ≤ n3) (f8 : n4 = 285) (f9 : n5 ≤ 1200) (f10 : 0 ≤ n5) (f11 : n6 ≤ 1200) (f12 : 0 ≤ n6) (f13 : n7 = 285) (f14 : (hLe T0 H0 H1 ∧ hFr s_238.2.2.2.2 H0 H1 ∧ hWt T0 H1) ∧ (Ab_238_5 n7 n6 n5 n4 n3 n2 n1 n0 H0 H1 ∧ preb_238 n7 n6 n5 H0) ∧ some q0 = some (mub_238_5 n7 n6 n5 n4 n3 n2 n1 n0 H0 H1)) (f15 : n0 < n2) (f16 : n8 = 320) (f17 : n8 = hV H1 (n4).toNat 52) (f18 : n9 ≤ 5) (f19 : 0 ≤ n9) (f20 : n9 = hV H1 (n8).toNat (n0).toNat) (f21 : n10 = 2) (f22 : n10 ≤ n9) (f23 : n11 = w32 (n1 + (-1))) (f24 : n12 = 1) (f25 : n13 = w32 (n11 - n12)) (f26 : n14 = 5) (f27 : n9 ≠ n14) (f28 : n15 = 1) (f29 : n16 = w32 (n11 - n15)) (f30 : n17 = 2) (f31 : n9 ≠ n17) (f32 : n18 = 3) (f33 : n9 = n18) (f34 : n19 = w32 (n0 + 1)) : n19 ≤ 1200 := by
  have g4 := f14.2.1.1
  unfold Ab_238_5 at g4
  have g3 := f14.2.1.2
  unfold preb_238 at g3
  have e0 : hV H1 320 = hV H0 320 := fRow f14.1.2.1 320 kR_238_320
  have e1 : n9 = hV H0 320 (n0).toNat := (by rw [f16] at f20; exact f20 : n9 = hV H1 320 (n0).toNat).trans ((congrFun e0 _))
  have k0 := g4.1
  have k1 := g4.2.1
  have y0 := g4.2.2.1
  have y1 := g4.2.2.2.1
  have y2 := g4.2.2.2.2
  have p0 := g3.1
  have p1 := g3.2
  try simp only [e0] at y0
  clear g3
  clear g4
  clear f17 f20 e0
  clear f14
  subst e1
  try have cg := CG_at p0 (by omega) (by omega) (c := n0) (by omega)
  first
  | (have ix0 : n19 = n0 + 1 := Eq.trans f34 (w32_iv (Iad (Iat f1 f0) (IC 1)) (by decide)); subst ix0; clear f34)
  | (have ix0 : n19 = n0 + 1 := Eq.trans f34 (w32_id (by omega) (by omega)); subst ix0; clear f34)
  | (unfold w32 at f34; have ix0 : n19 = n0 + 1 := (by omega); subst ix0)
  | skip
  try unfold w32 at f23
  try unfold w32 at f25
  try unfold w32 at f29
  try unfold w32 at f34
  try subst k1
  try subst k0
  subst y0
  omega
def g_238_5_20 : vG := ([(10, [25, 7], [], 1), (40, [9, 23], [], 0), (0, [23], [], 3), (41, [9, 22], [], 0), (0, [22], [], 2), (2, [21, 11, 20], [], 0), (0, [20], [], 1), (41, [9, 18], [], 0), (0, [18], [], 5), (2, [14, 11, 13], [], 0), (0, [13], [], 1), (10, [11, 6], [], -1), (43, [9, 10], [], 0), (0, [10], [], 2), (22, [9, 8, 7], [1], 0), (90, [9], [], 0), (91, [9], [], 5), (20, [8, 3], [1], 52), (0, [8], [], 320), (42, [7, 5], [], 0), (5000, [0, 1, 2, 3, 4, 5, 6, 7], [0, 1], 5), (0, [0], [], 285), (90, [1], [], 0), (91, [1], [], 1200), (90, [2], [], 0), (91, [2], [], 1200), (0, [3], [], 285), (90, [4], [], 0), (91, [4], [], 1200), (90, [5], [], 0), (91, [5], [], 1200), (90, [6], [], 0), (91, [6], [], 500), (90, [7], [], 0), (91, [7], [], 1200)], (91, [25], [], 1200))
theorem c_238_5_20 {q0 : Nat} : vOkm T0 (eP e_238 L_238 A_238 mu_238 (some q0)) 3 g_238_5_20 := vOk_inI fun ρ η f0 f1 f2 f3 f4 f5 f6 f7 f8 f9 f10 f11 f12 f13 f14 f15 f16 f17 f18 f19 f20 f21 f22 f23 f24 f25 f26 f27 f28 f29 f30 f31 f32 f33 f34 => q_238_21 (q0 := q0) (n0 := ρ 7) (n1 := ρ 6) (n2 := ρ 5) (n3 := ρ 4) (n4 := ρ 3) (n5 := ρ 2) (n6 := ρ 1) (n7 := ρ 0) (n8 := ρ 8) (n9 := ρ 9) (n10 := ρ 10) (n11 := ρ 11) (n12 := ρ 13) (n13 := ρ 14) (n14 := ρ 18) (n15 := ρ 20) (n16 := ρ 21) (n17 := ρ 22) (n18 := ρ 23) (n19 := ρ 25) (H0 := η 0) (H1 := η 1) f34 f33 f32 f31 f30 f29 f28 f27 f26 f25 f24 f23 f22 f21 f20 f19 f18 f17 f16 f15 f14 f13 f12 f11 f10 f9 f8 f7 f6 f5 f4 f3 f2 f1 f0
theorem q_238_22 {q0 : Nat} {n0 n1 n2 n3 n4 n5 n6 n7 n8 n9 n10 n11 n12 n13 n14 n15 n16 n17 n18 n19 n20 n21 n22 n23 n24 n25 : Int} {H0 H1 H2 : gH} (f0 : n0 ≤ 1200) (f1 : 0 ≤ n0) (f2 : n1 ≤ 500) (f3 : 0 ≤ n1) (f4 : n2 ≤ 1200) (f5 : 0 ≤ n2) (f6 : n3 ≤ 1200) (f7 : 0 ≤ n3) (f8 : n4 = 285) (f9 : n5 ≤ 1200) (f10 : 0 ≤ n5) (f11 : n6 ≤ 1200) (f12 : 0 ≤ n6) (f13 : n7 = 285) (f14 : (hLe T0 H0 H1 ∧ hFr s_238.2.2.2.2 H0 H1 ∧ hWt T0 H1) ∧ (Ab_238_5 n7 n6 n5 n4 n3 n2 n1 n0 H0 H1 ∧ preb_238 n7 n6 n5 H0) ∧ some q0 = some (mub_238_5 n7 n6 n5 n4 n3 n2 n1 n0 H0 H1)) (f15 : n0 < n2) (f16 : n8 = 320) (f17 : n8 = hV H1 (n4).toNat 52) (f18 : n9 ≤ 5) (f19 : 0 ≤ n9) (f20 : n9 = hV H1 (n8).toNat (n0).toNat) (f21 : n10 = 2) (f22 : n10 ≤ n9) (f23 : n11 = w32 (n1 + (-1))) (f24 : n12 = 324) (f25 : n12 = hV H1 (n4).toNat 57) (f26 : n13 = 1) (f27 : n14 = w32 (n11 - n13)) (f28 : n15 ≤ 2147483647) (f29 : (-2147483648) ≤ n15) (f30 : n15 = hV H1 (n12).toNat (n14).toNat) (f31 : n16 = 324) (f32 : n16 = hV H1 (n4).toNat 57) (f33 : n17 ≤ 2147483647) (f34 : (-2147483648) ≤ n17) (f35 : n17 = hV H1 (n16).toNat (n11).toNat) (f36 : n18 = 5) (f37 : n9 ≠ n18) (f38 : n19 = 324) (f39 : n19 = hV H1 (n4).toNat 57) (f40 : n20 = 1) (f41 : n21 = w32 (n11 - n20)) (f42 : n22 = 2) (f43 : n9 ≠ n22) (f44 : n23 = 3) (f45 : n9 = n23) (f46 : n24 = w32 (n15 - n17)) (f47 : hUpd H2 H1 n19 n21 n24) (f48 : n25 = w32 (n0 + 1)) : Ab_238_5 n7 n6 n5 n4 n3 n2 n11 n25 H0 H2 ∧ ∀ q, some q0 = some q → mub_238_5 n7 n6 n5 n4 n3 n2 n11 n25 H0 H2 < q := by
  have g4 := f14.2.1.1
  unfold Ab_238_5 at g4
  have g3 := f14.2.1.2
  unfold preb_238 at g3
  have g5 := Option.some.inj f14.2.2
  unfold mub_238_5 at g5
  unfold Ab_238_5
  unfold mub_238_5
  have e0 : hV H1 320 = hV H0 320 := fRow f14.1.2.1 320 kR_238_320
  have e1 : n9 = hV H0 320 (n0).toNat := (by rw [f16] at f20; exact f20 : n9 = hV H1 320 (n0).toNat).trans ((congrFun e0 _))
  have e2 : n15 = hV H1 324 (n14).toNat := (by rw [f24] at f30; exact f30 : n15 = hV H1 324 (n14).toNat)
  have e3 : n17 = hV H1 324 (n11).toNat := (by rw [f31] at f35; exact f35 : n17 = hV H1 324 (n11).toNat)
  have e5 : hV H2 320 = hV H0 320 := (uRowNe f47 320 (iS (show n19 = ((324 : Nat) : Int) from f38) rfl)).trans e0
  try simp only [e5]
  have k0 := g4.1
  have k1 := g4.2.1
  have y0 := g4.2.2.1
  have y1 := g4.2.2.2.1
  have y2 := g4.2.2.2.2
  have p0 := g3.1
  have p1 := g3.2
  try simp only [e0] at y0
  clear g3
  clear g4
  clear f17 f20 f25 f30 f32 f35 f39 e0 e5
  clear f14
  subst e1
  subst e2
  subst e3
  try have cg := CG_at p0 (by omega) (by omega) (c := n0) (by omega)
  first
  | (have ix0 : n11 = n1 + -1 := Eq.trans f23 (w32_iv (Iad (Iat f3 f2) (IC (-1))) (by decide)); subst ix0; clear f23)
  | (have ix0 : n11 = n1 + -1 := Eq.trans f23 (w32_id (by omega) (by omega)); subst ix0; clear f23)
  | (unfold w32 at f23; have ix0 : n11 = n1 + -1 := (by omega); subst ix0)
  | skip
  first
  | (have ix1 : n14 = (n1 + -1) - 1 := Eq.trans f27 (w32_iv (Isu (Iad (Iat f3 f2) (IC (-1))) (IC 1)) (by decide)); subst ix1; clear f27)
  | (have ix1 : n14 = (n1 + -1) - 1 := Eq.trans f27 (w32_id (by omega) (by omega)); subst ix1; clear f27)
  | (unfold w32 at f27; have ix1 : n14 = (n1 + -1) - 1 := (by omega); subst ix1)
  | skip
  first
  | (have ix2 : n21 = (n1 + -1) - 1 := Eq.trans f41 (w32_iv (Isu (Iad (Iat f3 f2) (IC (-1))) (IC 1)) (by decide)); subst ix2; clear f41)
  | (have ix2 : n21 = (n1 + -1) - 1 := Eq.trans f41 (w32_id (by omega) (by omega)); subst ix2; clear f41)
  | (unfold w32 at f41; have ix2 : n21 = (n1 + -1) - 1 := (by omega); subst ix2)
  | skip
  first
  | (have ix3 : n24 = hV H1 324 (((n1 + -1) - 1)).toNat - (hV H1 324 ((n1 + -1)).toNat) := Eq.trans f46 (w32_id (by omega) (by omega)); subst ix3; clear f46)
  | (unfold w32 at f46; have ix3 : n24 = hV H1 324 (((n1 + -1) - 1)).toNat - (hV H1 324 ((n1 + -1)).toNat) := (by omega); subst ix3)
  | skip
  first
  | (have ix4 : n25 = n0 + 1 := Eq.trans f48 (w32_iv (Iad (Iat f1 f0) (IC 1)) (by decide)); subst ix4; clear f48)
  | (have ix4 : n25 = n0 + 1 := Eq.trans f48 (w32_id (by omega) (by omega)); subst ix4; clear f48)
  | (unfold w32 at f48; have ix4 : n25 = n0 + 1 := (by omega); subst ix4)
  | skip
  try unfold w32 at f23
  try unfold w32 at f27
  try unfold w32 at f41
  try unfold w32 at f46
  try unfold w32 at f48
  try subst k1
  try subst k0
  subst y0
  refine ⟨?_, fun q hq => ?_⟩
  · refine ⟨?_, ?_, ?_, ?_, ?_⟩ <;> first | assumption | omega | trivial
  · have g6 := Option.some.inj hq
    subst g6
    omega
def g_238_5_21 : vG := ([(10, [25, 7], [], 1), (80, [19, 21, 24], [2, 1], 0), (2, [24, 15, 17], [], 0), (40, [9, 23], [], 0), (0, [23], [], 3), (41, [9, 22], [], 0), (0, [22], [], 2), (2, [21, 11, 20], [], 0), (0, [20], [], 1), (20, [19, 3], [1], 57), (0, [19], [], 324), (41, [9, 18], [], 0), (0, [18], [], 5), (22, [17, 16, 11], [1], 0), (90, [17], [], -2147483648), (91, [17], [], 2147483647), (20, [16, 3], [1], 57), (0, [16], [], 324), (22, [15, 12, 14], [1], 0), (90, [15], [], -2147483648), (91, [15], [], 2147483647), (2, [14, 11, 13], [], 0), (0, [13], [], 1), (20, [12, 3], [1], 57), (0, [12], [], 324), (10, [11, 6], [], -1), (43, [9, 10], [], 0), (0, [10], [], 2), (22, [9, 8, 7], [1], 0), (90, [9], [], 0), (91, [9], [], 5), (20, [8, 3], [1], 52), (0, [8], [], 320), (42, [7, 5], [], 0), (5000, [0, 1, 2, 3, 4, 5, 6, 7], [0, 1], 5), (0, [0], [], 285), (90, [1], [], 0), (91, [1], [], 1200), (90, [2], [], 0), (91, [2], [], 1200), (0, [3], [], 285), (90, [4], [], 0), (91, [4], [], 1200), (90, [5], [], 0), (91, [5], [], 1200), (90, [6], [], 0), (91, [6], [], 500), (90, [7], [], 0), (91, [7], [], 1200)], (4000, [3, 4, 5, 11, 25], [2], 5))
theorem c_238_5_21 {q0 : Nat} : vOkm T0 (eP e_238 L_238 A_238 mu_238 (some q0)) 3 g_238_5_21 := vOk_inI fun ρ η f0 f1 f2 f3 f4 f5 f6 f7 f8 f9 f10 f11 f12 f13 f14 f15 f16 f17 f18 f19 f20 f21 f22 f23 f24 f25 f26 f27 f28 f29 f30 f31 f32 f33 f34 f35 f36 f37 f38 f39 f40 f41 f42 f43 f44 f45 f46 f47 f48 => q_238_22 (q0 := q0) (n0 := ρ 7) (n1 := ρ 6) (n2 := ρ 5) (n3 := ρ 4) (n4 := ρ 3) (n5 := ρ 2) (n6 := ρ 1) (n7 := ρ 0) (n8 := ρ 8) (n9 := ρ 9) (n10 := ρ 10) (n11 := ρ 11) (n12 := ρ 12) (n13 := ρ 13) (n14 := ρ 14) (n15 := ρ 15) (n16 := ρ 16) (n17 := ρ 17) (n18 := ρ 18) (n19 := ρ 19) (n20 := ρ 20) (n21 := ρ 21) (n22 := ρ 22) (n23 := ρ 23) (n24 := ρ 24) (n25 := ρ 25) (H0 := η 0) (H1 := η 1) (H2 := η 2) f48 f47 f46 f45 f44 f43 f42 f41 f40 f39 f38 f37 f36 f35 f34 f33 f32 f31 f30 f29 f28 f27 f26 f25 f24 f23 f22 f21 f20 f19 f18 f17 f16 f15 f14 f13 f12 f11 f10 f9 f8 f7 f6 f5 f4 f3 f2 f1 f0
theorem q_238_23 {q0 : Nat} {n0 n1 n2 n3 n4 n5 n6 n7 n8 n9 n10 n11 n12 n13 n14 n15 n16 n17 : Int} {H0 H1 : gH} (f0 : n0 ≤ 1200) (f1 : 0 ≤ n0) (f2 : n1 ≤ 500) (f3 : 0 ≤ n1) (f4 : n2 ≤ 1200) (f5 : 0 ≤ n2) (f6 : n3 ≤ 1200) (f7 : 0 ≤ n3) (f8 : n4 = 285) (f9 : n5 ≤ 1200) (f10 : 0 ≤ n5) (f11 : n6 ≤ 1200) (f12 : 0 ≤ n6) (f13 : n7 = 285) (f14 : (hLe T0 H0 H1 ∧ hFr s_238.2.2.2.2 H0 H1 ∧ hWt T0 H1) ∧ (Ab_238_5 n7 n6 n5 n4 n3 n2 n1 n0 H0 H1 ∧ preb_238 n7 n6 n5 H0) ∧ some q0 = some (mub_238_5 n7 n6 n5 n4 n3 n2 n1 n0 H0 H1)) (f15 : n0 < n2) (f16 : n8 = 320) (f17 : n8 = hV H1 (n4).toNat 52) (f18 : n9 ≤ 5) (f19 : 0 ≤ n9) (f20 : n9 = hV H1 (n8).toNat (n0).toNat) (f21 : n10 = 2) (f22 : n10 ≤ n9) (f23 : n11 = w32 (n1 + (-1))) (f24 : n12 = 1) (f25 : n13 = w32 (n11 - n12)) (f26 : n14 = 5) (f27 : n9 ≠ n14) (f28 : n15 = 1) (f29 : n16 = w32 (n11 - n15)) (f30 : n17 = 2) (f31 : n9 = n17) : 0 ≤ n16 ∧ n16 < 500 := by
  have g4 := f14.2.1.1
  unfold Ab_238_5 at g4
  have g3 := f14.2.1.2
  unfold preb_238 at g3
  have e0 : hV H1 320 = hV H0 320 := fRow f14.1.2.1 320 kR_238_320
  have e1 : n9 = hV H0 320 (n0).toNat := (by rw [f16] at f20; exact f20 : n9 = hV H1 320 (n0).toNat).trans ((congrFun e0 _))
  have k0 := g4.1
  have k1 := g4.2.1
  have y0 := g4.2.2.1
  have y1 := g4.2.2.2.1
  have y2 := g4.2.2.2.2
  have p0 := g3.1
  have p1 := g3.2
  try simp only [e0] at y0
  clear g3
  clear g4
  clear f17 f20 e0
  clear f14
  subst e1
  try have cg := CG_at p0 (by omega) (by omega) (c := n0) (by omega)
  first
  | (have ix0 : n11 = n1 + -1 := Eq.trans f23 (w32_iv (Iad (Iat f3 f2) (IC (-1))) (by decide)); subst ix0; clear f23)
  | (have ix0 : n11 = n1 + -1 := Eq.trans f23 (w32_id (by omega) (by omega)); subst ix0; clear f23)
  | (unfold w32 at f23; have ix0 : n11 = n1 + -1 := (by omega); subst ix0)
  | skip
  first
  | (have ix1 : n16 = (n1 + -1) - 1 := Eq.trans f29 (w32_iv (Isu (Iad (Iat f3 f2) (IC (-1))) (IC 1)) (by decide)); subst ix1; clear f29)
  | (have ix1 : n16 = (n1 + -1) - 1 := Eq.trans f29 (w32_id (by omega) (by omega)); subst ix1; clear f29)
  | (unfold w32 at f29; have ix1 : n16 = (n1 + -1) - 1 := (by omega); subst ix1)
  | skip
  try unfold w32 at f23
  try unfold w32 at f25
  try unfold w32 at f29
  try subst k1
  try subst k0
  subst y0
  omega
def g_238_5_22 : vG := ([(40, [9, 22], [], 0), (0, [22], [], 2), (2, [21, 11, 20], [], 0), (0, [20], [], 1), (41, [9, 18], [], 0), (0, [18], [], 5), (2, [14, 11, 13], [], 0), (0, [13], [], 1), (10, [11, 6], [], -1), (43, [9, 10], [], 0), (0, [10], [], 2), (22, [9, 8, 7], [1], 0), (90, [9], [], 0), (91, [9], [], 5), (20, [8, 3], [1], 52), (0, [8], [], 320), (42, [7, 5], [], 0), (5000, [0, 1, 2, 3, 4, 5, 6, 7], [0, 1], 5), (0, [0], [], 285), (90, [1], [], 0), (91, [1], [], 1200), (90, [2], [], 0), (91, [2], [], 1200), (0, [3], [], 285), (90, [4], [], 0), (91, [4], [], 1200), (90, [5], [], 0), (91, [5], [], 1200), (90, [6], [], 0), (91, [6], [], 500), (90, [7], [], 0), (91, [7], [], 1200)], (70, [21], [], 500))
theorem c_238_5_22 {q0 : Nat} : vOkm T0 (eP e_238 L_238 A_238 mu_238 (some q0)) 3 g_238_5_22 := vOk_inI fun ρ η f0 f1 f2 f3 f4 f5 f6 f7 f8 f9 f10 f11 f12 f13 f14 f15 f16 f17 f18 f19 f20 f21 f22 f23 f24 f25 f26 f27 f28 f29 f30 f31 => q_238_23 (q0 := q0) (n0 := ρ 7) (n1 := ρ 6) (n2 := ρ 5) (n3 := ρ 4) (n4 := ρ 3) (n5 := ρ 2) (n6 := ρ 1) (n7 := ρ 0) (n8 := ρ 8) (n9 := ρ 9) (n10 := ρ 10) (n11 := ρ 11) (n12 := ρ 13) (n13 := ρ 14) (n14 := ρ 18) (n15 := ρ 20) (n16 := ρ 21) (n17 := ρ 22) (H0 := η 0) (H1 := η 1) f31 f30 f29 f28 f27 f26 f25 f24 f23 f22 f21 f20 f19 f18 f17 f16 f15 f14 f13 f12 f11 f10 f9 f8 f7 f6 f5 f4 f3 f2 f1 f0
theorem q_238_24 {q0 : Nat} {n0 n1 n2 n3 n4 n5 n6 n7 n8 n9 n10 n11 n12 n13 n14 n15 n16 n17 n18 : Int} {H0 H1 : gH} (f0 : n0 ≤ 1200) (f1 : 0 ≤ n0) (f2 : n1 ≤ 500) (f3 : 0 ≤ n1) (f4 : n2 ≤ 1200) (f5 : 0 ≤ n2) (f6 : n3 ≤ 1200) (f7 : 0 ≤ n3) (f8 : n4 = 285) (f9 : n5 ≤ 1200) (f10 : 0 ≤ n5) (f11 : n6 ≤ 1200) (f12 : 0 ≤ n6) (f13 : n7 = 285) (f14 : (hLe T0 H0 H1 ∧ hFr s_238.2.2.2.2 H0 H1 ∧ hWt T0 H1) ∧ (Ab_238_5 n7 n6 n5 n4 n3 n2 n1 n0 H0 H1 ∧ preb_238 n7 n6 n5 H0) ∧ some q0 = some (mub_238_5 n7 n6 n5 n4 n3 n2 n1 n0 H0 H1)) (f15 : n0 < n2) (f16 : n8 = 320) (f17 : n8 = hV H1 (n4).toNat 52) (f18 : n9 ≤ 5) (f19 : 0 ≤ n9) (f20 : n9 = hV H1 (n8).toNat (n0).toNat) (f21 : n10 = 2) (f22 : n10 ≤ n9) (f23 : n11 = w32 (n1 + (-1))) (f24 : n12 = 1) (f25 : n13 = w32 (n11 - n12)) (f26 : n14 = 5) (f27 : n9 ≠ n14) (f28 : n15 = 1) (f29 : n16 = w32 (n11 - n15)) (f30 : n17 = 2) (f31 : n9 = n17) (f32 : n18 = w32 (n0 + 1)) : 0 ≤ n11 := by
  have g4 := f14.2.1.1
  unfold Ab_238_5 at g4
  have g3 := f14.2.1.2
  unfold preb_238 at g3
  have e0 : hV H1 320 = hV H0 320 := fRow f14.1.2.1 320 kR_238_320
  have e1 : n9 = hV H0 320 (n0).toNat := (by rw [f16] at f20; exact f20 : n9 = hV H1 320 (n0).toNat).trans ((congrFun e0 _))
  have k0 := g4.1
  have k1 := g4.2.1
  have y0 := g4.2.2.1
  have y1 := g4.2.2.2.1
  have y2 := g4.2.2.2.2
  have p0 := g3.1
  have p1 := g3.2
  try simp only [e0] at y0
  clear g3
  clear g4
  clear f17 f20 e0
  clear f14
  subst e1
  try have cg := CG_at p0 (by omega) (by omega) (c := n0) (by omega)
  first
  | (have ix0 : n11 = n1 + -1 := Eq.trans f23 (w32_iv (Iad (Iat f3 f2) (IC (-1))) (by decide)); subst ix0; clear f23)
  | (have ix0 : n11 = n1 + -1 := Eq.trans f23 (w32_id (by omega) (by omega)); subst ix0; clear f23)
  | (unfold w32 at f23; have ix0 : n11 = n1 + -1 := (by omega); subst ix0)
  | skip
  try unfold w32 at f23
  try unfold w32 at f25
  try unfold w32 at f29
  try unfold w32 at f32
  try subst k1
  try subst k0
  subst y0
  omega
def g_238_5_23 : vG := ([(10, [24, 7], [], 1), (40, [9, 22], [], 0), (0, [22], [], 2), (2, [21, 11, 20], [], 0), (0, [20], [], 1), (41, [9, 18], [], 0), (0, [18], [], 5), (2, [14, 11, 13], [], 0), (0, [13], [], 1), (10, [11, 6], [], -1), (43, [9, 10], [], 0), (0, [10], [], 2), (22, [9, 8, 7], [1], 0), (90, [9], [], 0), (91, [9], [], 5), (20, [8, 3], [1], 52), (0, [8], [], 320), (42, [7, 5], [], 0), (5000, [0, 1, 2, 3, 4, 5, 6, 7], [0, 1], 5), (0, [0], [], 285), (90, [1], [], 0), (91, [1], [], 1200), (90, [2], [], 0), (91, [2], [], 1200), (0, [3], [], 285), (90, [4], [], 0), (91, [4], [], 1200), (90, [5], [], 0), (91, [5], [], 1200), (90, [6], [], 0), (91, [6], [], 500), (90, [7], [], 0), (91, [7], [], 1200)], (90, [11], [], 0))
theorem c_238_5_23 {q0 : Nat} : vOkm T0 (eP e_238 L_238 A_238 mu_238 (some q0)) 3 g_238_5_23 := vOk_inI fun ρ η f0 f1 f2 f3 f4 f5 f6 f7 f8 f9 f10 f11 f12 f13 f14 f15 f16 f17 f18 f19 f20 f21 f22 f23 f24 f25 f26 f27 f28 f29 f30 f31 f32 => q_238_24 (q0 := q0) (n0 := ρ 7) (n1 := ρ 6) (n2 := ρ 5) (n3 := ρ 4) (n4 := ρ 3) (n5 := ρ 2) (n6 := ρ 1) (n7 := ρ 0) (n8 := ρ 8) (n9 := ρ 9) (n10 := ρ 10) (n11 := ρ 11) (n12 := ρ 13) (n13 := ρ 14) (n14 := ρ 18) (n15 := ρ 20) (n16 := ρ 21) (n17 := ρ 22) (n18 := ρ 24) (H0 := η 0) (H1 := η 1) f32 f31 f30 f29 f28 f27 f26 f25 f24 f23 f22 f21 f20 f19 f18 f17 f16 f15 f14 f13 f12 f11 f10 f9 f8 f7 f6 f5 f4 f3 f2 f1 f0
theorem q_238_25 {q0 : Nat} {n0 n1 n2 n3 n4 n5 n6 n7 n8 n9 n10 n11 n12 n13 n14 n15 n16 n17 n18 : Int} {H0 H1 : gH} (f0 : n0 ≤ 1200) (f1 : 0 ≤ n0) (f2 : n1 ≤ 500) (f3 : 0 ≤ n1) (f4 : n2 ≤ 1200) (f5 : 0 ≤ n2) (f6 : n3 ≤ 1200) (f7 : 0 ≤ n3) (f8 : n4 = 285) (f9 : n5 ≤ 1200) (f10 : 0 ≤ n5) (f11 : n6 ≤ 1200) (f12 : 0 ≤ n6) (f13 : n7 = 285) (f14 : (hLe T0 H0 H1 ∧ hFr s_238.2.2.2.2 H0 H1 ∧ hWt T0 H1) ∧ (Ab_238_5 n7 n6 n5 n4 n3 n2 n1 n0 H0 H1 ∧ preb_238 n7 n6 n5 H0) ∧ some q0 = some (mub_238_5 n7 n6 n5 n4 n3 n2 n1 n0 H0 H1)) (f15 : n0 < n2) (f16 : n8 = 320) (f17 : n8 = hV H1 (n4).toNat 52) (f18 : n9 ≤ 5) (f19 : 0 ≤ n9) (f20 : n9 = hV H1 (n8).toNat (n0).toNat) (f21 : n10 = 2) (f22 : n10 ≤ n9) (f23 : n11 = w32 (n1 + (-1))) (f24 : n12 = 1) (f25 : n13 = w32 (n11 - n12)) (f26 : n14 = 5) (f27 : n9 ≠ n14) (f28 : n15 = 1) (f29 : n16 = w32 (n11 - n15)) (f30 : n17 = 2) (f31 : n9 = n17) (f32 : n18 = w32 (n0 + 1)) : n11 ≤ 500 := by
  have g4 := f14.2.1.1
  unfold Ab_238_5 at g4
  have g3 := f14.2.1.2
  unfold preb_238 at g3
  have e0 : hV H1 320 = hV H0 320 := fRow f14.1.2.1 320 kR_238_320
  have e1 : n9 = hV H0 320 (n0).toNat := (by rw [f16] at f20; exact f20 : n9 = hV H1 320 (n0).toNat).trans ((congrFun e0 _))
  have k0 := g4.1
  have k1 := g4.2.1
  have y0 := g4.2.2.1
  have y1 := g4.2.2.2.1
  have y2 := g4.2.2.2.2
  have p0 := g3.1
  have p1 := g3.2
  try simp only [e0] at y0
  clear g3
  clear g4
  clear f17 f20 e0
  clear f14
  subst e1
  try have cg := CG_at p0 (by omega) (by omega) (c := n0) (by omega)
  first
  | (have ix0 : n11 = n1 + -1 := Eq.trans f23 (w32_iv (Iad (Iat f3 f2) (IC (-1))) (by decide)); subst ix0; clear f23)
  | (have ix0 : n11 = n1 + -1 := Eq.trans f23 (w32_id (by omega) (by omega)); subst ix0; clear f23)
  | (unfold w32 at f23; have ix0 : n11 = n1 + -1 := (by omega); subst ix0)
  | skip
  try unfold w32 at f23
  try unfold w32 at f25
  try unfold w32 at f29
  try unfold w32 at f32
  try subst k1
  try subst k0
  subst y0
  omega
def g_238_5_24 : vG := ([(10, [24, 7], [], 1), (40, [9, 22], [], 0), (0, [22], [], 2), (2, [21, 11, 20], [], 0), (0, [20], [], 1), (41, [9, 18], [], 0), (0, [18], [], 5), (2, [14, 11, 13], [], 0), (0, [13], [], 1), (10, [11, 6], [], -1), (43, [9, 10], [], 0), (0, [10], [], 2), (22, [9, 8, 7], [1], 0), (90, [9], [], 0), (91, [9], [], 5), (20, [8, 3], [1], 52), (0, [8], [], 320), (42, [7, 5], [], 0), (5000, [0, 1, 2, 3, 4, 5, 6, 7], [0, 1], 5), (0, [0], [], 285), (90, [1], [], 0), (91, [1], [], 1200), (90, [2], [], 0), (91, [2], [], 1200), (0, [3], [], 285), (90, [4], [], 0), (91, [4], [], 1200), (90, [5], [], 0), (91, [5], [], 1200), (90, [6], [], 0), (91, [6], [], 500), (90, [7], [], 0), (91, [7], [], 1200)], (91, [11], [], 500))
theorem c_238_5_24 {q0 : Nat} : vOkm T0 (eP e_238 L_238 A_238 mu_238 (some q0)) 3 g_238_5_24 := vOk_inI fun ρ η f0 f1 f2 f3 f4 f5 f6 f7 f8 f9 f10 f11 f12 f13 f14 f15 f16 f17 f18 f19 f20 f21 f22 f23 f24 f25 f26 f27 f28 f29 f30 f31 f32 => q_238_25 (q0 := q0) (n0 := ρ 7) (n1 := ρ 6) (n2 := ρ 5) (n3 := ρ 4) (n4 := ρ 3) (n5 := ρ 2) (n6 := ρ 1) (n7 := ρ 0) (n8 := ρ 8) (n9 := ρ 9) (n10 := ρ 10) (n11 := ρ 11) (n12 := ρ 13) (n13 := ρ 14) (n14 := ρ 18) (n15 := ρ 20) (n16 := ρ 21) (n17 := ρ 22) (n18 := ρ 24) (H0 := η 0) (H1 := η 1) f32 f31 f30 f29 f28 f27 f26 f25 f24 f23 f22 f21 f20 f19 f18 f17 f16 f15 f14 f13 f12 f11 f10 f9 f8 f7 f6 f5 f4 f3 f2 f1 f0
theorem q_238_26 {q0 : Nat} {n0 n1 n2 n3 n4 n5 n6 n7 n8 n9 n10 n11 n12 n13 n14 n15 n16 n17 n18 : Int} {H0 H1 : gH} (f0 : n0 ≤ 1200) (f1 : 0 ≤ n0) (f2 : n1 ≤ 500) (f3 : 0 ≤ n1) (f4 : n2 ≤ 1200) (f5 : 0 ≤ n2) (f6 : n3 ≤ 1200) (f7 : 0 ≤ n3) (f8 : n4 = 285) (f9 : n5 ≤ 1200) (f10 : 0 ≤ n5) (f11 : n6 ≤ 1200) (f12 : 0 ≤ n6) (f13 : n7 = 285) (f14 : (hLe T0 H0 H1 ∧ hFr s_238.2.2.2.2 H0 H1 ∧ hWt T0 H1) ∧ (Ab_238_5 n7 n6 n5 n4 n3 n2 n1 n0 H0 H1 ∧ preb_238 n7 n6 n5 H0) ∧ some q0 = some (mub_238_5 n7 n6 n5 n4 n3 n2 n1 n0 H0 H1)) (f15 : n0 < n2) (f16 : n8 = 320) (f17 : n8 = hV H1 (n4).toNat 52) (f18 : n9 ≤ 5) (f19 : 0 ≤ n9) (f20 : n9 = hV H1 (n8).toNat (n0).toNat) (f21 : n10 = 2) (f22 : n10 ≤ n9) (f23 : n11 = w32 (n1 + (-1))) (f24 : n12 = 1) (f25 : n13 = w32 (n11 - n12)) (f26 : n14 = 5) (f27 : n9 ≠ n14) (f28 : n15 = 1) (f29 : n16 = w32 (n11 - n15)) (f30 : n17 = 2) (f31 : n9 = n17) (f32 : n18 = w32 (n0 + 1)) : 0 ≤ n18 := by
  have g4 := f14.2.1.1
  unfold Ab_238_5 at g4
  have g3 := f14.2.1.2
  unfold preb_238 at g3
  have e0 : hV H1 320 = hV H0 320 := fRow f14.1.2.1 320 kR_238_320
  have e1 : n9 = hV H0 320 (n0).toNat := (by rw [f16] at f20; exact f20 : n9 = hV H1 320 (n0).toNat).trans ((congrFun e0 _))
  have k0 := g4.1
  have k1 := g4.2.1
  have y0 := g4.2.2.1
  have y1 := g4.2.2.2.1
  have y2 := g4.2.2.2.2
  have p0 := g3.1
  have p1 := g3.2
  try simp only [e0] at y0
  clear g3
  clear g4
  clear f17 f20 e0
  clear f14
  subst e1
  try have cg := CG_at p0 (by omega) (by omega) (c := n0) (by omega)
  first
  | (have ix0 : n18 = n0 + 1 := Eq.trans f32 (w32_iv (Iad (Iat f1 f0) (IC 1)) (by decide)); subst ix0; clear f32)
  | (have ix0 : n18 = n0 + 1 := Eq.trans f32 (w32_id (by omega) (by omega)); subst ix0; clear f32)
  | (unfold w32 at f32; have ix0 : n18 = n0 + 1 := (by omega); subst ix0)
  | skip
  try unfold w32 at f23
  try unfold w32 at f25
  try unfold w32 at f29
  try unfold w32 at f32
  try subst k1
  try subst k0
  subst y0
  omega
def g_238_5_25 : vG := ([(10, [24, 7], [], 1), (40, [9, 22], [], 0), (0, [22], [], 2), (2, [21, 11, 20], [], 0), (0, [20], [], 1), (41, [9, 18], [], 0), (0, [18], [], 5), (2, [14, 11, 13], [], 0), (0, [13], [], 1), (10, [11, 6], [], -1), (43, [9, 10], [], 0), (0, [10], [], 2), (22, [9, 8, 7], [1], 0), (90, [9], [], 0), (91, [9], [], 5), (20, [8, 3], [1], 52), (0, [8], [], 320), (42, [7, 5], [], 0), (5000, [0, 1, 2, 3, 4, 5, 6, 7], [0, 1], 5), (0, [0], [], 285), (90, [1], [], 0), (91, [1], [], 1200), (90, [2], [], 0), (91, [2], [], 1200), (0, [3], [], 285), (90, [4], [], 0), (91, [4], [], 1200), (90, [5], [], 0), (91, [5], [], 1200), (90, [6], [], 0), (91, [6], [], 500), (90, [7], [], 0), (91, [7], [], 1200)], (90, [24], [], 0))
theorem c_238_5_25 {q0 : Nat} : vOkm T0 (eP e_238 L_238 A_238 mu_238 (some q0)) 3 g_238_5_25 := vOk_inI fun ρ η f0 f1 f2 f3 f4 f5 f6 f7 f8 f9 f10 f11 f12 f13 f14 f15 f16 f17 f18 f19 f20 f21 f22 f23 f24 f25 f26 f27 f28 f29 f30 f31 f32 => q_238_26 (q0 := q0) (n0 := ρ 7) (n1 := ρ 6) (n2 := ρ 5) (n3 := ρ 4) (n4 := ρ 3) (n5 := ρ 2) (n6 := ρ 1) (n7 := ρ 0) (n8 := ρ 8) (n9 := ρ 9) (n10 := ρ 10) (n11 := ρ 11) (n12 := ρ 13) (n13 := ρ 14) (n14 := ρ 18) (n15 := ρ 20) (n16 := ρ 21) (n17 := ρ 22) (n18 := ρ 24) (H0 := η 0) (H1 := η 1) f32 f31 f30 f29 f28 f27 f26 f25 f24 f23 f22 f21 f20 f19 f18 f17 f16 f15 f14 f13 f12 f11 f10 f9 f8 f7 f6 f5 f4 f3 f2 f1 f0
theorem q_238_27 {q0 : Nat} {n0 n1 n2 n3 n4 n5 n6 n7 n8 n9 n10 n11 n12 n13 n14 n15 n16 n17 n18 : Int} {H0 H1 : gH} (f0 : n0 ≤ 1200) (f1 : 0 ≤ n0) (f2 : n1 ≤ 500) (f3 : 0 ≤ n1) (f4 : n2 ≤ 1200) (f5 : 0 ≤ n2) (f6 : n3 ≤ 1200) (f7 : 0 ≤ n3) (f8 : n4 = 285) (f9 : n5 ≤ 1200) (f10 : 0 ≤ n5) (f11 : n6 ≤ 1200) (f12 : 0 ≤ n6) (f13 : n7 = 285) (f14 : (hLe T0 H0 H1 ∧ hFr s_238.2.2.2.2 H0 H1 ∧ hWt T0 H1) ∧ (Ab_238_5 n7 n6 n5 n4 n3 n2 n1 n0 H0 H1 ∧ preb_238 n7 n6 n5 H0) ∧ some q0 = some (mub_238_5 n7 n6 n5 n4 n3 n2 n1 n0 H0 H1)) (f15 : n0 < n2) (f16 : n8 = 320) (f17 : n8 = hV H1 (n4).toNat 52) (f18 : n9 ≤ 5) (f19 : 0 ≤ n9) (f20 : n9 = hV H1 (n8).toNat (n0).toNat) (f21 : n10 = 2) (f22 : n10 ≤ n9) (f23 : n11 = w32 (n1 + (-1))) (f24 : n12 = 1) (f25 : n13 = w32 (n11 - n12)) (f26 : n14 = 5) (f27 : n9 ≠ n14) (f28 : n15 = 1) (f29 : n16 = w32 (n11 - n15)) (f30 : n17 = 2) (f31 : n9 = n17) (f32 : n18 = w32 (n0 + 1)) : n18 ≤ 1200 := by
  have g4 := f14.2.1.1
  unfold Ab_238_5 at g4
  have g3 := f14.2.1.2
  unfold preb_238 at g3
  have e0 : hV H1 320 = hV H0 320 := fRow f14.1.2.1 320 kR_238_320
  have e1 : n9 = hV H0 320 (n0).toNat := (by rw [f16] at f20; exact f20 : n9 = hV H1 320 (n0).toNat).trans ((congrFun e0 _))
  have k0 := g4.1
  have k1 := g4.2.1
  have y0 := g4.2.2.1
  have y1 := g4.2.2.2.1
  have y2 := g4.2.2.2.2
  have p0 := g3.1
  have p1 := g3.2
  try simp only [e0] at y0
  clear g3
  clear g4
  clear f17 f20 e0
  clear f14
  subst e1
  try have cg := CG_at p0 (by omega) (by omega) (c := n0) (by omega)
  first
  | (have ix0 : n18 = n0 + 1 := Eq.trans f32 (w32_iv (Iad (Iat f1 f0) (IC 1)) (by decide)); subst ix0; clear f32)
  | (have ix0 : n18 = n0 + 1 := Eq.trans f32 (w32_id (by omega) (by omega)); subst ix0; clear f32)
  | (unfold w32 at f32; have ix0 : n18 = n0 + 1 := (by omega); subst ix0)
  | skip
  try unfold w32 at f23
  try unfold w32 at f25
  try unfold w32 at f29
  try unfold w32 at f32
  try subst k1
  try subst k0
  subst y0
  omega
def g_238_5_26 : vG := ([(10, [24, 7], [], 1), (40, [9, 22], [], 0), (0, [22], [], 2), (2, [21, 11, 20], [], 0), (0, [20], [], 1), (41, [9, 18], [], 0), (0, [18], [], 5), (2, [14, 11, 13], [], 0), (0, [13], [], 1), (10, [11, 6], [], -1), (43, [9, 10], [], 0), (0, [10], [], 2), (22, [9, 8, 7], [1], 0), (90, [9], [], 0), (91, [9], [], 5), (20, [8, 3], [1], 52), (0, [8], [], 320), (42, [7, 5], [], 0), (5000, [0, 1, 2, 3, 4, 5, 6, 7], [0, 1], 5), (0, [0], [], 285), (90, [1], [], 0), (91, [1], [], 1200), (90, [2], [], 0), (91, [2], [], 1200), (0, [3], [], 285), (90, [4], [], 0), (91, [4], [], 1200), (90, [5], [], 0), (91, [5], [], 1200), (90, [6], [], 0), (91, [6], [], 500), (90, [7], [], 0), (91, [7], [], 1200)], (91, [24], [], 1200))
theorem c_238_5_26 {q0 : Nat} : vOkm T0 (eP e_238 L_238 A_238 mu_238 (some q0)) 3 g_238_5_26 := vOk_inI fun ρ η f0 f1 f2 f3 f4 f5 f6 f7 f8 f9 f10 f11 f12 f13 f14 f15 f16 f17 f18 f19 f20 f21 f22 f23 f24 f25 f26 f27 f28 f29 f30 f31 f32 => q_238_27 (q0 := q0) (n0 := ρ 7) (n1 := ρ 6) (n2 := ρ 5) (n3 := ρ 4) (n4 := ρ 3) (n5 := ρ 2) (n6 := ρ 1) (n7 := ρ 0) (n8 := ρ 8) (n9 := ρ 9) (n10 := ρ 10) (n11 := ρ 11) (n12 := ρ 13) (n13 := ρ 14) (n14 := ρ 18) (n15 := ρ 20) (n16 := ρ 21) (n17 := ρ 22) (n18 := ρ 24) (H0 := η 0) (H1 := η 1) f32 f31 f30 f29 f28 f27 f26 f25 f24 f23 f22 f21 f20 f19 f18 f17 f16 f15 f14 f13 f12 f11 f10 f9 f8 f7 f6 f5 f4 f3 f2 f1 f0
theorem q_238_28 {q0 : Nat} {n0 n1 n2 n3 n4 n5 n6 n7 n8 n9 n10 n11 n12 n13 n14 n15 n16 n17 n18 n19 n20 n21 n22 n23 n24 : Int} {H0 H1 H2 : gH} (f0 : n0 ≤ 1200) (f1 : 0 ≤ n0) (f2 : n1 ≤ 500) (f3 : 0 ≤ n1) (f4 : n2 ≤ 1200) (f5 : 0 ≤ n2) (f6 : n3 ≤ 1200) (f7 : 0 ≤ n3) (f8 : n4 = 285) (f9 : n5 ≤ 1200) (f10 : 0 ≤ n5) (f11 : n6 ≤ 1200) (f12 : 0 ≤ n6) (f13 : n7 = 285) (f14 : (hLe T0 H0 H1 ∧ hFr s_238.2.2.2.2 H0 H1 ∧ hWt T0 H1) ∧ (Ab_238_5 n7 n6 n5 n4 n3 n2 n1 n0 H0 H1 ∧ preb_238 n7 n6 n5 H0) ∧ some q0 = some (mub_238_5 n7 n6 n5 n4 n3 n2 n1 n0 H0 H1)) (f15 : n0 < n2) (f16 : n8 = 320) (f17 : n8 = hV H1 (n4).toNat 52) (f18 : n9 ≤ 5) (f19 : 0 ≤ n9) (f20 : n9 = hV H1 (n8).toNat (n0).toNat) (f21 : n10 = 2) (f22 : n10 ≤ n9) (f23 : n11 = w32 (n1 + (-1))) (f24 : n12 = 324) (f25 : n12 = hV H1 (n4).toNat 57) (f26 : n13 = 1) (f27 : n14 = w32 (n11 - n13)) (f28 : n15 ≤ 2147483647) (f29 : (-2147483648) ≤ n15) (f30 : n15 = hV H1 (n12).toNat (n14).toNat) (f31 : n16 = 324) (f32 : n16 = hV H1 (n4).toNat 57) (f33 : n17 ≤ 2147483647) (f34 : (-2147483648) ≤ n17) (f35 : n17 = hV H1 (n16).toNat (n11).toNat) (f36 : n18 = 5) (f37 : n9 ≠ n18) (f38 : n19 = 324) (f39 : n19 = hV H1 (n4).toNat 57) (f40 : n20 = 1) (f41 : n21 = w32 (n11 - n20)) (f42 : n22 = 2) (f43 : n9 = n22) (f44 : n23 = w32 (n15 + n17)) (f45 : hUpd H2 H1 n19 n21 n23) (f46 : n24 = w32 (n0 + 1)) : Ab_238_5 n7 n6 n5 n4 n3 n2 n11 n24 H0 H2 ∧ ∀ q, some q0 = some q → mub_238_5 n7 n6 n5 n4 n3 n2 n11 n24 H0 H2 < q := by
  have g4 := f14.2.1.1
  unfold Ab_238_5 at g4
  have g3 := f14.2.1.2
  unfold preb_238 at g3
  have g5 := Option.some.inj f14.2.2
  unfold mub_238_5 at g5
  unfold Ab_238_5
  unfold mub_238_5
  have e0 : hV H1 320 = hV H0 320 := fRow f14.1.2.1 320 kR_238_320
  have e1 : n9 = hV H0 320 (n0).toNat := (by rw [f16] at f20; exact f20 : n9 = hV H1 320 (n0).toNat).trans ((congrFun e0 _))
  have e2 : n15 = hV H1 324 (n14).toNat := (by rw [f24] at f30; exact f30 : n15 = hV H1 324 (n14).toNat)
  have e3 : n17 = hV H1 324 (n11).toNat := (by rw [f31] at f35; exact f35 : n17 = hV H1 324 (n11).toNat)
  have e5 : hV H2 320 = hV H0 320 := (uRowNe f45 320 (iS (show n19 = ((324 : Nat) : Int) from f38) rfl)).trans e0
  try simp only [e5]
  have k0 := g4.1
  have k1 := g4.2.1
  have y0 := g4.2.2.1
  have y1 := g4.2.2.2.1
  have y2 := g4.2.2.2.2
  have p0 := g3.1
  have p1 := g3.2
  try simp only [e0] at y0
  clear g3
  clear g4
  clear f17 f20 f25 f30 f32 f35 f39 e0 e5
  clear f14
  subst e1
  subst e2
  subst e3
  try have cg := CG_at p0 (by omega) (by omega) (c := n0) (by omega)
  first
  | (have ix0 : n11 = n1 + -1 := Eq.trans f23 (w32_iv (Iad (Iat f3 f2) (IC (-1))) (by decide)); subst ix0; clear f23)
  | (have ix0 : n11 = n1 + -1 := Eq.trans f23 (w32_id (by omega) (by omega)); subst ix0; clear f23)
  | (unfold w32 at f23; have ix0 : n11 = n1 + -1 := (by omega); subst ix0)
  | skip
  first
  | (have ix1 : n14 = (n1 + -1) - 1 := Eq.trans f27 (w32_iv (Isu (Iad (Iat f3 f2) (IC (-1))) (IC 1)) (by decide)); subst ix1; clear f27)
  | (have ix1 : n14 = (n1 + -1) - 1 := Eq.trans f27 (w32_id (by omega) (by omega)); subst ix1; clear f27)
  | (unfold w32 at f27; have ix1 : n14 = (n1 + -1) - 1 := (by omega); subst ix1)
  | skip
  first
  | (have ix2 : n21 = (n1 + -1) - 1 := Eq.trans f41 (w32_iv (Isu (Iad (Iat f3 f2) (IC (-1))) (IC 1)) (by decide)); subst ix2; clear f41)
  | (have ix2 : n21 = (n1 + -1) - 1 := Eq.trans f41 (w32_id (by omega) (by omega)); subst ix2; clear f41)
  | (unfold w32 at f41; have ix2 : n21 = (n1 + -1) - 1 := (by omega); subst ix2)
  | skip
  first
  | (have ix3 : n23 = hV H1 324 (((n1 + -1) - 1)).toNat + hV H1 324 ((n1 + -1)).toNat := Eq.trans f44 (w32_id (by omega) (by omega)); subst ix3; clear f44)
  | (unfold w32 at f44; have ix3 : n23 = hV H1 324 (((n1 + -1) - 1)).toNat + hV H1 324 ((n1 + -1)).toNat := (by omega); subst ix3)
  | skip
  first
  | (have ix4 : n24 = n0 + 1 := Eq.trans f46 (w32_iv (Iad (Iat f1 f0) (IC 1)) (by decide)); subst ix4; clear f46)
  | (have ix4 : n24 = n0 + 1 := Eq.trans f46 (w32_id (by omega) (by omega)); subst ix4; clear f46)
  | (unfold w32 at f46; have ix4 : n24 = n0 + 1 := (by omega); subst ix4)
  | skip
  try unfold w32 at f23
  try unfold w32 at f27
  try unfold w32 at f41
  try unfold w32 at f44
  try unfold w32 at f46
  try subst k1
  try subst k0
  subst y0
  refine ⟨?_, fun q hq => ?_⟩
  · refine ⟨?_, ?_, ?_, ?_, ?_⟩ <;> first | assumption | omega | trivial
  · have g6 := Option.some.inj hq
    subst g6
    omega
def g_238_5_27 : vG := ([(10, [24, 7], [], 1), (80, [19, 21, 23], [2, 1], 0), (1, [23, 15, 17], [], 0), (40, [9, 22], [], 0), (0, [22], [], 2), (2, [21, 11, 20], [], 0), (0, [20], [], 1), (20, [19, 3], [1], 57), (0, [19], [], 324), (41, [9, 18], [], 0), (0, [18], [], 5), (22, [17, 16, 11], [1], 0), (90, [17], [], -2147483648), (91, [17], [], 2147483647), (20, [16, 3], [1], 57), (0, [16], [], 324), (22, [15, 12, 14], [1], 0), (90, [15], [], -2147483648), (91, [15], [], 2147483647), (2, [14, 11, 13], [], 0), (0, [13], [], 1), (20, [12, 3], [1], 57), (0, [12], [], 324), (10, [11, 6], [], -1), (43, [9, 10], [], 0), (0, [10], [], 2), (22, [9, 8, 7], [1], 0), (90, [9], [], 0), (91, [9], [], 5), (20, [8, 3], [1], 52), (0, [8], [], 320), (42, [7, 5], [], 0), (5000, [0, 1, 2, 3, 4, 5, 6, 7], [0, 1], 5), (0, [0], [], 285), (90, [1], [], 0), (91, [1], [], 1200), (90, [2], [], 0), (91, [2], [], 1200), (0, [3], [], 285), (90, [4], [], 0), (91, [4], [], 1200), (90, [5], [], 0), (91, [5], [], 1200), (90, [6], [], 0), (91, [6], [], 500), (90, [7], [], 0), (91, [7], [], 1200)], (4000, [3, 4, 5, 11, 24], [2], 5))
theorem c_238_5_27 {q0 : Nat} : vOkm T0 (eP e_238 L_238 A_238 mu_238 (some q0)) 3 g_238_5_27 := vOk_inI fun ρ η f0 f1 f2 f3 f4 f5 f6 f7 f8 f9 f10 f11 f12 f13 f14 f15 f16 f17 f18 f19 f20 f21 f22 f23 f24 f25 f26 f27 f28 f29 f30 f31 f32 f33 f34 f35 f36 f37 f38 f39 f40 f41 f42 f43 f44 f45 f46 => q_238_28 (q0 := q0) (n0 := ρ 7) (n1 := ρ 6) (n2 := ρ 5) (n3 := ρ 4) (n4 := ρ 3) (n5 := ρ 2) (n6 := ρ 1) (n7 := ρ 0) (n8 := ρ 8) (n9 := ρ 9) (n10 := ρ 10) (n11 := ρ 11) (n12 := ρ 12) (n13 := ρ 13) (n14 := ρ 14) (n15 := ρ 15) (n16 := ρ 16) (n17 := ρ 17) (n18 := ρ 18) (n19 := ρ 19) (n20 := ρ 20) (n21 := ρ 21) (n22 := ρ 22) (n23 := ρ 23) (n24 := ρ 24) (H0 := η 0) (H1 := η 1) (H2 := η 2) f46 f45 f44 f43 f42 f41 f40 f39 f38 f37 f36 f35 f34 f33 f32 f31 f30 f29 f28 f27 f26 f25 f24 f23 f22 f21 f20 f19 f18 f17 f16 f15 f14 f13 f12 f11 f10 f9 f8 f7 f6 f5 f4 f3 f2 f1 f0
theorem q_238_29 {q0 : Nat} {n0 n1 n2 n3 n4 n5 n6 n7 n8 n9 n10 n11 n12 n13 n14 n15 n16 n17 n18 n19 : Int} {H0 H1 : gH} (f0 : n0 ≤ 1200) (f1 : 0 ≤ n0) (f2 : n1 ≤ 500) (f3 : 0 ≤ n1) (f4 : n2 ≤ 1200) (f5 : 0 ≤ n2) (f6 : n3 ≤ 1200) (f7 : 0 ≤ n3) (f8 : n4 = 285) (f9 : n5 ≤ 1200) (f10 : 0 ≤ n5) (f11 : n6 ≤ 1200) (f12 : 0 ≤ n6) (f13 : n7 = 285) (f14 : (hLe T0 H0 H1 ∧ hFr s_238.2.2.2.2 H0 H1 ∧ hWt T0 H1) ∧ (Ab_238_5 n7 n6 n5 n4 n3 n2 n1 n0 H0 H1 ∧ preb_238 n7 n6 n5 H0) ∧ some q0 = some (mub_238_5 n7 n6 n5 n4 n3 n2 n1 n0 H0 H1)) (f15 : n0 < n2) (f16 : n8 = 320) (f17 : n8 = hV H1 (n4).toNat 52) (f18 : n9 ≤ 5) (f19 : 0 ≤ n9) (f20 : n9 = hV H1 (n8).toNat (n0).toNat) (f21 : n10 = 2) (f22 : n10 ≤ n9) (f23 : n11 = w32 (n1 + (-1))) (f24 : n12 = 1) (f25 : n13 = w32 (n11 - n12)) (f26 : n14 = 5) (f27 : n9 = n14) (f28 : n15 = 1) (f29 : n16 = w32 (n11 - n15)) (f30 : n17 = 2) (f31 : n9 ≠ n17) (f32 : n18 = 3) (f33 : n9 ≠ n18) (f34 : n19 = 4) (f35 : n9 ≠ n19) : 0 ≤ n16 ∧ n16 < 500 := by
  have g4 := f14.2.1.1
  unfold Ab_238_5 at g4
  have g3 := f14.2.1.2
  unfold preb_238 at g3
  have e0 : hV H1 320 = hV H0 320 := fRow f14.1.2.1 320 kR_238_320
  have e1 : n9 = hV H0 320 (n0).toNat := (by rw [f16] at f20; exact f20 : n9 = hV H1 320 (n0).toNat).trans ((congrFun e0 _))
  have k0 := g4.1
  have k1 := g4.2.1
  have y0 := g4.2.2.1
  have y1 := g4.2.2.2.1
  have y2 := g4.2.2.2.2
  have p0 := g3.1
  have p1 := g3.2
  try simp only [e0] at y0
  clear g3
  clear g4
  clear f17 f20 e0
  clear f14
  subst e1
  try have cg := CG_at p0 (by omega) (by omega) (c := n0) (by omega)
  first
  | (have ix0 : n11 = n1 + -1 := Eq.trans f23 (w32_iv (Iad (Iat f3 f2) (IC (-1))) (by decide)); subst ix0; clear f23)
  | (have ix0 : n11 = n1 + -1 := Eq.trans f23 (w32_id (by omega) (by omega)); subst ix0; clear f23)
  | (unfold w32 at f23; have ix0 : n11 = n1 + -1 := (by omega); subst ix0)
  | skip
  first
  | (have ix1 : n16 = (n1 + -1) - 1 := Eq.trans f29 (w32_iv (Isu (Iad (Iat f3 f2) (IC (-1))) (IC 1)) (by decide)); subst ix1; clear f29)
  | (have ix1 : n16 = (n1 + -1) - 1 := Eq.trans f29 (w32_id (by omega) (by omega)); subst ix1; clear f29)
  | (unfold w32 at f29; have ix1 : n16 = (n1 + -1) - 1 := (by omega); subst ix1)
  | skip
  try unfold w32 at f23
  try unfold w32 at f25
  try unfold w32 at f29
  try subst k1
  try subst k0
  subst y0
  omega
def g_238_5_28 : vG := ([(41, [9, 24], [], 0), (0, [24], [], 4), (41, [9, 23], [], 0), (0, [23], [], 3), (41, [9, 22], [], 0), (0, [22], [], 2), (2, [21, 11, 20], [], 0), (0, [20], [], 1), (40, [9, 18], [], 0), (0, [18], [], 5), (2, [14, 11, 13], [], 0), (0, [13], [], 1), (10, [11, 6], [], -1), (43, [9, 10], [], 0), (0, [10], [], 2), (22, [9, 8, 7], [1], 0), (90, [9], [], 0), (91, [9], [], 5), (20, [8, 3], [1], 52), (0, [8], [], 320), (42, [7, 5], [], 0), (5000, [0, 1, 2, 3, 4, 5, 6, 7], [0, 1], 5), (0, [0], [], 285), (90, [1], [], 0), (91, [1], [], 1200), (90, [2], [], 0), (91, [2], [], 1200), (0, [3], [], 285), (90, [4], [], 0), (91, [4], [], 1200), (90, [5], [], 0), (91, [5], [], 1200), (90, [6], [], 0), (91, [6], [], 500), (90, [7], [], 0), (91, [7], [], 1200)], (70, [21], [], 500))
theorem c_238_5_28 {q0 : Nat} : vOkm T0 (eP e_238 L_238 A_238 mu_238 (some q0)) 3 g_238_5_28 := vOk_inI fun ρ η f0 f1 f2 f3 f4 f5 f6 f7 f8 f9 f10 f11 f12 f13 f14 f15 f16 f17 f18 f19 f20 f21 f22 f23 f24 f25 f26 f27 f28 f29 f30 f31 f32 f33 f34 f35 => q_238_29 (q0 := q0) (n0 := ρ 7) (n1 := ρ 6) (n2 := ρ 5) (n3 := ρ 4) (n4 := ρ 3) (n5 := ρ 2) (n6 := ρ 1) (n7 := ρ 0) (n8 := ρ 8) (n9 := ρ 9) (n10 := ρ 10) (n11 := ρ 11) (n12 := ρ 13) (n13 := ρ 14) (n14 := ρ 18) (n15 := ρ 20) (n16 := ρ 21) (n17 := ρ 22) (n18 := ρ 23) (n19 := ρ 24) (H0 := η 0) (H1 := η 1) f35 f34 f33 f32 f31 f30 f29 f28 f27 f26 f25 f24 f23 f22 f21 f20 f19 f18 f17 f16 f15 f14 f13 f12 f11 f10 f9 f8 f7 f6 f5 f4 f3 f2 f1 f0
theorem q_238_30 {q0 : Nat} {n0 n1 n2 n3 n4 n5 n6 n7 n8 n9 n10 n11 n12 n13 n14 n15 n16 n17 n18 n19 n20 : Int} {H0 H1 : gH} (f0 : n0 ≤ 1200) (f1 : 0 ≤ n0) (f2 : n1 ≤ 500) (f3 : 0 ≤ n1) (f4 : n2 ≤ 1200) (f5 : 0 ≤ n2) (f6 : n3 ≤ 1200) (f7 : 0 ≤ n3) (f8 : n4 = 285) (f9 : n5 ≤ 1200) (f10 : 0 ≤ n5) (f11 : n6 ≤ 1200) (f12 : 0 ≤ n6) (f13 : n7 = 285) (f14 : (hLe T0 H0 H1 ∧ hFr s_238.2.2.2.2 H0 H1 ∧ hWt T0 H1) ∧ (Ab_238_5 n7 n6 n5 n4 n3 n2 n1 n0 H0 H1 ∧ preb_238 n7 n6 n5 H0) ∧ some q0 = some (mub_238_5 n7 n6 n5 n4 n3 n2 n1 n0 H0 H1)) (f15 : n0 < n2) (f16 : n8 = 320) (f17 : n8 = hV H1 (n4).toNat 52) (f18 : n9 ≤ 5) (f19 : 0 ≤ n9) (f20 : n9 = hV H1 (n8).toNat (n0).toNat) (f21 : n10 = 2) (f22 : n10 ≤ n9) (f23 : n11 = w32 (n1 + (-1))) (f24 : n12 = 1) (f25 : n13 = w32 (n11 - n12)) (f26 : n14 = 5) (f27 : n9 = n14) (f28 : n15 = 1) (f29 : n16 = w32 (n11 - n15)) (f30 : n17 = 2) (f31 : n9 ≠ n17) (f32 : n18 = 3) (f33 : n9 ≠ n18) (f34 : n19 = 4) (f35 : n9 ≠ n19) (f36 : n20 = w32 (n0 + 1)) : 0 ≤ n11 := by
  have g4 := f14.2.1.1
  unfold Ab_238_5 at g4
  have g3 := f14.2.1.2
  unfold preb_238 at g3
  have e0 : hV H1 320 = hV H0 320 := fRow f14.1.2.1 320 kR_238_320
  have e1 : n9 = hV H0 320 (n0).toNat := (by rw [f16] at f20; exact f20 : n9 = hV H1 320 (n0).toNat).trans ((congrFun e0 _))
  have k0 := g4.1
  have k1 := g4.2.1
  have y0 := g4.2.2.1
  have y1 := g4.2.2.2.1
  have y2 := g4.2.2.2.2
  have p0 := g3.1
  have p1 := g3.2
  try simp only [e0] at y0
  clear g3
  clear g4
  clear f17 f20 e0
  clear f14
  subst e1
  try have cg := CG_at p0 (by omega) (by omega) (c := n0) (by omega)
  first
  | (have ix0 : n11 = n1 + -1 := Eq.trans f23 (w32_iv (Iad (Iat f3 f2) (IC (-1))) (by decide)); subst ix0; clear f23)
  | (have ix0 : n11 = n1 + -1 := Eq.trans f23 (w32_id (by omega) (by omega)); subst ix0; clear f23)
  | (unfold w32 at f23; have ix0 : n11 = n1 + -1 := (by omega); subst ix0)
  | skip
  try unfold w32 at f23
  try unfold w32 at f25
  try unfold w32 at f29
  try unfold w32 at f36
  try subst k1
  try subst k0
  subst y0
  omega
def g_238_5_29 : vG := ([(10, [26, 7], [], 1), (41, [9, 24], [], 0), (0, [24], [], 4), (41, [9, 23], [], 0), (0, [23], [], 3), (41, [9, 22], [], 0), (0, [22], [], 2), (2, [21, 11, 20], [], 0), (0, [20], [], 1), (40, [9, 18], [], 0), (0, [18], [], 5), (2, [14, 11, 13], [], 0), (0, [13], [], 1), (10, [11, 6], [], -1), (43, [9, 10], [], 0), (0, [10], [], 2), (22, [9, 8, 7], [1], 0), (90, [9], [], 0), (91, [9], [], 5), (20, [8, 3], [1], 52), (0, [8], [], 320), (42, [7, 5], [], 0), (5000, [0, 1, 2, 3, 4, 5, 6, 7], [0, 1], 5), (0, [0], [], 285), (90, [1], [], 0), (91, [1], [], 1200), (90, [2], [], 0), (91, [2], [], 1200), (0, [3], [], 285), (90, [4], [], 0), (91, [4], [], 1200), (90, [5], [], 0), (91, [5], [], 1200), (90, [6], [], 0), (91, [6], [], 500), (90, [7], [], 0), (91, [7], [], 1200)], (90, [11], [], 0))
theorem c_238_5_29 {q0 : Nat} : vOkm T0 (eP e_238 L_238 A_238 mu_238 (some q0)) 3 g_238_5_29 := vOk_inI fun ρ η f0 f1 f2 f3 f4 f5 f6 f7 f8 f9 f10 f11 f12 f13 f14 f15 f16 f17 f18 f19 f20 f21 f22 f23 f24 f25 f26 f27 f28 f29 f30 f31 f32 f33 f34 f35 f36 => q_238_30 (q0 := q0) (n0 := ρ 7) (n1 := ρ 6) (n2 := ρ 5) (n3 := ρ 4) (n4 := ρ 3) (n5 := ρ 2) (n6 := ρ 1) (n7 := ρ 0) (n8 := ρ 8) (n9 := ρ 9) (n10 := ρ 10) (n11 := ρ 11) (n12 := ρ 13) (n13 := ρ 14) (n14 := ρ 18) (n15 := ρ 20) (n16 := ρ 21) (n17 := ρ 22) (n18 := ρ 23) (n19 := ρ 24) (n20 := ρ 26) (H0 := η 0) (H1 := η 1) f36 f35 f34 f33 f32 f31 f30 f29 f28 f27 f26 f25 f24 f23 f22 f21 f20 f19 f18 f17 f16 f15 f14 f13 f12 f11 f10 f9 f8 f7 f6 f5 f4 f3 f2 f1 f0
theorem q_238_31 {q0 : Nat} {n0 n1 n2 n3 n4 n5 n6 n7 n8 n9 n10 n11 n12 n13 n14 n15 n16 n17 n18 n19 n20 : Int} {H0 H1 : gH} (f0 : n0 ≤ 1200) (f1 : 0 ≤ n0) (f2 : n1 ≤ 500) (f3 : 0 ≤ n1) (f4 : n2 ≤ 1200) (f5 : 0 ≤ n2) (f6 : n3 ≤ 1200) (f7 : 0 ≤ n3) (f8 : n4 = 285) (f9 : n5 ≤ 1200) (f10 : 0 ≤ n5) (f11 : n6 ≤ 1200) (f12 : 0 ≤ n6) (f13 : n7 = 285) (f14 : (hLe T0 H0 H1 ∧ hFr s_238.2.2.2.2 H0 H1 ∧ hWt T0 H1) ∧ (Ab_238_5 n7 n6 n5 n4 n3 n2 n1 n0 H0 H1 ∧ preb_238 n7 n6 n5 H0) ∧ some q0 = some (mub_238_5 n7 n6 n5 n4 n3 n2 n1 n0 H0 H1)) (f15 : n0 < n2) (f16 : n8 = 320) (f17 : n8 = hV H1 (n4).toNat 52) (f18 : n9 ≤ 5) (f19 : 0 ≤ n9) (f20 : n9 = hV H1 (n8).toNat (n0).toNat) (f21 : n10 = 2) (f22 : n10 ≤ n9) (f23 : n11 = w32 (n1 + (-1))) (f24 : n12 = 1) (f25 : n13 = w32 (n11 - n12)) (f26 : n14 = 5) (f27 : n9 = n14) (f28 : n15 = 1) (f29 : n16 = w32 (n11 - n15)) (f30 : n17 = 2) (f31 : n9 ≠ n17) (f32 : n18 = 3) (f33 : n9 ≠ n18) (f34 : n19 = 4) (f35 : n9 ≠ n19) (f36 : n20 = w32 (n0 + 1)) : n11 ≤ 500 := by
  have g4 := f14.2.1.1
  unfold Ab_238_5 at g4
  have g3 := f14.2.1.2
  unfold preb_238 at g3
  have e0 : hV H1 320 = hV H0 320 := fRow f14.1.2.1 320 kR_238_320
  have e1 : n9 = hV H0 320 (n0).toNat := (by rw [f16] at f20; exact f20 : n9 = hV H1 320 (n0).toNat).trans ((congrFun e0 _))
  have k0 := g4.1
  have k1 := g4.2.1
  have y0 := g4.2.2.1
  have y1 := g4.2.2.2.1
  have y2 := g4.2.2.2.2
  have p0 := g3.1
  have p1 := g3.2
  try simp only [e0] at y0
  clear g3
  clear g4
  clear f17 f20 e0
  clear f14
  subst e1
  try have cg := CG_at p0 (by omega) (by omega) (c := n0) (by omega)
  first
  | (have ix0 : n11 = n1 + -1 := Eq.trans f23 (w32_iv (Iad (Iat f3 f2) (IC (-1))) (by decide)); subst ix0; clear f23)
  | (have ix0 : n11 = n1 + -1 := Eq.trans f23 (w32_id (by omega) (by omega)); subst ix0; clear f23)
  | (unfold w32 at f23; have ix0 : n11 = n1 + -1 := (by omega); subst ix0)
  | skip
  try unfold w32 at f23
  try unfold w32 at f25
  try unfold w32 at f29
  try unfold w32 at f36
  try subst k1
  try subst k0
  subst y0
  omega
def g_238_5_30 : vG := ([(10, [26, 7], [], 1), (41, [9, 24], [], 0), (0, [24], [], 4), (41, [9, 23], [], 0), (0, [23], [], 3), (41, [9, 22], [], 0), (0, [22], [], 2), (2, [21, 11, 20], [], 0), (0, [20], [], 1), (40, [9, 18], [], 0), (0, [18], [], 5), (2, [14, 11, 13], [], 0), (0, [13], [], 1), (10, [11, 6], [], -1), (43, [9, 10], [], 0), (0, [10], [], 2), (22, [9, 8, 7], [1], 0), (90, [9], [], 0), (91, [9], [], 5), (20, [8, 3], [1], 52), (0, [8], [], 320), (42, [7, 5], [], 0), (5000, [0, 1, 2, 3, 4, 5, 6, 7], [0, 1], 5), (0, [0], [], 285), (90, [1], [], 0), (91, [1], [], 1200), (90, [2], [], 0), (91, [2], [], 1200), (0, [3], [], 285), (90, [4], [], 0), (91, [4], [], 1200), (90, [5], [], 0), (91, [5], [], 1200), (90, [6], [], 0), (91, [6], [], 500), (90, [7], [], 0), (91, [7], [], 1200)], (91, [11], [], 500))
theorem c_238_5_30 {q0 : Nat} : vOkm T0 (eP e_238 L_238 A_238 mu_238 (some q0)) 3 g_238_5_30 := vOk_inI fun ρ η f0 f1 f2 f3 f4 f5 f6 f7 f8 f9 f10 f11 f12 f13 f14 f15 f16 f17 f18 f19 f20 f21 f22 f23 f24 f25 f26 f27 f28 f29 f30 f31 f32 f33 f34 f35 f36 => q_238_31 (q0 := q0) (n0 := ρ 7) (n1 := ρ 6) (n2 := ρ 5) (n3 := ρ 4) (n4 := ρ 3) (n5 := ρ 2) (n6 := ρ 1) (n7 := ρ 0) (n8 := ρ 8) (n9 := ρ 9) (n10 := ρ 10) (n11 := ρ 11) (n12 := ρ 13) (n13 := ρ 14) (n14 := ρ 18) (n15 := ρ 20) (n16 := ρ 21) (n17 := ρ 22) (n18 := ρ 23) (n19 := ρ 24) (n20 := ρ 26) (H0 := η 0) (H1 := η 1) f36 f35 f34 f33 f32 f31 f30 f29 f28 f27 f26 f25 f24 f23 f22 f21 f20 f19 f18 f17 f16 f15 f14 f13 f12 f11 f10 f9 f8 f7 f6 f5 f4 f3 f2 f1 f0
theorem q_238_32 {q0 : Nat} {n0 n1 n2 n3 n4 n5 n6 n7 n8 n9 n10 n11 n12 n13 n14 n15 n16 n17 n18 n19 n20 : Int} {H0 H1 : gH} (f0 : n0 ≤ 1200) (f1 : 0 ≤ n0) (f2 : n1 ≤ 500) (f3 : 0 ≤ n1) (f4 : n2 ≤ 1200) (f5 : 0 ≤ n2) (f6 : n3 ≤ 1200) (f7 : 0 ≤ n3) (f8 : n4 = 285) (f9 : n5 ≤ 1200) (f10 : 0 ≤ n5) (f11 : n6 ≤ 1200) (f12 : 0 ≤ n6) (f13 : n7 = 285) (f14 : (hLe T0 H0 H1 ∧ hFr s_238.2.2.2.2 H0 H1 ∧ hWt T0 H1) ∧ (Ab_238_5 n7 n6 n5 n4 n3 n2 n1 n0 H0 H1 ∧ preb_238 n7 n6 n5 H0) ∧ some q0 = some (mub_238_5 n7 n6 n5 n4 n3 n2 n1 n0 H0 H1)) (f15 : n0 < n2) (f16 : n8 = 320) (f17 : n8 = hV H1 (n4).toNat 52) (f18 : n9 ≤ 5) (f19 : 0 ≤ n9) (f20 : n9 = hV H1 (n8).toNat (n0).toNat) (f21 : n10 = 2) (f22 : n10 ≤ n9) (f23 : n11 = w32 (n1 + (-1))) (f24 : n12 = 1) (f25 : n13 = w32 (n11 - n12)) (f26 : n14 = 5) (f27 : n9 = n14) (f28 : n15 = 1) (f29 : n16 = w32 (n11 - n15)) (f30 : n17 = 2) (f31 : n9 ≠ n17) (f32 : n18 = 3) (f33 : n9 ≠ n18) (f34 : n19 = 4) (f35 : n9 ≠ n19) (f36 : n20 = w32 (n0 + 1)) : 0 ≤ n20 := by
  have g4 := f14.2.1.1
  unfold Ab_238_5 at g4
  have g3 := f14.2.1.2
  unfold preb_238 at g3
  have e0 : hV H1 320 = hV H0 320 := fRow f14.1.2.1 320 kR_238_320
  have e1 : n9 = hV H0 320 (n0).toNat := (by rw [f16] at f20; exact f20 : n9 = hV H1 320 (n0).toNat).trans ((congrFun e0 _))
  have k0 := g4.1
  have k1 := g4.2.1
  have y0 := g4.2.2.1
  have y1 := g4.2.2.2.1
  have y2 := g4.2.2.2.2
  have p0 := g3.1
  have p1 := g3.2
  try simp only [e0] at y0
  clear g3
  clear g4
  clear f17 f20 e0
  clear f14
  subst e1
  try have cg := CG_at p0 (by omega) (by omega) (c := n0) (by omega)
  first
  | (have ix0 : n20 = n0 + 1 := Eq.trans f36 (w32_iv (Iad (Iat f1 f0) (IC 1)) (by decide)); subst ix0; clear f36)
  | (have ix0 : n20 = n0 + 1 := Eq.trans f36 (w32_id (by omega) (by omega)); subst ix0; clear f36)
  | (unfold w32 at f36; have ix0 : n20 = n0 + 1 := (by omega); subst ix0)
  | skip
  try unfold w32 at f23
  try unfold w32 at f25
  try unfold w32 at f29
  try unfold w32 at f36
  try subst k1
  try subst k0
  subst y0
  omega
def g_238_5_31 : vG := ([(10, [26, 7], [], 1), (41, [9, 24], [], 0), (0, [24], [], 4), (41, [9, 23], [], 0), (0, [23], [], 3), (41, [9, 22], [], 0), (0, [22], [], 2), (2, [21, 11, 20], [], 0), (0, [20], [], 1), (40, [9, 18], [], 0), (0, [18], [], 5), (2, [14, 11, 13], [], 0), (0, [13], [], 1), (10, [11, 6], [], -1), (43, [9, 10], [], 0), (0, [10], [], 2), (22, [9, 8, 7], [1], 0), (90, [9], [], 0), (91, [9], [], 5), (20, [8, 3], [1], 52), (0, [8], [], 320), (42, [7, 5], [], 0), (5000, [0, 1, 2, 3, 4, 5, 6, 7], [0, 1], 5), (0, [0], [], 285), (90, [1], [], 0), (91, [1], [], 1200), (90, [2], [], 0), (91, [2], [], 1200), (0, [3], [], 285), (90, [4], [], 0), (91, [4], [], 1200), (90, [5], [], 0), (91, [5], [], 1200), (90, [6], [], 0), (91, [6], [], 500), (90, [7], [], 0), (91, [7], [], 1200)], (90, [26], [], 0))
theorem c_238_5_31 {q0 : Nat} : vOkm T0 (eP e_238 L_238 A_238 mu_238 (some q0)) 3 g_238_5_31 := vOk_inI fun ρ η f0 f1 f2 f3 f4 f5 f6 f7 f8 f9 f10 f11 f12 f13 f14 f15 f16 f17 f18 f19 f20 f21 f22 f23 f24 f25 f26 f27 f28 f29 f30 f31 f32 f33 f34 f35 f36 => q_238_32 (q0 := q0) (n0 := ρ 7) (n1 := ρ 6) (n2 := ρ 5) (n3 := ρ 4) (n4 := ρ 3) (n5 := ρ 2) (n6 := ρ 1) (n7 := ρ 0) (n8 := ρ 8) (n9 := ρ 9) (n10 := ρ 10) (n11 := ρ 11) (n12 := ρ 13) (n13 := ρ 14) (n14 := ρ 18) (n15 := ρ 20) (n16 := ρ 21) (n17 := ρ 22) (n18 := ρ 23) (n19 := ρ 24) (n20 := ρ 26) (H0 := η 0) (H1 := η 1) f36 f35 f34 f33 f32 f31 f30 f29 f28 f27 f26 f25 f24 f23 f22 f21 f20 f19 f18 f17 f16 f15 f14 f13 f12 f11 f10 f9 f8 f7 f6 f5 f4 f3 f2 f1 f0
theorem q_238_33 {q0 : Nat} {n0 n1 n2 n3 n4 n5 n6 n7 n8 n9 n10 n11 n12 n13 n14 n15 n16 n17 n18 n19 n20 : Int} {H0 H1 : gH} (f0 : n0 ≤ 1200) (f1 : 0 ≤ n0) (f2 : n1 ≤ 500) (f3 : 0 ≤ n1) (f4 : n2 ≤ 1200) (f5 : 0 ≤ n2) (f6 : n3 ≤ 1200) (f7 : 0 ≤ n3) (f8 : n4 = 285) (f9 : n5 ≤ 1200) (f10 : 0 ≤ n5) (f11 : n6 ≤ 1200) (f12 : 0 ≤ n6) (f13 : n7 = 285) (f14 : (hLe T0 H0 H1 ∧ hFr s_238.2.2.2.2 H0 H1 ∧ hWt T0 H1) ∧ (Ab_238_5 n7 n6 n5 n4 n3 n2 n1 n0 H0 H1 ∧ preb_238 n7 n6 n5 H0) ∧ some q0 = some (mub_238_5 n7 n6 n5 n4 n3 n2 n1 n0 H0 H1)) (f15 : n0 < n2) (f16 : n8 = 320) (f17 : n8 = hV H1 (n4).toNat 52) (f18 : n9 ≤ 5) (f19 : 0 ≤ n9) (f20 : n9 = hV H1 (n8).toNat (n0).toNat) (f21 : n10 = 2) (f22 : n10 ≤ n9) (f23 : n11 = w32 (n1 + (-1))) (f24 : n12 = 1) (f25 : n13 = w32 (n11 - n12)) (f26 : n14 = 5) (f27 : n9 = n14) (f28 : n15 = 1) (f29 : n16 = w32 (n11 - n15)) (f30 : n17 = 2) (f31 : n9 ≠ n17) (f32 : n18 = 3) (f33 : n9 ≠ n18) (f34 : n19 = 4) (f35 : n9 ≠ n19) (f36 : n20 = w32 (n0 + 1)) : n20 ≤ 1200 := by
  have g4 := f14.2.1.1
  unfold Ab_238_5 at g4
  have g3 := f14.2.1.2
  unfold preb_238 at g3
  have e0 : hV H1 320 = hV H0 320 := fRow f14.1.2.1 320 kR_238_320
  have e1 : n9 = hV H0 320 (n0).toNat := (by rw [f16] at f20; exact f20 : n9 = hV H1 320 (n0).toNat).trans ((congrFun e0 _))
  have k0 := g4.1
  have k1 := g4.2.1
  have y0 := g4.2.2.1
  have y1 := g4.2.2.2.1
  have y2 := g4.2.2.2.2
  have p0 := g3.1
  have p1 := g3.2
  try simp only [e0] at y0
  clear g3
  clear g4
  clear f17 f20 e0
  clear f14
  subst e1
  try have cg := CG_at p0 (by omega) (by omega) (c := n0) (by omega)
  first
  | (have ix0 : n20 = n0 + 1 := Eq.trans f36 (w32_iv (Iad (Iat f1 f0) (IC 1)) (by decide)); subst ix0; clear f36)
  | (have ix0 : n20 = n0 + 1 := Eq.trans f36 (w32_id (by omega) (by omega)); subst ix0; clear f36)
  | (unfold w32 at f36; have ix0 : n20 = n0 + 1 := (by omega); subst ix0)
  | skip
  try unfold w32 at f23
  try unfold w32 at f25
  try unfold w32 at f29
  try unfold w32 at f36
  try subst k1
  try subst k0
  subst y0
  omega
def g_238_5_32 : vG := ([(10, [26, 7], [], 1), (41, [9, 24], [], 0), (0, [24], [], 4), (41, [9, 23], [], 0), (0, [23], [], 3), (41, [9, 22], [], 0), (0, [22], [], 2), (2, [21, 11, 20], [], 0), (0, [20], [], 1), (40, [9, 18], [], 0), (0, [18], [], 5), (2, [14, 11, 13], [], 0), (0, [13], [], 1), (10, [11, 6], [], -1), (43, [9, 10], [], 0), (0, [10], [], 2), (22, [9, 8, 7], [1], 0), (90, [9], [], 0), (91, [9], [], 5), (20, [8, 3], [1], 52), (0, [8], [], 320), (42, [7, 5], [], 0), (5000, [0, 1, 2, 3, 4, 5, 6, 7], [0, 1], 5), (0, [0], [], 285), (90, [1], [], 0), (91, [1], [], 1200), (90, [2], [], 0), (91, [2], [], 1200), (0, [3], [], 285), (90, [4], [], 0), (91, [4], [], 1200), (90, [5], [], 0), (91, [5], [], 1200), (90, [6], [], 0), (91, [6], [], 500), (90, [7], [], 0), (91, [7], [], 1200)], (91, [26], [], 1200))
theorem c_238_5_32 {q0 : Nat} : vOkm T0 (eP e_238 L_238 A_238 mu_238 (some q0)) 3 g_238_5_32 := vOk_inI fun ρ η f0 f1 f2 f3 f4 f5 f6 f7 f8 f9 f10 f11 f12 f13 f14 f15 f16 f17 f18 f19 f20 f21 f22 f23 f24 f25 f26 f27 f28 f29 f30 f31 f32 f33 f34 f35 f36 => q_238_33 (q0 := q0) (n0 := ρ 7) (n1 := ρ 6) (n2 := ρ 5) (n3 := ρ 4) (n4 := ρ 3) (n5 := ρ 2) (n6 := ρ 1) (n7 := ρ 0) (n8 := ρ 8) (n9 := ρ 9) (n10 := ρ 10) (n11 := ρ 11) (n12 := ρ 13) (n13 := ρ 14) (n14 := ρ 18) (n15 := ρ 20) (n16 := ρ 21) (n17 := ρ 22) (n18 := ρ 23) (n19 := ρ 24) (n20 := ρ 26) (H0 := η 0) (H1 := η 1) f36 f35 f34 f33 f32 f31 f30 f29 f28 f27 f26 f25 f24 f23 f22 f21 f20 f19 f18 f17 f16 f15 f14 f13 f12 f11 f10 f9 f8 f7 f6 f5 f4 f3 f2 f1 f0
theorem q_238_34 {q0 : Nat} {n0 n1 n2 n3 n4 n5 n6 n7 n8 n9 n10 n11 n12 n13 n14 n15 n16 n17 n18 n19 n20 n21 n22 n23 n24 n25 n26 : Int} {H0 H1 H2 : gH} (f0 : n0 ≤ 1200) (f1 : 0 ≤ n0) (f2 : n1 ≤ 500) (f3 : 0 ≤ n1) (f4 : n2 ≤ 1200) (f5 : 0 ≤ n2) (f6 : n3 ≤ 1200) (f7 : 0 ≤ n3) (f8 : n4 = 285) (f9 : n5 ≤ 1200) (f10 : 0 ≤ n5) (f11 : n6 ≤ 1200) (f12 : 0 ≤ n6) (f13 : n7 = 285) (f14 : (hLe T0 H0 H1 ∧ hFr s_238.2.2.2.2 H0 H1 ∧ hWt T0 H1) ∧ (Ab_238_5 n7 n6 n5 n4 n3 n2 n1 n0 H0 H1 ∧ preb_238 n7 n6 n5 H0) ∧ some q0 = some (mub_238_5 n7 n6 n5 n4 n3 n2 n1 n0 H0 H1)) (f15 : n0 < n2) (f16 : n8 = 320) (f17 : n8 = hV H1 (n4).toNat 52) (f18 : n9 ≤ 5) (f19 : 0 ≤ n9) (f20 : n9 = hV H1 (n8).toNat (n0).toNat) (f21 : n10 = 2) (f22 : n10 ≤ n9) (f23 : n11 = w32 (n1 + (-1))) (f24 : n12 = 324) (f25 : n12 = hV H1 (n4).toNat 57) (f26 : n13 = 1) (f27 : n14 = w32 (n11 - n13)) (f28 : n15 ≤ 2147483647) (f29 : (-2147483648) ≤ n15) (f30 : n15 = hV H1 (n12).toNat (n14).toNat) (f31 : n16 = 324) (f32 : n16 = hV H1 (n4).toNat 57) (f33 : n17 ≤ 2147483647) (f34 : (-2147483648) ≤ n17) (f35 : n17 = hV H1 (n16).toNat (n11).toNat) (f36 : n18 = 5) (f37 : n9 = n18) (f38 : n17 ≠ 0) (f39 : n19 = 324) (f40 : n19 = hV H1 (n4).toNat 57) (f41 : n20 = 1) (f42 : n21 = w32 (n11 - n20)) (f43 : n22 = 2) (f44 : n9 ≠ n22) (f45 : n23 = 3) (f46 : n9 ≠ n23) (f47 : n24 = 4) (f48 : n9 ≠ n24) (f49 : n25 = o32 (fun x y => x / y) n15 n17) (f50 : hUpd H2 H1 n19 n21 n25) (f51 : n26 = w32 (n0 + 1)) : Ab_238_5 n7 n6 n5 n4 n3 n2 n11 n26 H0 H2 ∧ ∀ q, some q0 = some q → mub_238_5 n7 n6 n5 n4 n3 n2 n11 n26 H0 H2 < q := by
  have g4 := f14.2.1.1
  unfold Ab_238_5 at g4
  have g3 := f14.2.1.2
  unfold preb_238 at g3
  have g5 := Option.some.inj f14.2.2
  unfold mub_238_5 at g5
  unfold Ab_238_5
  unfold mub_238_5
  have e0 : hV H1 320 = hV H0 320 := fRow f14.1.2.1 320 kR_238_320
  have e1 : n9 = hV H0 320 (n0).toNat := (by rw [f16] at f20; exact f20 : n9 = hV H1 320 (n0).toNat).trans ((congrFun e0 _))
  have e2 : n15 = hV H1 324 (n14).toNat := (by rw [f24] at f30; exact f30 : n15 = hV H1 324 (n14).toNat)
  have e3 : n17 = hV H1 324 (n11).toNat := (by rw [f31] at f35; exact f35 : n17 = hV H1 324 (n11).toNat)
  have e5 : hV H2 320 = hV H0 320 := (uRowNe f50 320 (iS (show n19 = ((324 : Nat) : Int) from f39) rfl)).trans e0
  try simp only [e5]
  have k0 := g4.1
  have k1 := g4.2.1
  have y0 := g4.2.2.1
  have y1 := g4.2.2.2.1
  have y2 := g4.2.2.2.2
  have p0 := g3.1
  have p1 := g3.2
  try simp only [e0] at y0
  clear g3
  clear g4
  clear f17 f20 f25 f30 f32 f35 f40 e0 e5
  clear f14
  subst e1
  subst e2
  subst e3
  try have cg := CG_at p0 (by omega) (by omega) (c := n0) (by omega)
  first
  | (have ix0 : n11 = n1 + -1 := Eq.trans f23 (w32_iv (Iad (Iat f3 f2) (IC (-1))) (by decide)); subst ix0; clear f23)
  | (have ix0 : n11 = n1 + -1 := Eq.trans f23 (w32_id (by omega) (by omega)); subst ix0; clear f23)
  | (unfold w32 at f23; have ix0 : n11 = n1 + -1 := (by omega); subst ix0)
  | skip
  first
  | (have ix1 : n14 = (n1 + -1) - 1 := Eq.trans f27 (w32_iv (Isu (Iad (Iat f3 f2) (IC (-1))) (IC 1)) (by decide)); subst ix1; clear f27)
  | (have ix1 : n14 = (n1 + -1) - 1 := Eq.trans f27 (w32_id (by omega) (by omega)); subst ix1; clear f27)
  | (unfold w32 at f27; have ix1 : n14 = (n1 + -1) - 1 := (by omega); subst ix1)
  | skip
  first
  | (have ix2 : n21 = (n1 + -1) - 1 := Eq.trans f42 (w32_iv (Isu (Iad (Iat f3 f2) (IC (-1))) (IC 1)) (by decide)); subst ix2; clear f42)
  | (have ix2 : n21 = (n1 + -1) - 1 := Eq.trans f42 (w32_id (by omega) (by omega)); subst ix2; clear f42)
  | (unfold w32 at f42; have ix2 : n21 = (n1 + -1) - 1 := (by omega); subst ix2)
  | skip
  first
  | (have ix3 : n26 = n0 + 1 := Eq.trans f51 (w32_iv (Iad (Iat f1 f0) (IC 1)) (by decide)); subst ix3; clear f51)
  | (have ix3 : n26 = n0 + 1 := Eq.trans f51 (w32_id (by omega) (by omega)); subst ix3; clear f51)
  | (unfold w32 at f51; have ix3 : n26 = n0 + 1 := (by omega); subst ix3)
  | skip
  try unfold w32 at f23
  try unfold w32 at f27
  try unfold w32 at f42
  try unfold w32 at f51
  try subst k1
  try subst k0
  subst y0
  refine ⟨?_, fun q hq => ?_⟩
  · refine ⟨?_, ?_, ?_, ?_, ?_⟩ <;> first | assumption | omega | trivial
  · have g6 := Option.some.inj hq
    subst g6
    omega
def g_238_5_33 : vG := ([(10, [26, 7], [], 1), (80, [19, 21, 25], [2, 1], 0), (11, [25, 15, 17], [], 0), (41, [9, 24], [], 0), (0, [24], [], 4), (41, [9, 23], [], 0), (0, [23], [], 3), (41, [9, 22], [], 0), (0, [22], [], 2), (2, [21, 11, 20], [], 0), (0, [20], [], 1), (20, [19, 3], [1], 57), (0, [19], [], 324), (31, [17], [], 0), (40, [9, 18], [], 0), (0, [18], [], 5), (22, [17, 16, 11], [1], 0), (90, [17], [], -2147483648), (91, [17], [], 2147483647), (20, [16, 3], [1], 57), (0, [16], [], 324), (22, [15, 12, 14], [1], 0), (90, [15], [], -2147483648), (91, [15], [], 2147483647), (2, [14, 11, 13], [], 0), (0, [13], [], 1), (20, [12, 3], [1], 57), (0, [12], [], 324), (10, [11, 6], [], -1), (43, [9, 10], [], 0), (0, [10], [], 2), (22, [9, 8, 7], [1], 0), (90, [9], [], 0), (91, [9], [], 5), (20, [8, 3], [1], 52), (0, [8], [], 320), (42, [7, 5], [], 0), (5000, [0, 1, 2, 3, 4, 5, 6, 7], [0, 1], 5), (0, [0], [], 285), (90, [1], [], 0), (91, [1], [], 1200), (90, [2], [], 0), (91, [2], [], 1200), (0, [3], [], 285), (90, [4], [], 0), (91, [4], [], 1200), (90, [5], [], 0), (91, [5], [], 1200), (90, [6], [], 0), (91, [6], [], 500), (90, [7], [], 0), (91, [7], [], 1200)], (4000, [3, 4, 5, 11, 26], [2], 5))
theorem c_238_5_33 {q0 : Nat} : vOkm T0 (eP e_238 L_238 A_238 mu_238 (some q0)) 3 g_238_5_33 := vOk_inI fun ρ η f0 f1 f2 f3 f4 f5 f6 f7 f8 f9 f10 f11 f12 f13 f14 f15 f16 f17 f18 f19 f20 f21 f22 f23 f24 f25 f26 f27 f28 f29 f30 f31 f32 f33 f34 f35 f36 f37 f38 f39 f40 f41 f42 f43 f44 f45 f46 f47 f48 f49 f50 f51 => q_238_34 (q0 := q0) (n0 := ρ 7) (n1 := ρ 6) (n2 := ρ 5) (n3 := ρ 4) (n4 := ρ 3) (n5 := ρ 2) (n6 := ρ 1) (n7 := ρ 0) (n8 := ρ 8) (n9 := ρ 9) (n10 := ρ 10) (n11 := ρ 11) (n12 := ρ 12) (n13 := ρ 13) (n14 := ρ 14) (n15 := ρ 15) (n16 := ρ 16) (n17 := ρ 17) (n18 := ρ 18) (n19 := ρ 19) (n20 := ρ 20) (n21 := ρ 21) (n22 := ρ 22) (n23 := ρ 23) (n24 := ρ 24) (n25 := ρ 25) (n26 := ρ 26) (H0 := η 0) (H1 := η 1) (H2 := η 2) f51 f50 f49 f48 f47 f46 f45 f44 f43 f42 f41 f40 f39 f38 f37 f36 f35 f34 f33 f32 f31 f30 f29 f28 f27 f26 f25 f24 f23 f22 f21 f20 f19 f18 f17 f16 f15 f14 f13 f12 f11 f10 f9 f8 f7 f6 f5 f4 f3 f2 f1 f0
theorem q_238_35 {q0 : Nat} {n0 n1 n2 n3 n4 n5 n6 n7 n8 n9 n10 n11 n12 n13 n14 n15 n16 n17 n18 n19 : Int} {H0 H1 : gH} (f0 : n0 ≤ 1200) (f1 : 0 ≤ n0) (f2 : n1 ≤ 500) (f3 : 0 ≤ n1) (f4 : n2 ≤ 1200) (f5 : 0 ≤ n2) (f6 : n3 ≤ 1200) (f7 : 0 ≤ n3) (f8 : n4 = 285) (f9 : n5 ≤ 1200) (f10 : 0 ≤ n5) (f11 : n6 ≤ 1200) (f12 : 0 ≤ n6) (f13 : n7 = 285) (f14 : (hLe T0 H0 H1 ∧ hFr s_238.2.2.2.2 H0 H1 ∧ hWt T0 H1) ∧ (Ab_238_5 n7 n6 n5 n4 n3 n2 n1 n0 H0 H1 ∧ preb_238 n7 n6 n5 H0) ∧ some q0 = some (mub_238_5 n7 n6 n5 n4 n3 n2 n1 n0 H0 H1)) (f15 : n0 < n2) (f16 : n8 = 320) (f17 : n8 = hV H1 (n4).toNat 52) (f18 : n9 ≤ 5) (f19 : 0 ≤ n9) (f20 : n9 = hV H1 (n8).toNat (n0).toNat) (f21 : n10 = 2) (f22 : n10 ≤ n9) (f23 : n11 = w32 (n1 + (-1))) (f24 : n12 = 1) (f25 : n13 = w32 (n11 - n12)) (f26 : n14 = 5) (f27 : n9 = n14) (f28 : n15 = 1) (f29 : n16 = w32 (n11 - n15)) (f30 : n17 = 2) (f31 : n9 ≠ n17) (f32 : n18 = 3) (f33 : n9 ≠ n18) (f34 : n19 = 4) (f35 : n9 = n19) : 0 ≤ n16 ∧ n16 < 500 := by
  have g4 := f14.2.1.1
  unfold Ab_238_5 at g4
  have g3 := f14.2.1.2
  unfold preb_238 at g3
  have e0 : hV H1 320 = hV H0 320 := fRow f14.1.2.1 320 kR_238_320
  have e1 : n9 = hV H0 320 (n0).toNat := (by rw [f16] at f20; exact f20 : n9 = hV H1 320 (n0).toNat).trans ((congrFun e0 _))
  have k0 := g4.1
  have k1 := g4.2.1
  have y0 := g4.2.2.1
  have y1 := g4.2.2.2.1
  have y2 := g4.2.2.2.2
  have p0 := g3.1
  have p1 := g3.2
  try simp only [e0] at y0
  clear g3
  clear g4
  clear f17 f20 e0
  clear f14
  subst e1
  try have cg := CG_at p0 (by omega) (by omega) (c := n0) (by omega)
  first
  | (have ix0 : n11 = n1 + -1 := Eq.trans f23 (w32_iv (Iad (Iat f3 f2) (IC (-1))) (by decide)); subst ix0; clear f23)
  | (have ix0 : n11 = n1 + -1 := Eq.trans f23 (w32_id (by omega) (by omega)); subst ix0; clear f23)
  | (unfold w32 at f23; have ix0 : n11 = n1 + -1 := (by omega); subst ix0)
  | skip
  first
  | (have ix1 : n16 = (n1 + -1) - 1 := Eq.trans f29 (w32_iv (Isu (Iad (Iat f3 f2) (IC (-1))) (IC 1)) (by decide)); subst ix1; clear f29)
  | (have ix1 : n16 = (n1 + -1) - 1 := Eq.trans f29 (w32_id (by omega) (by omega)); subst ix1; clear f29)
  | (unfold w32 at f29; have ix1 : n16 = (n1 + -1) - 1 := (by omega); subst ix1)
  | skip
  try unfold w32 at f23
  try unfold w32 at f25
  try unfold w32 at f29
  try subst k1
  try subst k0
  subst y0
  omega
def g_238_5_34 : vG := ([(40, [9, 24], [], 0), (0, [24], [], 4), (41, [9, 23], [], 0), (0, [23], [], 3), (41, [9, 22], [], 0), (0, [22], [], 2), (2, [21, 11, 20], [], 0), (0, [20], [], 1), (40, [9, 18], [], 0), (0, [18], [], 5), (2, [14, 11, 13], [], 0), (0, [13], [], 1), (10, [11, 6], [], -1), (43, [9, 10], [], 0), (0, [10], [], 2), (22, [9, 8, 7], [1], 0), (90, [9], [], 0), (91, [9], [], 5), (20, [8, 3], [1], 52), (0, [8], [], 320), (42, [7, 5], [], 0), (5000, [0, 1, 2, 3, 4, 5, 6, 7], [0, 1], 5), (0, [0], [], 285), (90, [1], [], 0), (91, [1], [], 1200), (90, [2], [], 0), (91, [2], [], 1200), (0, [3], [], 285), (90, [4], [], 0), (91, [4], [], 1200), (90, [5], [], 0), (91, [5], [], 1200), (90, [6], [], 0), (91, [6], [], 500), (90, [7], [], 0), (91, [7], [], 1200)], (70, [21], [], 500))
theorem c_238_5_34 {q0 : Nat} : vOkm T0 (eP e_238 L_238 A_238 mu_238 (some q0)) 3 g_238_5_34 := vOk_inI fun ρ η f0 f1 f2 f3 f4 f5 f6 f7 f8 f9 f10 f11 f12 f13 f14 f15 f16 f17 f18 f19 f20 f21 f22 f23 f24 f25 f26 f27 f28 f29 f30 f31 f32 f33 f34 f35 => q_238_35 (q0 := q0) (n0 := ρ 7) (n1 := ρ 6) (n2 := ρ 5) (n3 := ρ 4) (n4 := ρ 3) (n5 := ρ 2) (n6 := ρ 1) (n7 := ρ 0) (n8 := ρ 8) (n9 := ρ 9) (n10 := ρ 10) (n11 := ρ 11) (n12 := ρ 13) (n13 := ρ 14) (n14 := ρ 18) (n15 := ρ 20) (n16 := ρ 21) (n17 := ρ 22) (n18 := ρ 23) (n19 := ρ 24) (H0 := η 0) (H1 := η 1) f35 f34 f33 f32 f31 f30 f29 f28 f27 f26 f25 f24 f23 f22 f21 f20 f19 f18 f17 f16 f15 f14 f13 f12 f11 f10 f9 f8 f7 f6 f5 f4 f3 f2 f1 f0
theorem q_238_36 {q0 : Nat} {n0 n1 n2 n3 n4 n5 n6 n7 n8 n9 n10 n11 n12 n13 n14 n15 n16 n17 n18 n19 n20 : Int} {H0 H1 : gH} (f0 : n0 ≤ 1200) (f1 : 0 ≤ n0) (f2 : n1 ≤ 500) (f3 : 0 ≤ n1) (f4 : n2 ≤ 1200) (f5 : 0 ≤ n2) (f6 : n3 ≤ 1200) (f7 : 0 ≤ n3) (f8 : n4 = 285) (f9 : n5 ≤ 1200) (f10 : 0 ≤ n5) (f11 : n6 ≤ 1200) (f12 : 0 ≤ n6) (f13 : n7 = 285) (f14 : (hLe T0 H0 H1 ∧ hFr s_238.2.2.2.2 H0 H1 ∧ hWt T0 H1) ∧ (Ab_238_5 n7 n6 n5 n4 n3 n2 n1 n0 H0 H1 ∧ preb_238 n7 n6 n5 H0) ∧ some q0 = some (mub_238_5 n7 n6 n5 n4 n3 n2 n1 n0 H0 H1)) (f15 : n0 < n2) (f16 : n8 = 320) (f17 : n8 = hV H1 (n4).toNat 52) (f18 : n9 ≤ 5) (f19 : 0 ≤ n9) (f20 : n9 = hV H1 (n8).toNat (n0).toNat) (f21 : n10 = 2) (f22 : n10 ≤ n9) (f23 : n11 = w32 (n1 + (-1))) (f24 : n12 = 1) (f25 : n13 = w32 (n11 - n12)) (f26 : n14 = 5) (f27 : n9 = n14) (f28 : n15 = 1) (f29 : n16 = w32 (n11 - n15)) (f30 : n17 = 2) (f31 : n9 ≠ n17) (f32 : n18 = 3) (f33 : n9 ≠ n18) (f34 : n19 = 4) (f35 : n9 = n19) (f36 : n20 = w32 (n0 + 1)) : 0 ≤ n11 := by
  have g4 := f14.2.1.1
  unfold Ab_238_5 at g4
  have g3 := f14.2.1.2
  unfold preb_238 at g3
  have e0 : hV H1 320 = hV H0 320 := fRow f14.1.2.1 320 kR_238_320
  have e1 : n9 = hV H0 320 (n0).toNat := (by rw [f16] at f20; exact f20 : n9 = hV H1 320 (n0).toNat).trans ((congrFun e0 _))
  have k0 := g4.1
  have k1 := g4.2.1
  have y0 := g4.2.2.1
  have y1 := g4.2.2.2.1
  have y2 := g4.2.2.2.2
  have p0 := g3.1
  have p1 := g3.2
  try simp only [e0] at y0
  clear g3
  clear g4
  clear f17 f20 e0
  clear f14
  subst e1
  try have cg := CG_at p0 (by omega) (by omega) (c := n0) (by omega)
  first
  | (have ix0 : n11 = n1 + -1 := Eq.trans f23 (w32_iv (Iad (Iat f3 f2) (IC (-1))) (by decide)); subst ix0; clear f23)
  | (have ix0 : n11 = n1 + -1 := Eq.trans f23 (w32_id (by omega) (by omega)); subst ix0; clear f23)
  | (unfold w32 at f23; have ix0 : n11 = n1 + -1 := (by omega); subst ix0)
  | skip
  try unfold w32 at f23
  try unfold w32 at f25
  try unfold w32 at f29
  try unfold w32 at f36
  try subst k1
  try subst k0
  subst y0
  omega
def g_238_5_35 : vG := ([(10, [26, 7], [], 1), (40, [9, 24], [], 0), (0, [24], [], 4), (41, [9, 23], [], 0), (0, [23], [], 3), (41, [9, 22], [], 0), (0, [22], [], 2), (2, [21, 11, 20], [], 0), (0, [20], [], 1), (40, [9, 18], [], 0), (0, [18], [], 5), (2, [14, 11, 13], [], 0), (0, [13], [], 1), (10, [11, 6], [], -1), (43, [9, 10], [], 0), (0, [10], [], 2), (22, [9, 8, 7], [1], 0), (90, [9], [], 0), (91, [9], [], 5), (20, [8, 3], [1], 52), (0, [8], [], 320), (42, [7, 5], [], 0), (5000, [0, 1, 2, 3, 4, 5, 6, 7], [0, 1], 5), (0, [0], [], 285), (90, [1], [], 0), (91, [1], [], 1200), (90, [2], [], 0), (91, [2], [], 1200), (0, [3], [], 285), (90, [4], [], 0), (91, [4], [], 1200), (90, [5], [], 0), (91, [5], [], 1200), (90, [6], [], 0), (91, [6], [], 500), (90, [7], [], 0), (91, [7], [], 1200)], (90, [11], [], 0))
theorem c_238_5_35 {q0 : Nat} : vOkm T0 (eP e_238 L_238 A_238 mu_238 (some q0)) 3 g_238_5_35 := vOk_inI fun ρ η f0 f1 f2 f3 f4 f5 f6 f7 f8 f9 f10 f11 f12 f13 f14 f15 f16 f17 f18 f19 f20 f21 f22 f23 f24 f25 f26 f27 f28 f29 f30 f31 f32 f33 f34 f35 f36 => q_238_36 (q0 := q0) (n0 := ρ 7) (n1 := ρ 6) (n2 := ρ 5) (n3 := ρ 4) (n4 := ρ 3) (n5 := ρ 2) (n6 := ρ 1) (n7 := ρ 0) (n8 := ρ 8) (n9 := ρ 9) (n10 := ρ 10) (n11 := ρ 11) (n12 := ρ 13) (n13 := ρ 14) (n14 := ρ 18) (n15 := ρ 20) (n16 := ρ 21) (n17 := ρ 22) (n18 := ρ 23) (n19 := ρ 24) (n20 := ρ 26) (H0 := η 0) (H1 := η 1) f36 f35 f34 f33 f32 f31 f30 f29 f28 f27 f26 f25 f24 f23 f22 f21 f20 f19 f18 f17 f16 f15 f14 f13 f12 f11 f10 f9 f8 f7 f6 f5 f4 f3 f2 f1 f0
theorem q_238_37 {q0 : Nat} {n0 n1 n2 n3 n4 n5 n6 n7 n8 n9 n10 n11 n12 n13 n14 n15 n16 n17 n18 n19 n20 : Int} {H0 H1 : gH} (f0 : n0 ≤ 1200) (f1 : 0 ≤ n0) (f2 : n1 ≤ 500) (f3 : 0 ≤ n1) (f4 : n2 ≤ 1200) (f5 : 0 ≤ n2) (f6 : n3 ≤ 1200) (f7 : 0 ≤ n3) (f8 : n4 = 285) (f9 : n5 ≤ 1200) (f10 : 0 ≤ n5) (f11 : n6 ≤ 1200) (f12 : 0 ≤ n6) (f13 : n7 = 285) (f14 : (hLe T0 H0 H1 ∧ hFr s_238.2.2.2.2 H0 H1 ∧ hWt T0 H1) ∧ (Ab_238_5 n7 n6 n5 n4 n3 n2 n1 n0 H0 H1 ∧ preb_238 n7 n6 n5 H0) ∧ some q0 = some (mub_238_5 n7 n6 n5 n4 n3 n2 n1 n0 H0 H1)) (f15 : n0 < n2) (f16 : n8 = 320) (f17 : n8 = hV H1 (n4).toNat 52) (f18 : n9 ≤ 5) (f19 : 0 ≤ n9) (f20 : n9 = hV H1 (n8).toNat (n0).toNat) (f21 : n10 = 2) (f22 : n10 ≤ n9) (f23 : n11 = w32 (n1 + (-1))) (f24 : n12 = 1) (f25 : n13 = w32 (n11 - n12)) (f26 : n14 = 5) (f27 : n9 = n14) (f28 : n15 = 1) (f29 : n16 = w32 (n11 - n15)) (f30 : n17 = 2) (f31 : n9 ≠ n17) (f32 : n18 = 3) (f33 : n9 ≠ n18) (f34 : n19 = 4) (f35 : n9 = n19) (f36 : n20 = w32 (n0 + 1)) : n11 ≤ 500 := by
  have g4 := f14.2.1.1
  unfold Ab_238_5 at g4
  have g3 := f14.2.1.2
  unfold preb_238 at g3
  have e0 : hV H1 320 = hV H0 320 := fRow f14.1.2.1 320 kR_238_320
  have e1 : n9 = hV H0 320 (n0).toNat := (by rw [f16] at f20; exact f20 : n9 = hV H1 320 (n0).toNat).trans ((congrFun e0 _))
  have k0 := g4.1
  have k1 := g4.2.1
  have y0 := g4.2.2.1
  have y1 := g4.2.2.2.1
  have y2 := g4.2.2.2.2
  have p0 := g3.1
  have p1 := g3.2
  try simp only [e0] at y0
  clear g3
  clear g4
  clear f17 f20 e0
  clear f14
  subst e1
  try have cg := CG_at p0 (by omega) (by omega) (c := n0) (by omega)
  first
  | (have ix0 : n11 = n1 + -1 := Eq.trans f23 (w32_iv (Iad (Iat f3 f2) (IC (-1))) (by decide)); subst ix0; clear f23)
  | (have ix0 : n11 = n1 + -1 := Eq.trans f23 (w32_id (by omega) (by omega)); subst ix0; clear f23)
  | (unfold w32 at f23; have ix0 : n11 = n1 + -1 := (by omega); subst ix0)
  | skip
  try unfold w32 at f23
  try unfold w32 at f25
  try unfold w32 at f29
  try unfold w32 at f36
  try subst k1
  try subst k0
  subst y0
  omega
def g_238_5_36 : vG := ([(10, [26, 7], [], 1), (40, [9, 24], [], 0), (0, [24], [], 4), (41, [9, 23], [], 0), (0, [23], [], 3), (41, [9, 22], [], 0), (0, [22], [], 2), (2, [21, 11, 20], [], 0), (0, [20], [], 1), (40, [9, 18], [], 0), (0, [18], [], 5), (2, [14, 11, 13], [], 0), (0, [13], [], 1), (10, [11, 6], [], -1), (43, [9, 10], [], 0), (0, [10], [], 2), (22, [9, 8, 7], [1], 0), (90, [9], [], 0), (91, [9], [], 5), (20, [8, 3], [1], 52), (0, [8], [], 320), (42, [7, 5], [], 0), (5000, [0, 1, 2, 3, 4, 5, 6, 7], [0, 1], 5), (0, [0], [], 285), (90, [1], [], 0), (91, [1], [], 1200), (90, [2], [], 0), (91, [2], [], 1200), (0, [3], [], 285), (90, [4], [], 0), (91, [4], [], 1200), (90, [5], [], 0), (91, [5], [], 1200), (90, [6], [], 0), (91, [6], [], 500), (90, [7], [], 0), (91, [7], [], 1200)], (91, [11], [], 500))
theorem c_238_5_36 {q0 : Nat} : vOkm T0 (eP e_238 L_238 A_238 mu_238 (some q0)) 3 g_238_5_36 := vOk_inI fun ρ η f0 f1 f2 f3 f4 f5 f6 f7 f8 f9 f10 f11 f12 f13 f14 f15 f16 f17 f18 f19 f20 f21 f22 f23 f24 f25 f26 f27 f28 f29 f30 f31 f32 f33 f34 f35 f36 => q_238_37 (q0 := q0) (n0 := ρ 7) (n1 := ρ 6) (n2 := ρ 5) (n3 := ρ 4) (n4 := ρ 3) (n5 := ρ 2) (n6 := ρ 1) (n7 := ρ 0) (n8 := ρ 8) (n9 := ρ 9) (n10 := ρ 10) (n11 := ρ 11) (n12 := ρ 13) (n13 := ρ 14) (n14 := ρ 18) (n15 := ρ 20) (n16 := ρ 21) (n17 := ρ 22) (n18 := ρ 23) (n19 := ρ 24) (n20 := ρ 26) (H0 := η 0) (H1 := η 1) f36 f35 f34 f33 f32 f31 f30 f29 f28 f27 f26 f25 f24 f23 f22 f21 f20 f19 f18 f17 f16 f15 f14 f13 f12 f11 f10 f9 f8 f7 f6 f5 f4 f3 f2 f1 f0
theorem q_238_38 {q0 : Nat} {n0 n1 n2 n3 n4 n5 n6 n7 n8 n9 n10 n11 n12 n13 n14 n15 n16 n17 n18 n19 n20 : Int} {H0 H1 : gH} (f0 : n0 ≤ 1200) (f1 : 0 ≤ n0) (f2 : n1 ≤ 500) (f3 : 0 ≤ n1) (f4 : n2 ≤ 1200) (f5 : 0 ≤ n2) (f6 : n3 ≤ 1200) (f7 : 0 ≤ n3) (f8 : n4 = 285) (f9 : n5 ≤ 1200) (f10 : 0 ≤ n5) (f11 : n6 ≤ 1200) (f12 : 0 ≤ n6) (f13 : n7 = 285) (f14 : (hLe T0 H0 H1 ∧ hFr s_238.2.2.2.2 H0 H1 ∧ hWt T0 H1) ∧ (Ab_238_5 n7 n6 n5 n4 n3 n2 n1 n0 H0 H1 ∧ preb_238 n7 n6 n5 H0) ∧ some q0 = some (mub_238_5 n7 n6 n5 n4 n3 n2 n1 n0 H0 H1)) (f15 : n0 < n2) (f16 : n8 = 320) (f17 : n8 = hV H1 (n4).toNat 52) (f18 : n9 ≤ 5) (f19 : 0 ≤ n9) (f20 : n9 = hV H1 (n8).toNat (n0).toNat) (f21 : n10 = 2) (f22 : n10 ≤ n9) (f23 : n11 = w32 (n1 + (-1))) (f24 : n12 = 1) (f25 : n13 = w32 (n11 - n12)) (f26 : n14 = 5) (f27 : n9 = n14) (f28 : n15 = 1) (f29 : n16 = w32 (n11 - n15)) (f30 : n17 = 2) (f31 : n9 ≠ n17) (f32 : n18 = 3) (f33 : n9 ≠ n18) (f34 : n19 = 4) (f35 : n9 = n19) (f36 : n20 = w32 (n0 + 1)) : 0 ≤ n20 := by
  have g4 := f14.2.1.1
  unfold Ab_238_5 at g4
  have g3 := f14.2.1.2
  unfold preb_238 at g3
  have e0 : hV H1 320 = hV H0 320 := fRow f14.1.2.1 320 kR_238_320
  have e1 : n9 = hV H0 320 (n0).toNat := (by rw [f16] at f20; exact f20 : n9 = hV H1 320 (n0).toNat).trans ((congrFun e0 _))
  have k0 := g4.1
  have k1 := g4.2.1
  have y0 := g4.2.2.1
  have y1 := g4.2.2.2.1
  have y2 := g4.2.2.2.2
  have p0 := g3.1
  have p1 := g3.2
  try simp only [e0] at y0
  clear g3
  clear g4
  clear f17 f20 e0
  clear f14
  subst e1
  try have cg := CG_at p0 (by omega) (by omega) (c := n0) (by omega)
  first
  | (have ix0 : n20 = n0 + 1 := Eq.trans f36 (w32_iv (Iad (Iat f1 f0) (IC 1)) (by decide)); subst ix0; clear f36)
  | (have ix0 : n20 = n0 + 1 := Eq.trans f36 (w32_id (by omega) (by omega)); subst ix0; clear f36)
  | (unfold w32 at f36; have ix0 : n20 = n0 + 1 := (by omega); subst ix0)
  | skip
  try unfold w32 at f23
  try unfold w32 at f25
  try unfold w32 at f29
  try unfold w32 at f36
  try subst k1
  try subst k0
  subst y0
  omega
def g_238_5_37 : vG := ([(10, [26, 7], [], 1), (40, [9, 24], [], 0), (0, [24], [], 4), (41, [9, 23], [], 0), (0, [23], [], 3), (41, [9, 22], [], 0), (0, [22], [], 2), (2, [21, 11, 20], [], 0), (0, [20], [], 1), (40, [9, 18], [], 0), (0, [18], [], 5), (2, [14, 11, 13], [], 0), (0, [13], [], 1), (10, [11, 6], [], -1), (43, [9, 10], [], 0), (0, [10], [], 2), (22, [9, 8, 7], [1], 0), (90, [9], [], 0), (91, [9], [], 5), (20, [8, 3], [1], 52), (0, [8], [], 320), (42, [7, 5], [], 0), (5000, [0, 1, 2, 3, 4, 5, 6, 7], [0, 1], 5), (0, [0], [], 285), (90, [1], [], 0), (91, [1], [], 1200), (90, [2], [], 0), (91, [2], [], 1200), (0, [3], [], 285), (90, [4], [], 0), (91, [4], [], 1200), (90, [5], [], 0), (91, [5], [], 1200), (90, [6], [], 0), (91, [6], [], 500), (90, [7], [], 0), (91, [7], [], 1200)], (90, [26], [], 0))
theorem c_238_5_37 {q0 : Nat} : vOkm T0 (eP e_238 L_238 A_238 mu_238 (some q0)) 3 g_238_5_37 := vOk_inI fun ρ η f0 f1 f2 f3 f4 f5 f6 f7 f8 f9 f10 f11 f12 f13 f14 f15 f16 f17 f18 f19 f20 f21 f22 f23 f24 f25 f26 f27 f28 f29 f30 f31 f32 f33 f34 f35 f36 => q_238_38 (q0 := q0) (n0 := ρ 7) (n1 := ρ 6) (n2 := ρ 5) (n3 := ρ 4) (n4 := ρ 3) (n5 := ρ 2) (n6 := ρ 1) (n7 := ρ 0) (n8 := ρ 8) (n9 := ρ 9) (n10 := ρ 10) (n11 := ρ 11) (n12 := ρ 13) (n13 := ρ 14) (n14 := ρ 18) (n15 := ρ 20) (n16 := ρ 21) (n17 := ρ 22) (n18 := ρ 23) (n19 := ρ 24) (n20 := ρ 26) (H0 := η 0) (H1 := η 1) f36 f35 f34 f33 f32 f31 f30 f29 f28 f27 f26 f25 f24 f23 f22 f21 f20 f19 f18 f17 f16 f15 f14 f13 f12 f11 f10 f9 f8 f7 f6 f5 f4 f3 f2 f1 f0
theorem q_238_39 {q0 : Nat} {n0 n1 n2 n3 n4 n5 n6 n7 n8 n9 n10 n11 n12 n13 n14 n15 n16 n17 n18 n19 n20 : Int} {H0 H1 : gH} (f0 : n0 ≤ 1200) (f1 : 0 ≤ n0) (f2 : n1 ≤ 500) (f3 : 0 ≤ n1) (f4 : n2 ≤ 1200) (f5 : 0 ≤ n2) (f6 : n3 ≤ 1200) (f7 : 0 ≤ n3) (f8 : n4 = 285) (f9 : n5 ≤ 1200) (f10 : 0 ≤ n5) (f11 : n6 ≤ 1200) (f12 : 0 ≤ n6) (f13 : n7 = 285) (f14 : (hLe T0 H0 H1 ∧ hFr s_238.2.2.2.2 H0 H1 ∧ hWt T0 H1) ∧ (Ab_238_5 n7 n6 n5 n4 n3 n2 n1 n0 H0 H1 ∧ preb_238 n7 n6 n5 H0) ∧ some q0 = some (mub_238_5 n7 n6 n5 n4 n3 n2 n1 n0 H0 H1)) (f15 : n0 < n2) (f16 : n8 = 320) (f17 : n8 = hV H1 (n4).toNat 52) (f18 : n9 ≤ 5) (f19 : 0 ≤ n9) (f20 : n9 = hV H1 (n8).toNat (n0).toNat) (f21 : n10 = 2) (f22 : n10 ≤ n9) (f23 : n11 = w32 (n1 + (-1))) (f24 : n12 = 1) (f25 : n13 = w32 (n11 - n12)) (f26 : n14 = 5) (f27 : n9 = n14) (f28 : n15 = 1) (f29 : n16 = w32 (n11 - n15)) (f30 : n17 = 2) (f31 : n9 ≠ n17) (f32 : n18 = 3) (f33 : n9 ≠ n18) (f34 : n19 = 4) (f35 : n9 = n19) (f36 : n20 = w32 (n0 + 1)) : n20 ≤ 1200 := by
  have g4 := f14.2.1.1
  unfold Ab_238_5 at g4
  have g3 := f14.2.1.2
  unfold preb_238 at g3
  have e0 : hV H1 320 = hV H0 320 := fRow f14.1.2.1 320 kR_238_320
  have e1 : n9 = hV H0 320 (n0).toNat := (by rw [f16] at f20; exact f20 : n9 = hV H1 320 (n0).toNat).trans ((congrFun e0 _))
  have k0 := g4.1
  have k1 := g4.2.1
  have y0 := g4.2.2.1
  have y1 := g4.2.2.2.1
  have y2 := g4.2.2.2.2
  have p0 := g3.1
  have p1 := g3.2
  try simp only [e0] at y0
  clear g3
  clear g4
  clear f17 f20 e0
  clear f14
  subst e1
  try have cg := CG_at p0 (by omega) (by omega) (c := n0) (by omega)
  first
  | (have ix0 : n20 = n0 + 1 := Eq.trans f36 (w32_iv (Iad (Iat f1 f0) (IC 1)) (by decide)); subst ix0; clear f36)
  | (have ix0 : n20 = n0 + 1 := Eq.trans f36 (w32_id (by omega) (by omega)); subst ix0; clear f36)
  | (unfold w32 at f36; have ix0 : n20 = n0 + 1 := (by omega); subst ix0)
  | skip
  try unfold w32 at f23
  try unfold w32 at f25
  try unfold w32 at f29
  try unfold w32 at f36
  try subst k1
  try subst k0
  subst y0
  omega
def g_238_5_38 : vG := ([(10, [26, 7], [], 1), (40, [9, 24], [], 0), (0, [24], [], 4), (41, [9, 23], [], 0), (0, [23], [], 3), (41, [9, 22], [], 0), (0, [22], [], 2), (2, [21, 11, 20], [], 0), (0, [20], [], 1), (40, [9, 18], [], 0), (0, [18], [], 5), (2, [14, 11, 13], [], 0), (0, [13], [], 1), (10, [11, 6], [], -1), (43, [9, 10], [], 0), (0, [10], [], 2), (22, [9, 8, 7], [1], 0), (90, [9], [], 0), (91, [9], [], 5), (20, [8, 3], [1], 52), (0, [8], [], 320), (42, [7, 5], [], 0), (5000, [0, 1, 2, 3, 4, 5, 6, 7], [0, 1], 5), (0, [0], [], 285), (90, [1], [], 0), (91, [1], [], 1200), (90, [2], [], 0), (91, [2], [], 1200), (0, [3], [], 285), (90, [4], [], 0), (91, [4], [], 1200), (90, [5], [], 0), (91, [5], [], 1200), (90, [6], [], 0), (91, [6], [], 500), (90, [7], [], 0), (91, [7], [], 1200)], (91, [26], [], 1200))
theorem c_238_5_38 {q0 : Nat} : vOkm T0 (eP e_238 L_238 A_238 mu_238 (some q0)) 3 g_238_5_38 := vOk_inI fun ρ η f0 f1 f2 f3 f4 f5 f6 f7 f8 f9 f10 f11 f12 f13 f14 f15 f16 f17 f18 f19 f20 f21 f22 f23 f24 f25 f26 f27 f28 f29 f30 f31 f32 f33 f34 f35 f36 => q_238_39 (q0 := q0) (n0 := ρ 7) (n1 := ρ 6) (n2 := ρ 5) (n3 := ρ 4) (n4 := ρ 3) (n5 := ρ 2) (n6 := ρ 1) (n7 := ρ 0) (n8 := ρ 8) (n9 := ρ 9) (n10 := ρ 10) (n11 := ρ 11) (n12 := ρ 13) (n13 := ρ 14) (n14 := ρ 18) (n15 := ρ 20) (n16 := ρ 21) (n17 := ρ 22) (n18 := ρ 23) (n19 := ρ 24) (n20 := ρ 26) (H0 := η 0) (H1 := η 1) f36 f35 f34 f33 f32 f31 f30 f29 f28 f27 f26 f25 f24 f23 f22 f21 f20 f19 f18 f17 f16 f15 f14 f13 f12 f11 f10 f9 f8 f7 f6 f5 f4 f3 f2 f1 f0
theorem q_238_40 {q0 : Nat} {n0 n1 n2 n3 n4 n5 n6 n7 n8 n9 n10 n11 n12 n13 n14 n15 n16 n17 n18 n19 n20 n21 n22 n23 n24 n25 n26 : Int} {H0 H1 H2 : gH} (f0 : n0 ≤ 1200) (f1 : 0 ≤ n0) (f2 : n1 ≤ 500) (f3 : 0 ≤ n1) (f4 : n2 ≤ 1200) (f5 : 0 ≤ n2) (f6 : n3 ≤ 1200) (f7 : 0 ≤ n3) (f8 : n4 = 285) (f9 : n5 ≤ 1200) (f10 : 0 ≤ n5) (f11 : n6 ≤ 1200) (f12 : 0 ≤ n6) (f13 : n7 = 285) (f14 : (hLe T0 H0 H1 ∧ hFr s_238.2.2.2.2 H0 H1 ∧ hWt T0 H1) ∧ (Ab_238_5 n7 n6 n5 n4 n3 n2 n1 n0 H0 H1 ∧ preb_238 n7 n6 n5 H0) ∧ some q0 = some (mub_238_5 n7 n6 n5 n4 n3 n2 n1 n0 H0 H1)) (f15 : n0 < n2) (f16 : n8 = 320) (f17 : n8 = hV H1 (n4).toNat 52) (f18 : n9 ≤ 5) (f19 : 0 ≤ n9) (f20 : n9 = hV H1 (n8).toNat (n0).toNat) (f21 : n10 = 2) (f22 : n10 ≤ n9) (f23 : n11 = w32 (n1 + (-1))) (f24 : n12 = 324) (f25 : n12 = hV H1 (n4).toNat 57) (f26 : n13 = 1) (f27 : n14 = w32 (n11 - n13)) (f28 : n15 ≤ 2147483647) (f29 : (-2147483648) ≤ n15) (f30 : n15 = hV H1 (n12).toNat (n14).toNat) (f31 : n16 = 324) (f32 : n16 = hV H1 (n4).toNat 57) (f33 : n17 ≤ 2147483647) (f34 : (-2147483648) ≤ n17) (f35 : n17 = hV H1 (n16).toNat (n11).toNat) (f36 : n18 = 5) (f37 : n9 = n18) (f38 : n17 ≠ 0) (f39 : n19 = 324) (f40 : n19 = hV H1 (n4).toNat 57) (f41 : n20 = 1) (f42 : n21 = w32 (n11 - n20)) (f43 : n22 = 2) (f44 : n9 ≠ n22) (f45 : n23 = 3) (f46 : n9 ≠ n23) (f47 : n24 = 4) (f48 : n9 = n24) (f49 : n25 = w32 (n15 * n17)) (f50 : hUpd H2 H1 n19 n21 n25) (f51 : n26 = w32 (n0 + 1)) : Ab_238_5 n7 n6 n5 n4 n3 n2 n11 n26 H0 H2 ∧ ∀ q, some q0 = some q → mub_238_5 n7 n6 n5 n4 n3 n2 n11 n26 H0 H2 < q := by
  have g4 := f14.2.1.1
  unfold Ab_238_5 at g4
  have g3 := f14.2.1.2
  unfold preb_238 at g3
  have g5 := Option.some.inj f14.2.2
  unfold mub_238_5 at g5
  unfold Ab_238_5
  unfold mub_238_5
  have e0 : hV H1 320 = hV H0 320 := fRow f14.1.2.1 320 kR_238_320
  have e1 : n9 = hV H0 320 (n0).toNat := (by rw [f16] at f20; exact f20 : n9 = hV H1 320 (n0).toNat).trans ((congrFun e0 _))
  have e2 : n15 = hV H1 324 (n14).toNat := (by rw [f24] at f30; exact f30 : n15 = hV H1 324 (n14).toNat)
  have e3 : n17 = hV H1 324 (n11).toNat := (by rw [f31] at f35; exact f35 : n17 = hV H1 324 (n11).toNat)
  have e5 : hV H2 320 = hV H0 320 := (uRowNe f50 320 (iS (show n19 = ((324 : Nat) : Int) from f39) rfl)).trans e0
  try simp only [e5]
  have k0 := g4.1
  have k1 := g4.2.1
  have y0 := g4.2.2.1
  have y1 := g4.2.2.2.1
  have y2 := g4.2.2.2.2
  have p0 := g3.1
  have p1 := g3.2
  try simp only [e0] at y0
  clear g3
  clear g4
  clear f17 f20 f25 f30 f32 f35 f40 e0 e5
  clear f14
  subst e1
  subst e2
  subst e3
  try have cg := CG_at p0 (by omega) (by omega) (c := n0) (by omega)
  first
  | (have ix0 : n11 = n1 + -1 := Eq.trans f23 (w32_iv (Iad (Iat f3 f2) (IC (-1))) (by decide)); subst ix0; clear f23)
  | (have ix0 : n11 = n1 + -1 := Eq.trans f23 (w32_id (by omega) (by omega)); subst ix0; clear f23)
  | (unfold w32 at f23; have ix0 : n11 = n1 + -1 := (by omega); subst ix0)
  | skip
  first
  | (have ix1 : n14 = (n1 + -1) - 1 := Eq.trans f27 (w32_iv (Isu (Iad (Iat f3 f2) (IC (-1))) (IC 1)) (by decide)); subst ix1; clear f27)
  | (have ix1 : n14 = (n1 + -1) - 1 := Eq.trans f27 (w32_id (by omega) (by omega)); subst ix1; clear f27)
  | (unfold w32 at f27; have ix1 : n14 = (n1 + -1) - 1 := (by omega); subst ix1)
  | skip
  first
  | (have ix2 : n21 = (n1 + -1) - 1 := Eq.trans f42 (w32_iv (Isu (Iad (Iat f3 f2) (IC (-1))) (IC 1)) (by decide)); subst ix2; clear f42)
  | (have ix2 : n21 = (n1 + -1) - 1 := Eq.trans f42 (w32_id (by omega) (by omega)); subst ix2; clear f42)
  | (unfold w32 at f42; have ix2 : n21 = (n1 + -1) - 1 := (by omega); subst ix2)
  | skip
  first
  | (have ix3 : n26 = n0 + 1 := Eq.trans f51 (w32_iv (Iad (Iat f1 f0) (IC 1)) (by decide)); subst ix3; clear f51)
  | (have ix3 : n26 = n0 + 1 := Eq.trans f51 (w32_id (by omega) (by omega)); subst ix3; clear f51)
  | (unfold w32 at f51; have ix3 : n26 = n0 + 1 := (by omega); subst ix3)
  | skip
  try unfold w32 at f23
  try unfold w32 at f27
  try unfold w32 at f42
  try unfold w32 at f49
  try unfold w32 at f51
  try subst k1
  try subst k0
  subst y0
  refine ⟨?_, fun q hq => ?_⟩
  · refine ⟨?_, ?_, ?_, ?_, ?_⟩ <;> first | assumption | omega | trivial
  · have g6 := Option.some.inj hq
    subst g6
    omega
def g_238_5_39 : vG := ([(10, [26, 7], [], 1), (80, [19, 21, 25], [2, 1], 0), (3, [25, 15, 17], [], 0), (40, [9, 24], [], 0), (0, [24], [], 4), (41, [9, 23], [], 0), (0, [23], [], 3), (41, [9, 22], [], 0), (0, [22], [], 2), (2, [21, 11, 20], [], 0), (0, [20], [], 1), (20, [19, 3], [1], 57), (0, [19], [], 324), (31, [17], [], 0), (40, [9, 18], [], 0), (0, [18], [], 5), (22, [17, 16, 11], [1], 0), (90, [17], [], -2147483648), (91, [17], [], 2147483647), (20, [16, 3], [1], 57), (0, [16], [], 324), (22, [15, 12, 14], [1], 0), (90, [15], [], -2147483648), (91, [15], [], 2147483647), (2, [14, 11, 13], [], 0), (0, [13], [], 1), (20, [12, 3], [1], 57), (0, [12], [], 324), (10, [11, 6], [], -1), (43, [9, 10], [], 0), (0, [10], [], 2), (22, [9, 8, 7], [1], 0), (90, [9], [], 0), (91, [9], [], 5), (20, [8, 3], [1], 52), (0, [8], [], 320), (42, [7, 5], [], 0), (5000, [0, 1, 2, 3, 4, 5, 6, 7], [0, 1], 5), (0, [0], [], 285), (90, [1], [], 0), (91, [1], [], 1200), (90, [2], [], 0), (91, [2], [], 1200), (0, [3], [], 285), (90, [4], [], 0), (91, [4], [], 1200), (90, [5], [], 0), (91, [5], [], 1200), (90, [6], [], 0), (91, [6], [], 500), (90, [7], [], 0), (91, [7], [], 1200)], (4000, [3, 4, 5, 11, 26], [2], 5))
theorem c_238_5_39 {q0 : Nat} : vOkm T0 (eP e_238 L_238 A_238 mu_238 (some q0)) 3 g_238_5_39 := vOk_inI fun ρ η f0 f1 f2 f3 f4 f5 f6 f7 f8 f9 f10 f11 f12 f13 f14 f15 f16 f17 f18 f19 f20 f21 f22 f23 f24 f25 f26 f27 f28 f29 f30 f31 f32 f33 f34 f35 f36 f37 f38 f39 f40 f41 f42 f43 f44 f45 f46 f47 f48 f49 f50 f51 => q_238_40 (q0 := q0) (n0 := ρ 7) (n1 := ρ 6) (n2 := ρ 5) (n3 := ρ 4) (n4 := ρ 3) (n5 := ρ 2) (n6 := ρ 1) (n7 := ρ 0) (n8 := ρ 8) (n9 := ρ 9) (n10 := ρ 10) (n11 := ρ 11) (n12 := ρ 12) (n13 := ρ 13) (n14 := ρ 14) (n15 := ρ 15) (n16 := ρ 16) (n17 := ρ 17) (n18 := ρ 18) (n19 := ρ 19) (n20 := ρ 20) (n21 := ρ 21) (n22 := ρ 22) (n23 := ρ 23) (n24 := ρ 24) (n25 := ρ 25) (n26 := ρ 26) (H0 := η 0) (H1 := η 1) (H2 := η 2) f51 f50 f49 f48 f47 f46 f45 f44 f43 f42 f41 f40 f39 f38 f37 f36 f35 f34 f33 f32 f31 f30 f29 f28 f27 f26 f25 f24 f23 f22 f21 f20 f19 f18 f17 f16 f15 f14 f13 f12 f11 f10 f9 f8 f7 f6 f5 f4 f3 f2 f1 f0
theorem q_238_41 {q0 : Nat} {n0 n1 n2 n3 n4 n5 n6 n7 n8 n9 n10 n11 n12 n13 n14 n15 n16 n17 n18 : Int} {H0 H1 : gH} (f0 : n0 ≤ 1200) (f1 : 0 ≤ n0) (f2 : n1 ≤ 500) (f3 : 0 ≤ n1) (f4 : n2 ≤ 1200) (f5 : 0 ≤ n2) (f6 : n3 ≤ 1200) (f7 : 0 ≤ n3) (f8 : n4 = 285) (f9 : n5 ≤ 1200) (f10 : 0 ≤ n5) (f11 : n6 ≤ 1200) (f12 : 0 ≤ n6) (f13 : n7 = 285) (f14 : (hLe T0 H0 H1 ∧ hFr s_238.2.2.2.2 H0 H1 ∧ hWt T0 H1) ∧ (Ab_238_5 n7 n6 n5 n4 n3 n2 n1 n0 H0 H1 ∧ preb_238 n7 n6 n5 H0) ∧ some q0 = some (mub_238_5 n7 n6 n5 n4 n3 n2 n1 n0 H0 H1)) (f15 : n0 < n2) (f16 : n8 = 320) (f17 : n8 = hV H1 (n4).toNat 52) (f18 : n9 ≤ 5) (f19 : 0 ≤ n9) (f20 : n9 = hV H1 (n8).toNat (n0).toNat) (f21 : n10 = 2) (f22 : n10 ≤ n9) (f23 : n11 = w32 (n1 + (-1))) (f24 : n12 = 1) (f25 : n13 = w32 (n11 - n12)) (f26 : n14 = 5) (f27 : n9 = n14) (f28 : n15 = 1) (f29 : n16 = w32 (n11 - n15)) (f30 : n17 = 2) (f31 : n9 ≠ n17) (f32 : n18 = 3) (f33 : n9 = n18) : 0 ≤ n16 ∧ n16 < 500 := by
  have g4 := f14.2.1.1
  unfold Ab_238_5 at g4
  have g3 := f14.2.1.2
  unfold preb_238 at g3
  have e0 : hV H1 320 = hV H0 320 := fRow f14.1.2.1 320 kR_238_320
  have e1 : n9 = hV H0 320 (n0).toNat := (by rw [f16] at f20; exact f20 : n9 = hV H1 320 (n0).toNat).trans ((congrFun e0 _))
  have k0 := g4.1
  have k1 := g4.2.1
  have y0 := g4.2.2.1
  have y1 := g4.2.2.2.1
  have y2 := g4.2.2.2.2
  have p0 := g3.1
  have p1 := g3.2
  try simp only [e0] at y0
  clear g3
  clear g4
  clear f17 f20 e0
  clear f14
  subst e1
  try have cg := CG_at p0 (by omega) (by omega) (c := n0) (by omega)
  first
  | (have ix0 : n11 = n1 + -1 := Eq.trans f23 (w32_iv (Iad (Iat f3 f2) (IC (-1))) (by decide)); subst ix0; clear f23)
  | (have ix0 : n11 = n1 + -1 := Eq.trans f23 (w32_id (by omega) (by omega)); subst ix0; clear f23)
  | (unfold w32 at f23; have ix0 : n11 = n1 + -1 := (by omega); subst ix0)
  | skip
  first
  | (have ix1 : n16 = (n1 + -1) - 1 := Eq.trans f29 (w32_iv (Isu (Iad (Iat f3 f2) (IC (-1))) (IC 1)) (by decide)); subst ix1; clear f29)
  | (have ix1 : n16 = (n1 + -1) - 1 := Eq.trans f29 (w32_id (by omega) (by omega)); subst ix1; clear f29)
  | (unfold w32 at f29; have ix1 : n16 = (n1 + -1) - 1 := (by omega); subst ix1)
  | skip
  try unfold w32 at f23
  try unfold w32 at f25
  try unfold w32 at f29
  try subst k1
  try subst k0
  subst y0
  omega
def g_238_5_40 : vG := ([(40, [9, 23], [], 0), (0, [23], [], 3), (41, [9, 22], [], 0), (0, [22], [], 2), (2, [21, 11, 20], [], 0), (0, [20], [], 1), (40, [9, 18], [], 0), (0, [18], [], 5), (2, [14, 11, 13], [], 0), (0, [13], [], 1), (10, [11, 6], [], -1), (43, [9, 10], [], 0), (0, [10], [], 2), (22, [9, 8, 7], [1], 0), (90, [9], [], 0), (91, [9], [], 5), (20, [8, 3], [1], 52), (0, [8], [], 320), (42, [7, 5], [], 0), (5000, [0, 1, 2, 3, 4, 5, 6, 7], [0, 1], 5), (0, [0], [], 285), (90, [1], [], 0), (91, [1], [], 1200), (90, [2], [], 0), (91, [2], [], 1200), (0, [3], [], 285), (90, [4], [], 0), (91, [4], [], 1200), (90, [5], [], 0), (91, [5], [], 1200), (90, [6], [], 0), (91, [6], [], 500), (90, [7], [], 0), (91, [7], [], 1200)], (70, [21], [], 500))
theorem c_238_5_40 {q0 : Nat} : vOkm T0 (eP e_238 L_238 A_238 mu_238 (some q0)) 3 g_238_5_40 := vOk_inI fun ρ η f0 f1 f2 f3 f4 f5 f6 f7 f8 f9 f10 f11 f12 f13 f14 f15 f16 f17 f18 f19 f20 f21 f22 f23 f24 f25 f26 f27 f28 f29 f30 f31 f32 f33 => q_238_41 (q0 := q0) (n0 := ρ 7) (n1 := ρ 6) (n2 := ρ 5) (n3 := ρ 4) (n4 := ρ 3) (n5 := ρ 2) (n6 := ρ 1) (n7 := ρ 0) (n8 := ρ 8) (n9 := ρ 9) (n10 := ρ 10) (n11 := ρ 11) (n12 := ρ 13) (n13 := ρ 14) (n14 := ρ 18) (n15 := ρ 20) (n16 := ρ 21) (n17 := ρ 22) (n18 := ρ 23) (H0 := η 0) (H1 := η 1) f33 f32 f31 f30 f29 f28 f27 f26 f25 f24 f23 f22 f21 f20 f19 f18 f17 f16 f15 f14 f13 f12 f11 f10 f9 f8 f7 f6 f5 f4 f3 f2 f1 f0
theorem q_238_42 {q0 : Nat} {n0 n1 n2 n3 n4 n5 n6 n7 n8 n9 n10 n11 n12 n13 n14 n15 n16 n17 n18 n19 : Int} {H0 H1 : gH} (f0 : n0 ≤ 1200) (f1 : 0 ≤ n0) (f2 : n1 ≤ 500) (f3 : 0 ≤ n1) (f4 : n2 ≤ 1200) (f5 : 0 ≤ n2) (f6 : n3 ≤ 1200) (f7 : 0 ≤ n3) (f8 : n4 = 285) (f9 : n5 ≤ 1200) (f10 : 0 ≤ n5) (f11 : n6 ≤ 1200) (f12 : 0 ≤ n6) (f13 : n7 = 285) (f14 : (hLe T0 H0 H1 ∧ hFr s_238.2.2.2.2 H0 H1 ∧ hWt T0 H1) ∧ (Ab_238_5 n7 n6 n5 n4 n3 n2 n1 n0 H0 H1 ∧ preb_238 n7 n6 n5 H0) ∧ some q0 = some (mub_238_5 n7 n6 n5 n4 n3 n2 n1 n0 H0 H1)) (f15 : n0 < n2) (f16 : n8 = 320) (f17 : n8 = hV H1 (n4).toNat 52) (f18 : n9 ≤ 5) (f19 : 0 ≤ n9) (f20 : n9 = hV H1 (n8).toNat (n0).toNat) (f21 : n10 = 2) (f22 : n10 ≤ n9) (f23 : n11 = w32 (n1 + (-1))) (f24 : n12 = 1) (f25 : n13 = w32 (n11 - n12)) (f26 : n14 = 5) (f27 : n9 = n14) (f28 : n15 = 1) (f29 : n16 = w32 (n11 - n15)) (f30 : n17 = 2) (f31 : n9 ≠ n17) (f32 : n18 = 3) (f33 : n9 = n18) (f34 : n19 = w32 (n0 + 1)) : 0 ≤ n11 := by
  have g4 := f14.2.1.1
  unfold Ab_238_5 at g4
  have g3 := f14.2.1.2
  unfold preb_238 at g3
  have e0 : hV H1 320 = hV H0 320 := fRow f14.1.2.1 320 kR_238_320
  have e1 : n9 = hV H0 320 (n0).toNat := (by rw [f16] at f20; exact f20 : n9 = hV H1 320 (n0).toNat).trans ((congrFun e0 _))
  have k0 := g4.1
  have k1 := g4.2.1
  have y0 := g4.2.2.1
  have y1 := g4.2.2.2.1
  have y2 := g4.2.2.2.2
  have p0 := g3.1
  have p1 := g3.2
  try simp only [e0] at y0
  clear g3
  clear g4
  clear f17 f20 e0
  clear f14
  subst e1
  try have cg := CG_at p0 (by omega) (by omega) (c := n0) (by omega)
  first
  | (have ix0 : n11 = n1 + -1 := Eq.trans f23 (w32_iv (Iad (Iat f3 f2) (IC (-1))) (by decide)); subst ix0; clear f23)
  | (have ix0 : n11 = n1 + -1 := Eq.trans f23 (w32_id (by omega) (by omega)); subst ix0; clear f23)
  | (unfold w32 at f23; have ix0 : n11 = n1 + -1 := (by omega); subst ix0)
  | skip
  try unfold w32 at f23
  try unfold w32 at f25
  try unfold w32 at f29
  try unfold w32 at f34
  try subst k1
  try subst k0
  subst y0
  omega
def g_238_5_41 : vG := ([(10, [25, 7], [], 1), (40, [9, 23], [], 0), (0, [23], [], 3), (41, [9, 22], [], 0), (0, [22], [], 2), (2, [21, 11, 20], [], 0), (0, [20], [], 1), (40, [9, 18], [], 0), (0, [18], [], 5), (2, [14, 11, 13], [], 0), (0, [13], [], 1), (10, [11, 6], [], -1), (43, [9, 10], [], 0), (0, [10], [], 2), (22, [9, 8, 7], [1], 0), (90, [9], [], 0), (91, [9], [], 5), (20, [8, 3], [1], 52), (0, [8], [], 320), (42, [7, 5], [], 0), (5000, [0, 1, 2, 3, 4, 5, 6, 7], [0, 1], 5), (0, [0], [], 285), (90, [1], [], 0), (91, [1], [], 1200), (90, [2], [], 0), (91, [2], [], 1200), (0, [3], [], 285), (90, [4], [], 0), (91, [4], [], 1200), (90, [5], [], 0), (91, [5], [], 1200), (90, [6], [], 0), (91, [6], [], 500), (90, [7], [], 0), (91, [7], [], 1200)], (90, [11], [], 0))
theorem c_238_5_41 {q0 : Nat} : vOkm T0 (eP e_238 L_238 A_238 mu_238 (some q0)) 3 g_238_5_41 := vOk_inI fun ρ η f0 f1 f2 f3 f4 f5 f6 f7 f8 f9 f10 f11 f12 f13 f14 f15 f16 f17 f18 f19 f20 f21 f22 f23 f24 f25 f26 f27 f28 f29 f30 f31 f32 f33 f34 => q_238_42 (q0 := q0) (n0 := ρ 7) (n1 := ρ 6) (n2 := ρ 5) (n3 := ρ 4) (n4 := ρ 3) (n5 := ρ 2) (n6 := ρ 1) (n7 := ρ 0) (n8 := ρ 8) (n9 := ρ 9) (n10 := ρ 10) (n11 := ρ 11) (n12 := ρ 13) (n13 := ρ 14) (n14 := ρ 18) (n15 := ρ 20) (n16 := ρ 21) (n17 := ρ 22) (n18 := ρ 23) (n19 := ρ 25) (H0 := η 0) (H1 := η 1) f34 f33 f32 f31 f30 f29 f28 f27 f26 f25 f24 f23 f22 f21 f20 f19 f18 f17 f16 f15 f14 f13 f12 f11 f10 f9 f8 f7 f6 f5 f4 f3 f2 f1 f0
theorem q_238_43 {q0 : Nat} {n0 n1 n2 n3 n4 n5 n6 n7 n8 n9 n10 n11 n12 n13 n14 n15 n16 n17 n18 n19 : Int} {H0 H1 : gH} (f0 : n0 ≤ 1200) (f1 : 0 ≤ n0) (f2 : n1 ≤ 500) (f3 : 0 ≤ n1) (f4 : n2 ≤ 1200) (f5 : 0 ≤ n2) (f6 : n3 ≤ 1200) (f7 : 0 ≤ n3) (f8 : n4 = 285) (f9 : n5 ≤ 1200) (f10 : 0 ≤ n5) (f11 : n6 ≤ 1200) (f12 : 0 ≤ n6) (f13 : n7 = 285) (f14 : (hLe T0 H0 H1 ∧ hFr s_238.2.2.2.2 H0 H1 ∧ hWt T0 H1) ∧ (Ab_238_5 n7 n6 n5 n4 n3 n2 n1 n0 H0 H1 ∧ preb_238 n7 n6 n5 H0) ∧ some q0 = some (mub_238_5 n7 n6 n5 n4 n3 n2 n1 n0 H0 H1)) (f15 : n0 < n2) (f16 : n8 = 320) (f17 : n8 = hV H1 (n4).toNat 52) (f18 : n9 ≤ 5) (f19 : 0 ≤ n9) (f20 : n9 = hV H1 (n8).toNat (n0).toNat) (f21 : n10 = 2) (f22 : n10 ≤ n9) (f23 : n11 = w32 (n1 + (-1))) (f24 : n12 = 1) (f25 : n13 = w32 (n11 - n12)) (f26 : n14 = 5) (f27 : n9 = n14) (f28 : n15 = 1) (f29 : n16 = w32 (n11 - n15)) (f30 : n17 = 2) (f31 : n9 ≠ n17) (f32 : n18 = 3) (f33 : n9 = n18) (f34 : n19 = w32 (n0 + 1)) : n11 ≤ 500 := by
  have g4 := f14.2.1.1
  unfold Ab_238_5 at g4
  have g3 := f14.2.1.2
  unfold preb_238 at g3
  have e0 : hV H1 320 = hV H0 320 := fRow f14.1.2.1 320 kR_238_320
  have e1 : n9 = hV H0 320 (n0).toNat := (by rw [f16] at f20; exact f20 : n9 = hV H1 320 (n0).toNat).trans ((congrFun e0 _))
  have k0 := g4.1
  have k1 := g4.2.1
  have y0 := g4.2.2.1
  have y1 := g4.2.2.2.1
  have y2 := g4.2.2.2.2
  have p0 := g3.1
  have p1 := g3.2
  try simp only [e0] at y0
  clear g3
  clear g4
  clear f17 f20 e0
  clear f14
  subst e1
  try have cg := CG_at p0 (by omega) (by omega) (c := n0) (by omega)
  first
  | (have ix0 : n11 = n1 + -1 := Eq.trans f23 (w32_iv (Iad (Iat f3 f2) (IC (-1))) (by decide)); subst ix0; clear f23)
  | (have ix0 : n11 = n1 + -1 := Eq.trans f23 (w32_id (by omega) (by omega)); subst ix0; clear f23)
  | (unfold w32 at f23; have ix0 : n11 = n1 + -1 := (by omega); subst ix0)
  | skip
  try unfold w32 at f23
  try unfold w32 at f25
  try unfold w32 at f29
  try unfold w32 at f34
  try subst k1
  try subst k0
  subst y0
  omega
def g_238_5_42 : vG := ([(10, [25, 7], [], 1), (40, [9, 23], [], 0), (0, [23], [], 3), (41, [9, 22], [], 0), (0, [22], [], 2), (2, [21, 11, 20], [], 0), (0, [20], [], 1), (40, [9, 18], [], 0), (0, [18], [], 5), (2, [14, 11, 13], [], 0), (0, [13], [], 1), (10, [11, 6], [], -1), (43, [9, 10], [], 0), (0, [10], [], 2), (22, [9, 8, 7], [1], 0), (90, [9], [], 0), (91, [9], [], 5), (20, [8, 3], [1], 52), (0, [8], [], 320), (42, [7, 5], [], 0), (5000, [0, 1, 2, 3, 4, 5, 6, 7], [0, 1], 5), (0, [0], [], 285), (90, [1], [], 0), (91, [1], [], 1200), (90, [2], [], 0), (91, [2], [], 1200), (0, [3], [], 285), (90, [4], [], 0), (91, [4], [], 1200), (90, [5], [], 0), (91, [5], [], 1200), (90, [6], [], 0), (91, [6], [], 500), (90, [7], [], 0), (91, [7], [], 1200)], (91, [11], [], 500))
theorem c_238_5_42 {q0 : Nat} : vOkm T0 (eP e_238 L_238 A_238 mu_238 (some q0)) 3 g_238_5_42 := vOk_inI fun ρ η f0 f1 f2 f3 f4 f5 f6 f7 f8 f9 f10 f11 f12 f13 f14 f15 f16 f17 f18 f19 f20 f21 f22 f23 f24 f25 f26 f27 f28 f29 f30 f31 f32 f33 f34 => q_238_43 (q0 := q0) (n0 := ρ 7) (n1 := ρ 6) (n2 := ρ 5) (n3 := ρ 4) (n4 := ρ 3) (n5 := ρ 2) (n6 := ρ 1) (n7 := ρ 0) (n8 := ρ 8) (n9 := ρ 9) (n10 := ρ 10) (n11 := ρ 11) (n12 := ρ 13) (n13 := ρ 14) (n14 := ρ 18) (n15 := ρ 20) (n16 := ρ 21) (n17 := ρ 22) (n18 := ρ 23) (n19 := ρ 25) (H0 := η 0) (H1 := η 1) f34 f33 f32 f31 f30 f29 f28 f27 f26 f25 f24 f23 f22 f21 f20 f19 f18 f17 f16 f15 f14 f13 f12 f11 f10 f9 f8 f7 f6 f5 f4 f3 f2 f1 f0
theorem q_238_44 {q0 : Nat} {n0 n1 n2 n3 n4 n5 n6 n7 n8 n9 n10 n11 n12 n13 n14 n15 n16 n17 n18 n19 : Int} {H0 H1 : gH} (f0 : n0 ≤ 1200) (f1 : 0 ≤ n0) (f2 : n1 ≤ 500) (f3 : 0 ≤ n1) (f4 : n2 ≤ 1200) (f5 : 0 ≤ n2) (f6 : n3 ≤ 1200) (f7 : 0 ≤ n3) (f8 : n4 = 285) (f9 : n5 ≤ 1200) (f10 : 0 ≤ n5) (f11 : n6 ≤ 1200) (f12 : 0 ≤ n6) (f13 : n7 = 285) (f14 : (hLe T0 H0 H1 ∧ hFr s_238.2.2.2.2 H0 H1 ∧ hWt T0 H1) ∧ (Ab_238_5 n7 n6 n5 n4 n3 n2 n1 n0 H0 H1 ∧ preb_238 n7 n6 n5 H0) ∧ some q0 = some (mub_238_5 n7 n6 n5 n4 n3 n2 n1 n0 H0 H1)) (f15 : n0 < n2) (f16 : n8 = 320) (f17 : n8 = hV H1 (n4).toNat 52) (f18 : n9 ≤ 5) (f19 : 0 ≤ n9) (f20 : n9 = hV H1 (n8).toNat (n0).toNat) (f21 : n10 = 2) (f22 : n10 ≤ n9) (f23 : n11 = w32 (n1 + (-1))) (f24 : n12 = 1) (f25 : n13 = w32 (n11 - n12)) (f26 : n14 = 5) (f27 : n9 = n14) (f28 : n15 = 1) (f29 : n16 = w32 (n11 - n15)) (f30 : n17 = 2) (f31 : n9 ≠ n17) (f32 : n18 = 3) (f33 : n9 = n18) (f34 : n19 = w32 (n0 + 1)) : 0 ≤ n19 := by
  have g4 := f14.2.1.1
  unfold Ab_238_5 at g4
  have g3 := f14.2.1.2
  unfold preb_238 at g3
  have e0 : hV H1 320 = hV H0 320 := fRow f14.1.2.1 320 kR_238_320
  have e1 : n9 = hV H0 320 (n0).toNat := (by rw [f16] at f20; exact f20 : n9 = hV H1 320 (n0).toNat).trans ((congrFun e0 _))
  have k0 := g4.1
  have k1 := g4.2.1
  have y0 := g4.2.2.1
  have y1 := g4.2.2.2.1
  have y2 := g4.2.2.2.2
  have p0 := g3.1
  have p1 := g3.2
  try simp only [e0] at y0
  clear g3
  clear g4
  clear f17 f20 e0
  clear f14
  subst e1
  try have cg := CG_at p0 (by omega) (by omega) (c := n0) (by omega)
  first
  | (have ix0 : n19 = n0 + 1 := Eq.trans f34 (w32_iv (Iad (Iat f1 f0) (IC 1)) (by decide)); subst ix0; clear f34)
  | (have ix0 : n19 = n0 + 1 := Eq.trans f34 (w32_id (by omega) (by omega)); subst ix0; clear f34)
  | (unfold w32 at f34; have ix0 : n19 = n0 + 1 := (by omega); subst ix0)
  | skip
  try unfold w32 at f23
  try unfold w32 at f25
  try unfold w32 at f29
  try unfold w32 at f34
  try subst k1
  try subst k0
  subst y0
  omega
def g_238_5_43 : vG := ([(10, [25, 7], [], 1), (40, [9, 23], [], 0), (0, [23], [], 3), (41, [9, 22], [], 0), (0, [22], [], 2), (2, [21, 11, 20], [], 0), (0, [20], [], 1), (40, [9, 18], [], 0), (0, [18], [], 5), (2, [14, 11, 13], [], 0), (0, [13], [], 1), (10, [11, 6], [], -1), (43, [9, 10], [], 0), (0, [10], [], 2), (22, [9, 8, 7], [1], 0), (90, [9], [], 0), (91, [9], [], 5), (20, [8, 3], [1], 52), (0, [8], [], 320), (42, [7, 5], [], 0), (5000, [0, 1, 2, 3, 4, 5, 6, 7], [0, 1], 5), (0, [0], [], 285), (90, [1], [], 0), (91, [1], [], 1200), (90, [2], [], 0), (91, [2], [], 1200), (0, [3], [], 285), (90, [4], [], 0), (91, [4], [], 1200), (90, [5], [], 0), (91, [5], [], 1200), (90, [6], [], 0), (91, [6], [], 500), (90, [7], [], 0), (91, [7], [], 1200)], (90, [25], [], 0))
theorem c_238_5_43 {q0 : Nat} : vOkm T0 (eP e_238 L_238 A_238 mu_238 (some q0)) 3 g_238_5_43 := vOk_inI fun ρ η f0 f1 f2 f3 f4 f5 f6 f7 f8 f9 f10 f11 f12 f13 f14 f15 f16 f17 f18 f19 f20 f21 f22 f23 f24 f25 f26 f27 f28 f29 f30 f31 f32 f33 f34 => q_238_44 (q0 := q0) (n0 := ρ 7) (n1 := ρ 6) (n2 := ρ 5) (n3 := ρ 4) (n4 := ρ 3) (n5 := ρ 2) (n6 := ρ 1) (n7 := ρ 0) (n8 := ρ 8) (n9 := ρ 9) (n10 := ρ 10) (n11 := ρ 11) (n12 := ρ 13) (n13 := ρ 14) (n14 := ρ 18) (n15 := ρ 20) (n16 := ρ 21) (n17 := ρ 22) (n18 := ρ 23) (n19 := ρ 25) (H0 := η 0) (H1 := η 1) f34 f33 f32 f31 f30 f29 f28 f27 f26 f25 f24 f23 f22 f21 f20 f19 f18 f17 f16 f15 f14 f13 f12 f11 f10 f9 f8 f7 f6 f5 f4 f3 f2 f1 f0
theorem q_238_45 {q0 : Nat} {n0 n1 n2 n3 n4 n5 n6 n7 n8 n9 n10 n11 n12 n13 n14 n15 n16 n17 n18 n19 : Int} {H0 H1 : gH} (f0 : n0 ≤ 1200) (f1 : 0 ≤ n0) (f2 : n1 ≤ 500) (f3 : 0 ≤ n1) (f4 : n2 ≤ 1200) (f5 : 0 ≤ n2) (f6 : n3 ≤ 1200) (f7 : 0 ≤ n3) (f8 : n4 = 285) (f9 : n5 ≤ 1200) (f10 : 0 ≤ n5) (f11 : n6 ≤ 1200) (f12 : 0 ≤ n6) (f13 : n7 = 285) (f14 : (hLe T0 H0 H1 ∧ hFr s_238.2.2.2.2 H0 H1 ∧ hWt T0 H1) ∧ (Ab_238_5 n7 n6 n5 n4 n3 n2 n1 n0 H0 H1 ∧ preb_238 n7 n6 n5 H0) ∧ some q0 = some (mub_238_5 n7 n6 n5 n4 n3 n2 n1 n0 H0 H1)) (f15 : n0 < n2) (f16 : n8 = 320) (f17 : n8 = hV H1 (n4).toNat 52) (f18 : n9 ≤ 5) (f19 : 0 ≤ n9) (f20 : n9 = hV H1 (n8).toNat (n0).toNat) (f21 : n10 = 2) (f22 : n10 ≤ n9) (f23 : n11 = w32 (n1 + (-1))) (f24 : n12 = 1) (f25 : n13 = w32 (n11 - n12)) (f26 : n14 = 5) (f27 : n9 = n14) (f28 : n15 = 1) (f29 : n16 = w32 (n11 - n15)) (f30 : n17 = 2) (f31 : n9 ≠ n17) (f32 : n18 = 3) (f33 : n9 = n18) (f34 : n19 = w32 (n0 + 1)) : n19 ≤ 1200 := by
  have g4 := f14.2.1.1
  unfold Ab_238_5 at g4
  have g3 := f14.2.1.2
  unfold preb_238 at g3
  have e0 : hV H1 320 = hV H0 320 := fRow f14.1.2.1 320 kR_238_320
  have e1 : n9 = hV H0 320 (n0).toNat := (by rw [f16] at f20; exact f20 : n9 = hV H1 320 (n0).toNat).trans ((congrFun e0 _))
  have k0 := g4.1
  have k1 := g4.2.1
  have y0 := g4.2.2.1
  have y1 := g4.2.2.2.1
  have y2 := g4.2.2.2.2
  have p0 := g3.1
  have p1 := g3.2
  try simp only [e0] at y0
  clear g3
  clear g4
  clear f17 f20 e0
  clear f14
  subst e1
  try have cg := CG_at p0 (by omega) (by omega) (c := n0) (by omega)
  first
  | (have ix0 : n19 = n0 + 1 := Eq.trans f34 (w32_iv (Iad (Iat f1 f0) (IC 1)) (by decide)); subst ix0; clear f34)
  | (have ix0 : n19 = n0 + 1 := Eq.trans f34 (w32_id (by omega) (by omega)); subst ix0; clear f34)
  | (unfold w32 at f34; have ix0 : n19 = n0 + 1 := (by omega); subst ix0)
  | skip
  try unfold w32 at f23
  try unfold w32 at f25
  try unfold w32 at f29
  try unfold w32 at f34
  try subst k1
  try subst k0
  subst y0
  omega
def g_238_5_44 : vG := ([(10, [25, 7], [], 1), (40, [9, 23], [], 0), (0, [23], [], 3), (41, [9, 22], [], 0), (0, [22], [], 2), (2, [21, 11, 20], [], 0), (0, [20], [], 1), (40, [9, 18], [], 0), (0, [18], [], 5), (2, [14, 11, 13], [], 0), (0, [13], [], 1), (10, [11, 6], [], -1), (43, [9, 10], [], 0), (0, [10], [], 2), (22, [9, 8, 7], [1], 0), (90, [9], [], 0), (91, [9], [], 5), (20, [8, 3], [1], 52), (0, [8], [], 320), (42, [7, 5], [], 0), (5000, [0, 1, 2, 3, 4, 5, 6, 7], [0, 1], 5), (0, [0], [], 285), (90, [1], [], 0), (91, [1], [], 1200), (90, [2], [], 0), (91, [2], [], 1200), (0, [3], [], 285), (90, [4], [], 0), (91, [4], [], 1200), (90, [5], [], 0), (91, [5], [], 1200), (90, [6], [], 0), (91, [6], [], 500), (90, [7], [], 0), (91, [7], [], 1200)], (91, [25], [], 1200))
theorem c_238_5_44 {q0 : Nat} : vOkm T0 (eP e_238 L_238 A_238 mu_238 (some q0)) 3 g_238_5_44 := vOk_inI fun ρ η f0 f1 f2 f3 f4 f5 f6 f7 f8 f9 f10 f11 f12 f13 f14 f15 f16 f17 f18 f19 f20 f21 f22 f23 f24 f25 f26 f27 f28 f29 f30 f31 f32 f33 f34 => q_238_45 (q0 := q0) (n0 := ρ 7) (n1 := ρ 6) (n2 := ρ 5) (n3 := ρ 4) (n4 := ρ 3) (n5 := ρ 2) (n6 := ρ 1) (n7 := ρ 0) (n8 := ρ 8) (n9 := ρ 9) (n10 := ρ 10) (n11 := ρ 11) (n12 := ρ 13) (n13 := ρ 14) (n14 := ρ 18) (n15 := ρ 20) (n16 := ρ 21) (n17 := ρ 22) (n18 := ρ 23) (n19 := ρ 25) (H0 := η 0) (H1 := η 1) f34 f33 f32 f31 f30 f29 f28 f27 f26 f25 f24 f23 f22 f21 f20 f19 f18 f17 f16 f15 f14 f13 f12 f11 f10 f9 f8 f7 f6 f5 f4 f3 f2 f1 f0
theorem q_238_46 {q0 : Nat} {n0 n1 n2 n3 n4 n5 n6 n7 n8 n9 n10 n11 n12 n13 n14 n15 n16 n17 n18 n19 n20 n21 n22 n23 n24 n25 : Int} {H0 H1 H2 : gH} (f0 : n0 ≤ 1200) (f1 : 0 ≤ n0) (f2 : n1 ≤ 500) (f3 : 0 ≤ n1) (f4 : n2 ≤ 1200) (f5 : 0 ≤ n2) (f6 : n3 ≤ 1200) (f7 : 0 ≤ n3) (f8 : n4 = 285) (f9 : n5 ≤ 1200) (f10 : 0 ≤ n5) (f11 : n6 ≤ 1200) (f12 : 0 ≤ n6) (f13 : n7 = 285) (f14 : (hLe T0 H0 H1 ∧ hFr s_238.2.2.2.2 H0 H1 ∧ hWt T0 H1) ∧ (Ab_238_5 n7 n6 n5 n4 n3 n2 n1 n0 H0 H1 ∧ preb_238 n7 n6 n5 H0) ∧ some q0 = some (mub_238_5 n7 n6 n5 n4 n3 n2 n1 n0 H0 H1)) (f15 : n0 < n2) (f16 : n8 = 320) (f17 : n8 = hV H1 (n4).toNat 52) (f18 : n9 ≤ 5) (f19 : 0 ≤ n9) (f20 : n9 = hV H1 (n8).toNat (n0).toNat) (f21 : n10 = 2) (f22 : n10 ≤ n9) (f23 : n11 = w32 (n1 + (-1))) (f24 : n12 = 324) (f25 : n12 = hV H1 (n4).toNat 57) (f26 : n13 = 1) (f27 : n14 = w32 (n11 - n13)) (f28 : n15 ≤ 2147483647) (f29 : (-2147483648) ≤ n15) (f30 : n15 = hV H1 (n12).toNat (n14).toNat) (f31 : n16 = 324) (f32 : n16 = hV H1 (n4).toNat 57) (f33 : n17 ≤ 2147483647) (f34 : (-2147483648) ≤ n17) (f35 : n17 = hV H1 (n16).toNat (n11).toNat) (f36 : n18 = 5) (f37 : n9 = n18) (f38 : n17 ≠ 0) (f39 : n19 = 324) (f40 : n19 = hV H1 (n4).toNat 57) (f41 : n20 = 1) (f42 : n21 = w32 (n11 - n20)) (f43 : n22 = 2) (f44 : n9 ≠ n22) (f45 : n23 = 3) (f46 : n9 = n23) (f47 : n24 = w32 (n15 - n17)) (f48 : hUpd H2 H1 n19 n21 n24) (f49 : n25 = w32 (n0 + 1)) : Ab_238_5 n7 n6 n5 n4 n3 n2 n11 n25 H0 H2 ∧ ∀ q, some q0 = some q → mub_238_5 n7 n6 n5 n4 n3 n2 n11 n25 H0 H2 < q := by
  have g4 := f14.2.1.1
  unfold Ab_238_5 at g4
  have g3 := f14.2.1.2
  unfold preb_238 at g3
  have g5 := Option.some.inj f14.2.2
  unfold mub_238_5 at g5
  unfold Ab_238_5
  unfold mub_238_5
  have e0 : hV H1 320 = hV H0 320 := fRow f14.1.2.1 320 kR_238_320
  have e1 : n9 = hV H0 320 (n0).toNat := (by rw [f16] at f20; exact f20 : n9 = hV H1 320 (n0).toNat).trans ((congrFun e0 _))
  have e2 : n15 = hV H1 324 (n14).toNat := (by rw [f24] at f30; exact f30 : n15 = hV H1 324 (n14).toNat)
  have e3 : n17 = hV H1 324 (n11).toNat := (by rw [f31] at f35; exact f35 : n17 = hV H1 324 (n11).toNat)
  have e5 : hV H2 320 = hV H0 320 := (uRowNe f48 320 (iS (show n19 = ((324 : Nat) : Int) from f39) rfl)).trans e0
  try simp only [e5]
  have k0 := g4.1
  have k1 := g4.2.1
  have y0 := g4.2.2.1
  have y1 := g4.2.2.2.1
  have y2 := g4.2.2.2.2
  have p0 := g3.1
  have p1 := g3.2
  try simp only [e0] at y0
  clear g3
  clear g4
  clear f17 f20 f25 f30 f32 f35 f40 e0 e5
  clear f14
  subst e1
  subst e2
  subst e3
  try have cg := CG_at p0 (by omega) (by omega) (c := n0) (by omega)
  first
  | (have ix0 : n11 = n1 + -1 := Eq.trans f23 (w32_iv (Iad (Iat f3 f2) (IC (-1))) (by decide)); subst ix0; clear f23)
  | (have ix0 : n11 = n1 + -1 := Eq.trans f23 (w32_id (by omega) (by omega)); subst ix0; clear f23)
  | (unfold w32 at f23; have ix0 : n11 = n1 + -1 := (by omega); subst ix0)
  | skip
  first
  | (have ix1 : n14 = (n1 + -1) - 1 := Eq.trans f27 (w32_iv (Isu (Iad (Iat f3 f2) (IC (-1))) (IC 1)) (by decide)); subst ix1; clear f27)
  | (have ix1 : n14 = (n1 + -1) - 1 := Eq.trans f27 (w32_id (by omega) (by omega)); subst ix1; clear f27)
  | (unfold w32 at f27; have ix1 : n14 = (n1 + -1) - 1 := (by omega); subst ix1)
  | skip
  first
  | (have ix2 : n21 = (n1 + -1) - 1 := Eq.trans f42 (w32_iv (Isu (Iad (Iat f3 f2) (IC (-1))) (IC 1)) (by decide)); subst ix2; clear f42)
  | (have ix2 : n21 = (n1 + -1) - 1 := Eq.trans f42 (w32_id (by omega) (by omega)); subst ix2; clear f42)
  | (unfold w32 at f42; have ix2 : n21 = (n1 + -1) - 1 := (by omega); subst ix2)
  | skip
  first
  | (have ix3 : n24 = hV H1 324 (((n1 + -1) - 1)).toNat - (hV H1 324 ((n1 + -1)).toNat) := Eq.trans f47 (w32_id (by omega) (by omega)); subst ix3; clear f47)
  | (unfold w32 at f47; have ix3 : n24 = hV H1 324 (((n1 + -1) - 1)).toNat - (hV H1 324 ((n1 + -1)).toNat) := (by omega); subst ix3)
  | skip
  first
  | (have ix4 : n25 = n0 + 1 := Eq.trans f49 (w32_iv (Iad (Iat f1 f0) (IC 1)) (by decide)); subst ix4; clear f49)
  | (have ix4 : n25 = n0 + 1 := Eq.trans f49 (w32_id (by omega) (by omega)); subst ix4; clear f49)
  | (unfold w32 at f49; have ix4 : n25 = n0 + 1 := (by omega); subst ix4)
  | skip
  try unfold w32 at f23
  try unfold w32 at f27
  try unfold w32 at f42
  try unfold w32 at f47
  try unfold w32 at f49
  try subst k1
  try subst k0
  subst y0
  refine ⟨?_, fun q hq => ?_⟩
  · refine ⟨?_, ?_, ?_, ?_, ?_⟩ <;> first | assumption | omega | trivial
  · have g6 := Option.some.inj hq
    subst g6
    omega
def g_238_5_45 : vG := ([(10, [25, 7], [], 1), (80, [19, 21, 24], [2, 1], 0), (2, [24, 15, 17], [], 0), (40, [9, 23], [], 0), (0, [23], [], 3), (41, [9, 22], [], 0), (0, [22], [], 2), (2, [21, 11, 20], [], 0), (0, [20], [], 1), (20, [19, 3], [1], 57), (0, [19], [], 324), (31, [17], [], 0), (40, [9, 18], [], 0), (0, [18], [], 5), (22, [17, 16, 11], [1], 0), (90, [17], [], -2147483648), (91, [17], [], 2147483647), (20, [16, 3], [1], 57), (0, [16], [], 324), (22, [15, 12, 14], [1], 0), (90, [15], [], -2147483648), (91, [15], [], 2147483647), (2, [14, 11, 13], [], 0), (0, [13], [], 1), (20, [12, 3], [1], 57), (0, [12], [], 324), (10, [11, 6], [], -1), (43, [9, 10], [], 0), (0, [10], [], 2), (22, [9, 8, 7], [1], 0), (90, [9], [], 0), (91, [9], [], 5), (20, [8, 3], [1], 52), (0, [8], [], 320), (42, [7, 5], [], 0), (5000, [0, 1, 2, 3, 4, 5, 6, 7], [0, 1], 5), (0, [0], [], 285), (90, [1], [], 0), (91, [1], [], 1200), (90, [2], [], 0), (91, [2], [], 1200), (0, [3], [], 285), (90, [4], [], 0), (91, [4], [], 1200), (90, [5], [], 0), (91, [5], [], 1200), (90, [6], [], 0), (91, [6], [], 500), (90, [7], [], 0), (91, [7], [], 1200)], (4000, [3, 4, 5, 11, 25], [2], 5))
theorem c_238_5_45 {q0 : Nat} : vOkm T0 (eP e_238 L_238 A_238 mu_238 (some q0)) 3 g_238_5_45 := vOk_inI fun ρ η f0 f1 f2 f3 f4 f5 f6 f7 f8 f9 f10 f11 f12 f13 f14 f15 f16 f17 f18 f19 f20 f21 f22 f23 f24 f25 f26 f27 f28 f29 f30 f31 f32 f33 f34 f35 f36 f37 f38 f39 f40 f41 f42 f43 f44 f45 f46 f47 f48 f49 => q_238_46 (q0 := q0) (n0 := ρ 7) (n1 := ρ 6) (n2 := ρ 5) (n3 := ρ 4) (n4 := ρ 3) (n5 := ρ 2) (n6 := ρ 1) (n7 := ρ 0) (n8 := ρ 8) (n9 := ρ 9) (n10 := ρ 10) (n11 := ρ 11) (n12 := ρ 12) (n13 := ρ 13) (n14 := ρ 14) (n15 := ρ 15) (n16 := ρ 16) (n17 := ρ 17) (n18 := ρ 18) (n19 := ρ 19) (n20 := ρ 20) (n21 := ρ 21) (n22 := ρ 22) (n23 := ρ 23) (n24 := ρ 24) (n25 := ρ 25) (H0 := η 0) (H1 := η 1) (H2 := η 2) f49 f48 f47 f46 f45 f44 f43 f42 f41 f40 f39 f38 f37 f36 f35 f34 f33 f32 f31 f30 f29 f28 f27 f26 f25 f24 f23 f22 f21 f20 f19 f18 f17 f16 f15 f14 f13 f12 f11 f10 f9 f8 f7 f6 f5 f4 f3 f2 f1 f0
theorem q_238_47 {q0 : Nat} {n0 n1 n2 n3 n4 n5 n6 n7 n8 n9 n10 n11 n12 n13 n14 n15 n16 n17 : Int} {H0 H1 : gH} (f0 : n0 ≤ 1200) (f1 : 0 ≤ n0) (f2 : n1 ≤ 500) (f3 : 0 ≤ n1) (f4 : n2 ≤ 1200) (f5 : 0 ≤ n2) (f6 : n3 ≤ 1200) (f7 : 0 ≤ n3) (f8 : n4 = 285) (f9 : n5 ≤ 1200) (f10 : 0 ≤ n5) (f11 : n6 ≤ 1200) (f12 : 0 ≤ n6) (f13 : n7 = 285) (f14 : (hLe T0 H0 H1 ∧ hFr s_238.2.2.2.2 H0 H1 ∧ hWt T0 H1) ∧ (Ab_238_5 n7 n6 n5 n4 n3 n2 n1 n0 H0 H1 ∧ preb_238 n7 n6 n5 H0) ∧ some q0 = some (mub_238_5 n7 n6 n5 n4 n3 n2 n1 n0 H0 H1)) (f15 : n0 < n2) (f16 : n8 = 320) (f17 : n8 = hV H1 (n4).toNat 52) (f18 : n9 ≤ 5) (f19 : 0 ≤ n9) (f20 : n9 = hV H1 (n8).toNat (n0).toNat) (f21 : n10 = 2) (f22 : n10 ≤ n9) (f23 : n11 = w32 (n1 + (-1))) (f24 : n12 = 1) (f25 : n13 = w32 (n11 - n12)) (f26 : n14 = 5) (f27 : n9 = n14) (f28 : n15 = 1) (f29 : n16 = w32 (n11 - n15)) (f30 : n17 = 2) (f31 : n9 = n17) : 0 ≤ n16 ∧ n16 < 500 := by
  have g4 := f14.2.1.1
  unfold Ab_238_5 at g4
  have g3 := f14.2.1.2
  unfold preb_238 at g3
  have e0 : hV H1 320 = hV H0 320 := fRow f14.1.2.1 320 kR_238_320
  have e1 : n9 = hV H0 320 (n0).toNat := (by rw [f16] at f20; exact f20 : n9 = hV H1 320 (n0).toNat).trans ((congrFun e0 _))
  have k0 := g4.1
  have k1 := g4.2.1
  have y0 := g4.2.2.1
  have y1 := g4.2.2.2.1
  have y2 := g4.2.2.2.2
  have p0 := g3.1
  have p1 := g3.2
  try simp only [e0] at y0
  clear g3
  clear g4
  clear f17 f20 e0
  clear f14
  subst e1
  try have cg := CG_at p0 (by omega) (by omega) (c := n0) (by omega)
  first
  | (have ix0 : n11 = n1 + -1 := Eq.trans f23 (w32_iv (Iad (Iat f3 f2) (IC (-1))) (by decide)); subst ix0; clear f23)
  | (have ix0 : n11 = n1 + -1 := Eq.trans f23 (w32_id (by omega) (by omega)); subst ix0; clear f23)
  | (unfold w32 at f23; have ix0 : n11 = n1 + -1 := (by omega); subst ix0)
  | skip
  first
  | (have ix1 : n16 = (n1 + -1) - 1 := Eq.trans f29 (w32_iv (Isu (Iad (Iat f3 f2) (IC (-1))) (IC 1)) (by decide)); subst ix1; clear f29)
  | (have ix1 : n16 = (n1 + -1) - 1 := Eq.trans f29 (w32_id (by omega) (by omega)); subst ix1; clear f29)
  | (unfold w32 at f29; have ix1 : n16 = (n1 + -1) - 1 := (by omega); subst ix1)
  | skip
  try unfold w32 at f23
  try unfold w32 at f25
  try unfold w32 at f29
  try subst k1
  try subst k0
  subst y0
  omega
def g_238_5_46 : vG := ([(40, [9, 22], [], 0), (0, [22], [], 2), (2, [21, 11, 20], [], 0), (0, [20], [], 1), (40, [9, 18], [], 0), (0, [18], [], 5), (2, [14, 11, 13], [], 0), (0, [13], [], 1), (10, [11, 6], [], -1), (43, [9, 10], [], 0), (0, [10], [], 2), (22, [9, 8, 7], [1], 0), (90, [9], [], 0), (91, [9], [], 5), (20, [8, 3], [1], 52), (0, [8], [], 320), (42, [7, 5], [], 0), (5000, [0, 1, 2, 3, 4, 5, 6, 7], [0, 1], 5), (0, [0], [], 285), (90, [1], [], 0), (91, [1], [], 1200), (90, [2], [], 0), (91, [2], [], 1200), (0, [3], [], 285), (90, [4], [], 0), (91, [4], [], 1200), (90, [5], [], 0), (91, [5], [], 1200), (90, [6], [], 0), (91, [6], [], 500), (90, [7], [], 0), (91, [7], [], 1200)], (70, [21], [], 500))
theorem c_238_5_46 {q0 : Nat} : vOkm T0 (eP e_238 L_238 A_238 mu_238 (some q0)) 3 g_238_5_46 := vOk_inI fun ρ η f0 f1 f2 f3 f4 f5 f6 f7 f8 f9 f10 f11 f12 f13 f14 f15 f16 f17 f18 f19 f20 f21 f22 f23 f24 f25 f26 f27 f28 f29 f30 f31 => q_238_47 (q0 := q0) (n0 := ρ 7) (n1 := ρ 6) (n2 := ρ 5) (n3 := ρ 4) (n4 := ρ 3) (n5 := ρ 2) (n6 := ρ 1) (n7 := ρ 0) (n8 := ρ 8) (n9 := ρ 9) (n10 := ρ 10) (n11 := ρ 11) (n12 := ρ 13) (n13 := ρ 14) (n14 := ρ 18) (n15 := ρ 20) (n16 := ρ 21) (n17 := ρ 22) (H0 := η 0) (H1 := η 1) f31 f30 f29 f28 f27 f26 f25 f24 f23 f22 f21 f20 f19 f18 f17 f16 f15 f14 f13 f12 f11 f10 f9 f8 f7 f6 f5 f4 f3 f2 f1 f0
theorem q_238_48 {q0 : Nat} {n0 n1 n2 n3 n4 n5 n6 n7 n8 n9 n10 n11 n12 n13 n14 n15 n16 n17 n18 : Int} {H0 H1 : gH} (f0 : n0 ≤ 1200) (f1 : 0 ≤ n0) (f2 : n1 ≤ 500) (f3 : 0 ≤ n1) (f4 : n2 ≤ 1200) (f5 : 0 ≤ n2) (f6 : n3 ≤ 1200) (f7 : 0 ≤ n3) (f8 : n4 = 285) (f9 : n5 ≤ 1200) (f10 : 0 ≤ n5) (f11 : n6 ≤ 1200) (f12 : 0 ≤ n6) (f13 : n7 = 285) (f14 : (hLe T0 H0 H1 ∧ hFr s_238.2.2.2.2 H0 H1 ∧ hWt T0 H1) ∧ (Ab_238_5 n7 n6 n5 n4 n3 n2 n1 n0 H0 H1 ∧ preb_238 n7 n6 n5 H0) ∧ some q0 = some (mub_238_5 n7 n6 n5 n4 n3 n2 n1 n0 H0 H1)) (f15 : n0 < n2) (f16 : n8 = 320) (f17 : n8 = hV H1 (n4).toNat 52) (f18 : n9 ≤ 5) (f19 : 0 ≤ n9) (f20 : n9 = hV H1 (n8).toNat (n0).toNat) (f21 : n10 = 2) (f22 : n10 ≤ n9) (f23 : n11 = w32 (n1 + (-1))) (f24 : n12 = 1) (f25 : n13 = w32 (n11 - n12)) (f26 : n14 = 5) (f27 : n9 = n14) (f28 : n15 = 1) (f29 : n16 = w32 (n11 - n15)) (f30 : n17 = 2) (f31 : n9 = n17) (f32 : n18 = w32 (n0 + 1)) : 0 ≤ n11 := by
  have g4 := f14.2.1.1
  unfold Ab_238_5 at g4
  have g3 := f14.2.1.2
  unfold preb_238 at g3
  have e0 : hV H1 320 = hV H0 320 := fRow f14.1.2.1 320 kR_238_320
  have e1 : n9 = hV H0 320 (n0).toNat := (by rw [f16] at f20; exact f20 : n9 = hV H1 320 (n0).toNat).trans ((congrFun e0 _))
  have k0 := g4.1
  have k1 := g4.2.1
  have y0 := g4.2.2.1
  have y1 := g4.2.2.2.1
  have y2 := g4.2.2.2.2
  have p0 := g3.1
  have p1 := g3.2
  try simp only [e0] at y0
  clear g3
  clear g4
  clear f17 f20 e0
  clear f14
  subst e1
  try have cg := CG_at p0 (by omega) (by omega) (c := n0) (by omega)
  first
  | (have ix0 : n11 = n1 + -1 := Eq.trans f23 (w32_iv (Iad (Iat f3 f2) (IC (-1))) (by decide)); subst ix0; clear f23)
  | (have ix0 : n11 = n1 + -1 := Eq.trans f23 (w32_id (by omega) (by omega)); subst ix0; clear f23)
  | (unfold w32 at f23; have ix0 : n11 = n1 + -1 := (by omega); subst ix0)
  | skip
  try unfold w32 at f23
  try unfold w32 at f25
  try unfold w32 at f29
  try unfold w32 at f32
  try subst k1
  try subst k0
  subst y0
  omega
def g_238_5_47 : vG := ([(10, [24, 7], [], 1), (40, [9, 22], [], 0), (0, [22], [], 2), (2, [21, 11, 20], [], 0), (0, [20], [], 1), (40, [9, 18], [], 0), (0, [18], [], 5), (2, [14, 11, 13], [], 0), (0, [13], [], 1), (10, [11, 6], [], -1), (43, [9, 10], [], 0), (0, [10], [], 2), (22, [9, 8, 7], [1], 0), (90, [9], [], 0), (91, [9], [], 5), (20, [8, 3], [1], 52), (0, [8], [], 320), (42, [7, 5], [], 0), (5000, [0, 1, 2, 3, 4, 5, 6, 7], [0, 1], 5), (0, [0], [], 285), (90, [1], [], 0), (91, [1], [], 1200), (90, [2], [], 0), (91, [2], [], 1200), (0, [3], [], 285), (90, [4], [], 0), (91, [4], [], 1200), (90, [5], [], 0), (91, [5], [], 1200), (90, [6], [], 0), (91, [6], [], 500), (90, [7], [], 0), (91, [7], [], 1200)], (90, [11], [], 0))
theorem c_238_5_47 {q0 : Nat} : vOkm T0 (eP e_238 L_238 A_238 mu_238 (some q0)) 3 g_238_5_47 := vOk_inI fun ρ η f0 f1 f2 f3 f4 f5 f6 f7 f8 f9 f10 f11 f12 f13 f14 f15 f16 f17 f18 f19 f20 f21 f22 f23 f24 f25 f26 f27 f28 f29 f30 f31 f32 => q_238_48 (q0 := q0) (n0 := ρ 7) (n1 := ρ 6) (n2 := ρ 5) (n3 := ρ 4) (n4 := ρ 3) (n5 := ρ 2) (n6 := ρ 1) (n7 := ρ 0) (n8 := ρ 8) (n9 := ρ 9) (n10 := ρ 10) (n11 := ρ 11) (n12 := ρ 13) (n13 := ρ 14) (n14 := ρ 18) (n15 := ρ 20) (n16 := ρ 21) (n17 := ρ 22) (n18 := ρ 24) (H0 := η 0) (H1 := η 1) f32 f31 f30 f29 f28 f27 f26 f25 f24 f23 f22 f21 f20 f19 f18 f17 f16 f15 f14 f13 f12 f11 f10 f9 f8 f7 f6 f5 f4 f3 f2 f1 f0
theorem q_238_49 {q0 : Nat} {n0 n1 n2 n3 n4 n5 n6 n7 n8 n9 n10 n11 n12 n13 n14 n15 n16 n17 n18 : Int} {H0 H1 : gH} (f0 : n0 ≤ 1200) (f1 : 0 ≤ n0) (f2 : n1 ≤ 500) (f3 : 0 ≤ n1) (f4 : n2 ≤ 1200) (f5 : 0 ≤ n2) (f6 : n3 ≤ 1200) (f7 : 0 ≤ n3) (f8 : n4 = 285) (f9 : n5 ≤ 1200) (f10 : 0 ≤ n5) (f11 : n6 ≤ 1200) (f12 : 0 ≤ n6) (f13 : n7 = 285) (f14 : (hLe T0 H0 H1 ∧ hFr s_238.2.2.2.2 H0 H1 ∧ hWt T0 H1) ∧ (Ab_238_5 n7 n6 n5 n4 n3 n2 n1 n0 H0 H1 ∧ preb_238 n7 n6 n5 H0) ∧ some q0 = some (mub_238_5 n7 n6 n5 n4 n3 n2 n1 n0 H0 H1)) (f15 : n0 < n2) (f16 : n8 = 320) (f17 : n8 = hV H1 (n4).toNat 52) (f18 : n9 ≤ 5) (f19 : 0 ≤ n9) (f20 : n9 = hV H1 (n8).toNat (n0).toNat) (f21 : n10 = 2) (f22 : n10 ≤ n9) (f23 : n11 = w32 (n1 + (-1))) (f24 : n12 = 1) (f25 : n13 = w32 (n11 - n12)) (f26 : n14 = 5) (f27 : n9 = n14) (f28 : n15 = 1) (f29 : n16 = w32 (n11 - n15)) (f30 : n17 = 2) (f31 : n9 = n17) (f32 : n18 = w32 (n0 + 1)) : n11 ≤ 500 := by
  have g4 := f14.2.1.1
  unfold Ab_238_5 at g4
  have g3 := f14.2.1.2
  unfold preb_238 at g3
  have e0 : hV H1 320 = hV H0 320 := fRow f14.1.2.1 320 kR_238_320
  have e1 : n9 = hV H0 320 (n0).toNat := (by rw [f16] at f20; exact f20 : n9 = hV H1 320 (n0).toNat).trans ((congrFun e0 _))
  have k0 := g4.1
  have k1 := g4.2.1
  have y0 := g4.2.2.1
  have y1 := g4.2.2.2.1
  have y2 := g4.2.2.2.2
  have p0 := g3.1
  have p1 := g3.2
  try simp only [e0] at y0
  clear g3
  clear g4
  clear f17 f20 e0
  clear f14
  subst e1
  try have cg := CG_at p0 (by omega) (by omega) (c := n0) (by omega)
  first
  | (have ix0 : n11 = n1 + -1 := Eq.trans f23 (w32_iv (Iad (Iat f3 f2) (IC (-1))) (by decide)); subst ix0; clear f23)
  | (have ix0 : n11 = n1 + -1 := Eq.trans f23 (w32_id (by omega) (by omega)); subst ix0; clear f23)
  | (unfold w32 at f23; have ix0 : n11 = n1 + -1 := (by omega); subst ix0)
  | skip
  try unfold w32 at f23
  try unfold w32 at f25
  try unfold w32 at f29
  try unfold w32 at f32
  try subst k1
  try subst k0
  subst y0
  omega
def g_238_5_48 : vG := ([(10, [24, 7], [], 1), (40, [9, 22], [], 0), (0, [22], [], 2), (2, [21, 11, 20], [], 0), (0, [20], [], 1), (40, [9, 18], [], 0), (0, [18], [], 5), (2, [14, 11, 13], [], 0), (0, [13], [], 1), (10, [11, 6], [], -1), (43, [9, 10], [], 0), (0, [10], [], 2), (22, [9, 8, 7], [1], 0), (90, [9], [], 0), (91, [9], [], 5), (20, [8, 3], [1], 52), (0, [8], [], 320), (42, [7, 5], [], 0), (5000, [0, 1, 2, 3, 4, 5, 6, 7], [0, 1], 5), (0, [0], [], 285), (90, [1], [], 0), (91, [1], [], 1200), (90, [2], [], 0), (91, [2], [], 1200), (0, [3], [], 285), (90, [4], [], 0), (91, [4], [], 1200), (90, [5], [], 0), (91, [5], [], 1200), (90, [6], [], 0), (91, [6], [], 500), (90, [7], [], 0), (91, [7], [], 1200)], (91, [11], [], 500))
theorem c_238_5_48 {q0 : Nat} : vOkm T0 (eP e_238 L_238 A_238 mu_238 (some q0)) 3 g_238_5_48 := vOk_inI fun ρ η f0 f1 f2 f3 f4 f5 f6 f7 f8 f9 f10 f11 f12 f13 f14 f15 f16 f17 f18 f19 f20 f21 f22 f23 f24 f25 f26 f27 f28 f29 f30 f31 f32 => q_238_49 (q0 := q0) (n0 := ρ 7) (n1 := ρ 6) (n2 := ρ 5) (n3 := ρ 4) (n4 := ρ 3) (n5 := ρ 2) (n6 := ρ 1) (n7 := ρ 0) (n8 := ρ 8) (n9 := ρ 9) (n10 := ρ 10) (n11 := ρ 11) (n12 := ρ 13) (n13 := ρ 14) (n14 := ρ 18) (n15 := ρ 20) (n16 := ρ 21) (n17 := ρ 22) (n18 := ρ 24) (H0 := η 0) (H1 := η 1) f32 f31 f30 f29 f28 f27 f26 f25 f24 f23 f22 f21 f20 f19 f18 f17 f16 f15 f14 f13 f12 f11 f10 f9 f8 f7 f6 f5 f4 f3 f2 f1 f0
theorem q_238_50 {q0 : Nat} {n0 n1 n2 n3 n4 n5 n6 n7 n8 n9 n10 n11 n12 n13 n14 n15 n16 n17 n18 : Int} {H0 H1 : gH} (f0 : n0 ≤ 1200) (f1 : 0 ≤ n0) (f2 : n1 ≤ 500) (f3 : 0 ≤ n1) (f4 : n2 ≤ 1200) (f5 : 0 ≤ n2) (f6 : n3 ≤ 1200) (f7 : 0 ≤ n3) (f8 : n4 = 285) (f9 : n5 ≤ 1200) (f10 : 0 ≤ n5) (f11 : n6 ≤ 1200) (f12 : 0 ≤ n6) (f13 : n7 = 285) (f14 : (hLe T0 H0 H1 ∧ hFr s_238.2.2.2.2 H0 H1 ∧ hWt T0 H1) ∧ (Ab_238_5 n7 n6 n5 n4 n3 n2 n1 n0 H0 H1 ∧ preb_238 n7 n6 n5 H0) ∧ some q0 = some (mub_238_5 n7 n6 n5 n4 n3 n2 n1 n0 H0 H1)) (f15 : n0 < n2) (f16 : n8 = 320) (f17 : n8 = hV H1 (n4).toNat 52) (f18 : n9 ≤ 5) (f19 : 0 ≤ n9) (f20 : n9 = hV H1 (n8).toNat (n0).toNat) (f21 : n10 = 2) (f22 : n10 ≤ n9) (f23 : n11 = w32 (n1 + (-1))) (f24 : n12 = 1) (f25 : n13 = w32 (n11 - n12)) (f26 : n14 = 5) (f27 : n9 = n14) (f28 : n15 = 1) (f29 : n16 = w32 (n11 - n15)) (f30 : n17 = 2) (f31 : n9 = n17) (f32 : n18 = w32 (n0 + 1)) : 0 ≤ n18 := by
  have g4 := f14.2.1.1
  unfold Ab_238_5 at g4
  have g3 := f14.2.1.2
  unfold preb_238 at g3
  have e0 : hV H1 320 = hV H0 320 := fRow f14.1.2.1 320 kR_238_320
  have e1 : n9 = hV H0 320 (n0).toNat := (by rw [f16] at f20; exact f20 : n9 = hV H1 320 (n0).toNat).trans ((congrFun e0 _))
  have k0 := g4.1
  have k1 := g4.2.1
  have y0 := g4.2.2.1
  have y1 := g4.2.2.2.1
  have y2 := g4.2.2.2.2
  have p0 := g3.1
  have p1 := g3.2
  try simp only [e0] at y0
  clear g3
  clear g4
  clear f17 f20 e0
  clear f14
  subst e1
  try have cg := CG_at p0 (by omega) (by omega) (c := n0) (by omega)
  first
  | (have ix0 : n18 = n0 + 1 := Eq.trans f32 (w32_iv (Iad (Iat f1 f0) (IC 1)) (by decide)); subst ix0; clear f32)
  | (have ix0 : n18 = n0 + 1 := Eq.trans f32 (w32_id (by omega) (by omega)); subst ix0; clear f32)
  | (unfold w32 at f32; have ix0 : n18 = n0 + 1 := (by omega); subst ix0)
  | skip
  try unfold w32 at f23
  try unfold w32 at f25
  try unfold w32 at f29
  try unfold w32 at f32
  try subst k1
  try subst k0
  subst y0
  omega
def g_238_5_49 : vG := ([(10, [24, 7], [], 1), (40, [9, 22], [], 0), (0, [22], [], 2), (2, [21, 11, 20], [], 0), (0, [20], [], 1), (40, [9, 18], [], 0), (0, [18], [], 5), (2, [14, 11, 13], [], 0), (0, [13], [], 1), (10, [11, 6], [], -1), (43, [9, 10], [], 0), (0, [10], [], 2), (22, [9, 8, 7], [1], 0), (90, [9], [], 0), (91, [9], [], 5), (20, [8, 3], [1], 52), (0, [8], [], 320), (42, [7, 5], [], 0), (5000, [0, 1, 2, 3, 4, 5, 6, 7], [0, 1], 5), (0, [0], [], 285), (90, [1], [], 0), (91, [1], [], 1200), (90, [2], [], 0), (91, [2], [], 1200), (0, [3], [], 285), (90, [4], [], 0), (91, [4], [], 1200), (90, [5], [], 0), (91, [5], [], 1200), (90, [6], [], 0), (91, [6], [], 500), (90, [7], [], 0), (91, [7], [], 1200)], (90, [24], [], 0))
theorem c_238_5_49 {q0 : Nat} : vOkm T0 (eP e_238 L_238 A_238 mu_238 (some q0)) 3 g_238_5_49 := vOk_inI fun ρ η f0 f1 f2 f3 f4 f5 f6 f7 f8 f9 f10 f11 f12 f13 f14 f15 f16 f17 f18 f19 f20 f21 f22 f23 f24 f25 f26 f27 f28 f29 f30 f31 f32 => q_238_50 (q0 := q0) (n0 := ρ 7) (n1 := ρ 6) (n2 := ρ 5) (n3 := ρ 4) (n4 := ρ 3) (n5 := ρ 2) (n6 := ρ 1) (n7 := ρ 0) (n8 := ρ 8) (n9 := ρ 9) (n10 := ρ 10) (n11 := ρ 11) (n12 := ρ 13) (n13 := ρ 14) (n14 := ρ 18) (n15 := ρ 20) (n16 := ρ 21) (n17 := ρ 22) (n18 := ρ 24) (H0 := η 0) (H1 := η 1) f32 f31 f30 f29 f28 f27 f26 f25 f24 f23 f22 f21 f20 f19 f18 f17 f16 f15 f14 f13 f12 f11 f10 f9 f8 f7 f6 f5 f4 f3 f2 f1 f0
theorem q_238_51 {q0 : Nat} {n0 n1 n2 n3 n4 n5 n6 n7 n8 n9 n10 n11 n12 n13 n14 n15 n16 n17 n18 : Int} {H0 H1 : gH} (f0 : n0 ≤ 1200) (f1 : 0 ≤ n0) (f2 : n1 ≤ 500) (f3 : 0 ≤ n1) (f4 : n2 ≤ 1200) (f5 : 0 ≤ n2) (f6 : n3 ≤ 1200) (f7 : 0 ≤ n3) (f8 : n4 = 285) (f9 : n5 ≤ 1200) (f10 : 0 ≤ n5) (f11 : n6 ≤ 1200) (f12 : 0 ≤ n6) (f13 : n7 = 285) (f14 : (hLe T0 H0 H1 ∧ hFr s_238.2.2.2.2 H0 H1 ∧ hWt T0 H1) ∧ (Ab_238_5 n7 n6 n5 n4 n3 n2 n1 n0 H0 H1 ∧ preb_238 n7 n6 n5 H0) ∧ some q0 = some (mub_238_5 n7 n6 n5 n4 n3 n2 n1 n0 H0 H1)) (f15 : n0 < n2) (f16 : n8 = 320) (f17 : n8 = hV H1 (n4).toNat 52) (f18 : n9 ≤ 5) (f19 : 0 ≤ n9) (f20 : n9 = hV H1 (n8).toNat (n0).toNat) (f21 : n10 = 2) (f22 : n10 ≤ n9) (f23 : n11 = w32 (n1 + (-1))) (f24 : n12 = 1) (f25 : n13 = w32 (n11 - n12)) (f26 : n14 = 5) (f27 : n9 = n14) (f28 : n15 = 1) (f29 : n16 = w32 (n11 - n15)) (f30 : n17 = 2) (f31 : n9 = n17) (f32 : n18 = w32 (n0 + 1)) : n18 ≤ 1200 := by
  have g4 := f14.2.1.1
  unfold Ab_238_5 at g4
  have g3 := f14.2.1.2
  unfold preb_238 at g3
  have e0 : hV H1 320 = hV H0 320 := fRow f14.1.2.1 320 kR_238_320
  have e1 : n9 = hV H0 320 (n0).toNat := (by rw [f16] at f20; exact f20 : n9 = hV H1 320 (n0).toNat).trans ((congrFun e0 _))
  have k0 := g4.1
  have k1 := g4.2.1
  have y0 := g4.2.2.1
  have y1 := g4.2.2.2.1
  have y2 := g4.2.2.2.2
  have p0 := g3.1
  have p1 := g3.2
  try simp only [e0] at y0
  clear g3
  clear g4
  clear f17 f20 e0
  clear f14
  subst e1
  try have cg := CG_at p0 (by omega) (by omega) (c := n0) (by omega)
  first
  | (have ix0 : n18 = n0 + 1 := Eq.trans f32 (w32_iv (Iad (Iat f1 f0) (IC 1)) (by decide)); subst ix0; clear f32)
  | (have ix0 : n18 = n0 + 1 := Eq.trans f32 (w32_id (by omega) (by omega)); subst ix0; clear f32)
  | (unfold w32 at f32; have ix0 : n18 = n0 + 1 := (by omega); subst ix0)
  | skip
  try unfold w32 at f23
  try unfold w32 at f25
  try unfold w32 at f29
  try unfold w32 at f32
  try subst k1
  try subst k0
  subst y0
  omega
def g_238_5_50 : vG := ([(10, [24, 7], [], 1), (40, [9, 22], [], 0), (0, [22], [], 2), (2, [21, 11, 20], [], 0), (0, [20], [], 1), (40, [9, 18], [], 0), (0, [18], [], 5), (2, [14, 11, 13], [], 0), (0, [13], [], 1), (10, [11, 6], [], -1), (43, [9, 10], [], 0), (0, [10], [], 2), (22, [9, 8, 7], [1], 0), (90, [9], [], 0), (91, [9], [], 5), (20, [8, 3], [1], 52), (0, [8], [], 320), (42, [7, 5], [], 0), (5000, [0, 1, 2, 3, 4, 5, 6, 7], [0, 1], 5), (0, [0], [], 285), (90, [1], [], 0), (91, [1], [], 1200), (90, [2], [], 0), (91, [2], [], 1200), (0, [3], [], 285), (90, [4], [], 0), (91, [4], [], 1200), (90, [5], [], 0), (91, [5], [], 1200), (90, [6], [], 0), (91, [6], [], 500), (90, [7], [], 0), (91, [7], [], 1200)], (91, [24], [], 1200))
theorem c_238_5_50 {q0 : Nat} : vOkm T0 (eP e_238 L_238 A_238 mu_238 (some q0)) 3 g_238_5_50 := vOk_inI fun ρ η f0 f1 f2 f3 f4 f5 f6 f7 f8 f9 f10 f11 f12 f13 f14 f15 f16 f17 f18 f19 f20 f21 f22 f23 f24 f25 f26 f27 f28 f29 f30 f31 f32 => q_238_51 (q0 := q0) (n0 := ρ 7) (n1 := ρ 6) (n2 := ρ 5) (n3 := ρ 4) (n4 := ρ 3) (n5 := ρ 2) (n6 := ρ 1) (n7 := ρ 0) (n8 := ρ 8) (n9 := ρ 9) (n10 := ρ 10) (n11 := ρ 11) (n12 := ρ 13) (n13 := ρ 14) (n14 := ρ 18) (n15 := ρ 20) (n16 := ρ 21) (n17 := ρ 22) (n18 := ρ 24) (H0 := η 0) (H1 := η 1) f32 f31 f30 f29 f28 f27 f26 f25 f24 f23 f22 f21 f20 f19 f18 f17 f16 f15 f14 f13 f12 f11 f10 f9 f8 f7 f6 f5 f4 f3 f2 f1 f0
theorem q_238_52 {q0 : Nat} {n0 n1 n2 n3 n4 n5 n6 n7 n8 n9 n10 n11 n12 n13 n14 n15 n16 n17 n18 n19 n20 n21 n22 n23 n24 : Int} {H0 H1 H2 : gH} (f0 : n0 ≤ 1200) (f1 : 0 ≤ n0) (f2 : n1 ≤ 500) (f3 : 0 ≤ n1) (f4 : n2 ≤ 1200) (f5 : 0 ≤ n2) (f6 : n3 ≤ 1200) (f7 : 0 ≤ n3) (f8 : n4 = 285) (f9 : n5 ≤ 1200) (f10 : 0 ≤ n5) (f11 : n6 ≤ 1200) (f12 : 0 ≤ n6) (f13 : n7 = 285) (f14 : (hLe T0 H0 H1 ∧ hFr s_238.2.2.2.2 H0 H1 ∧ hWt T0 H1) ∧ (Ab_238_5 n7 n6 n5 n4 n3 n2 n1 n0 H0 H1 ∧ preb_238 n7 n6 n5 H0) ∧ some q0 = some (mub_238_5 n7 n6 n5 n4 n3 n2 n1 n0 H0 H1)) (f15 : n0 < n2) (f16 : n8 = 320) (f17 : n8 = hV H1 (n4).toNat 52) (f18 : n9 ≤ 5) (f19 : 0 ≤ n9) (f20 : n9 = hV H1 (n8).toNat (n0).toNat) (f21 : n10 = 2) (f22 : n10 ≤ n9) (f23 : n11 = w32 (n1 + (-1))) (f24 : n12 = 324) (f25 : n12 = hV H1 (n4).toNat 57) (f26 : n13 = 1) (f27 : n14 = w32 (n11 - n13)) (f28 : n15 ≤ 2147483647) (f29 : (-2147483648) ≤ n15) (f30 : n15 = hV H1 (n12).toNat (n14).toNat) (f31 : n16 = 324) (f32 : n16 = hV H1 (n4).toNat 57) (f33 : n17 ≤ 2147483647) (f34 : (-2147483648) ≤ n17) (f35 : n17 = hV H1 (n16).toNat (n11).toNat) (f36 : n18 = 5) (f37 : n9 = n18) (f38 : n17 ≠ 0) (f39 : n19 = 324) (f40 : n19 = hV H1 (n4).toNat 57) (f41 : n20 = 1) (f42 : n21 = w32 (n11 - n20)) (f43 : n22 = 2) (f44 : n9 = n22) (f45 : n23 = w32 (n15 + n17)) (f46 : hUpd H2 H1 n19 n21 n23) (f47 : n24 = w32 (n0 + 1)) : Ab_238_5 n7 n6 n5 n4 n3 n2 n11 n24 H0 H2 ∧ ∀ q, some q0 = some q → mub_238_5 n7 n6 n5 n4 n3 n2 n11 n24 H0 H2 < q := by
  have g4 := f14.2.1.1
  unfold Ab_238_5 at g4
  have g3 := f14.2.1.2
  unfold preb_238 at g3
  have g5 := Option.some.inj f14.2.2
  unfold mub_238_5 at g5
  unfold Ab_238_5
  unfold mub_238_5
  have e0 : hV H1 320 = hV H0 320 := fRow f14.1.2.1 320 kR_238_320
  have e1 : n9 = hV H0 320 (n0).toNat := (by rw [f16] at f20; exact f20 : n9 = hV H1 320 (n0).toNat).trans ((congrFun e0 _))
  have e2 : n15 = hV H1 324 (n14).toNat := (by rw [f24] at f30; exact f30 : n15 = hV H1 324 (n14).toNat)
  have e3 : n17 = hV H1 324 (n11).toNat := (by rw [f31] at f35; exact f35 : n17 = hV H1 324 (n11).toNat)
  have e5 : hV H2 320 = hV H0 320 := (uRowNe f46 320 (iS (show n19 = ((324 : Nat) : Int) from f39) rfl)).trans e0
  try simp only [e5]
  have k0 := g4.1
  have k1 := g4.2.1
  have y0 := g4.2.2.1
  have y1 := g4.2.2.2.1
  have y2 := g4.2.2.2.2
  have p0 := g3.1
  have p1 := g3.2
  try simp only [e0] at y0
  clear g3
  clear g4
  clear f17 f20 f25 f30 f32 f35 f40 e0 e5
  clear f14
  subst e1
  subst e2
  subst e3
  try have cg := CG_at p0 (by omega) (by omega) (c := n0) (by omega)
  first
  | (have ix0 : n11 = n1 + -1 := Eq.trans f23 (w32_iv (Iad (Iat f3 f2) (IC (-1))) (by decide)); subst ix0; clear f23)
  | (have ix0 : n11 = n1 + -1 := Eq.trans f23 (w32_id (by omega) (by omega)); subst ix0; clear f23)
  | (unfold w32 at f23; have ix0 : n11 = n1 + -1 := (by omega); subst ix0)
  | skip
  first
  | (have ix1 : n14 = (n1 + -1) - 1 := Eq.trans f27 (w32_iv (Isu (Iad (Iat f3 f2) (IC (-1))) (IC 1)) (by decide)); subst ix1; clear f27)
  | (have ix1 : n14 = (n1 + -1) - 1 := Eq.trans f27 (w32_id (by omega) (by omega)); subst ix1; clear f27)
  | (unfold w32 at f27; have ix1 : n14 = (n1 + -1) - 1 := (by omega); subst ix1)
  | skip
  first
  | (have ix2 : n21 = (n1 + -1) - 1 := Eq.trans f42 (w32_iv (Isu (Iad (Iat f3 f2) (IC (-1))) (IC 1)) (by decide)); subst ix2; clear f42)
  | (have ix2 : n21 = (n1 + -1) - 1 := Eq.trans f42 (w32_id (by omega) (by omega)); subst ix2; clear f42)
  | (unfold w32 at f42; have ix2 : n21 = (n1 + -1) - 1 := (by omega); subst ix2)
  | skip
  first
  | (have ix3 : n23 = hV H1 324 (((n1 + -1) - 1)).toNat + hV H1 324 ((n1 + -1)).toNat := Eq.trans f45 (w32_id (by omega) (by omega)); subst ix3; clear f45)
  | (unfold w32 at f45; have ix3 : n23 = hV H1 324 (((n1 + -1) - 1)).toNat + hV H1 324 ((n1 + -1)).toNat := (by omega); subst ix3)
  | skip
  first
  | (have ix4 : n24 = n0 + 1 := Eq.trans f47 (w32_iv (Iad (Iat f1 f0) (IC 1)) (by decide)); subst ix4; clear f47)
  | (have ix4 : n24 = n0 + 1 := Eq.trans f47 (w32_id (by omega) (by omega)); subst ix4; clear f47)
  | (unfold w32 at f47; have ix4 : n24 = n0 + 1 := (by omega); subst ix4)
  | skip
  try unfold w32 at f23
  try unfold w32 at f27
  try unfold w32 at f42
  try unfold w32 at f45
  try unfold w32 at f47
  try subst k1
  try subst k0
  subst y0
  refine ⟨?_, fun q hq => ?_⟩
  · refine ⟨?_, ?_, ?_, ?_, ?_⟩ <;> first | assumption | omega | trivial
  · have g6 := Option.some.inj hq
    subst g6
    omega
def g_238_5_51 : vG := ([(10, [24, 7], [], 1), (80, [19, 21, 23], [2, 1], 0), (1, [23, 15, 17], [], 0), (40, [9, 22], [], 0), (0, [22], [], 2), (2, [21, 11, 20], [], 0), (0, [20], [], 1), (20, [19, 3], [1], 57), (0, [19], [], 324), (31, [17], [], 0), (40, [9, 18], [], 0), (0, [18], [], 5), (22, [17, 16, 11], [1], 0), (90, [17], [], -2147483648), (91, [17], [], 2147483647), (20, [16, 3], [1], 57), (0, [16], [], 324), (22, [15, 12, 14], [1], 0), (90, [15], [], -2147483648), (91, [15], [], 2147483647), (2, [14, 11, 13], [], 0), (0, [13], [], 1), (20, [12, 3], [1], 57), (0, [12], [], 324), (10, [11, 6], [], -1), (43, [9, 10], [], 0), (0, [10], [], 2), (22, [9, 8, 7], [1], 0), (90, [9], [], 0), (91, [9], [], 5), (20, [8, 3], [1], 52), (0, [8], [], 320), (42, [7, 5], [], 0), (5000, [0, 1, 2, 3, 4, 5, 6, 7], [0, 1], 5), (0, [0], [], 285), (90, [1], [], 0), (91, [1], [], 1200), (90, [2], [], 0), (91, [2], [], 1200), (0, [3], [], 285), (90, [4], [], 0), (91, [4], [], 1200), (90, [5], [], 0), (91, [5], [], 1200), (90, [6], [], 0), (91, [6], [], 500), (90, [7], [], 0), (91, [7], [], 1200)], (4000, [3, 4, 5, 11, 24], [2], 5))
theorem c_238_5_51 {q0 : Nat} : vOkm T0 (eP e_238 L_238 A_238 mu_238 (some q0)) 3 g_238_5_51 := vOk_inI fun ρ η f0 f1 f2 f3 f4 f5 f6 f7 f8 f9 f10 f11 f12 f13 f14 f15 f16 f17 f18 f19 f20 f21 f22 f23 f24 f25 f26 f27 f28 f29 f30 f31 f32 f33 f34 f35 f36 f37 f38 f39 f40 f41 f42 f43 f44 f45 f46 f47 => q_238_52 (q0 := q0) (n0 := ρ 7) (n1 := ρ 6) (n2 := ρ 5) (n3 := ρ 4) (n4 := ρ 3) (n5 := ρ 2) (n6 := ρ 1) (n7 := ρ 0) (n8 := ρ 8) (n9 := ρ 9) (n10 := ρ 10) (n11 := ρ 11) (n12 := ρ 12) (n13 := ρ 13) (n14 := ρ 14) (n15 := ρ 15) (n16 := ρ 16) (n17 := ρ 17) (n18 := ρ 18) (n19 := ρ 19) (n20 := ρ 20) (n21 := ρ 21) (n22 := ρ 22) (n23 := ρ 23) (n24 := ρ 24) (H0 := η 0) (H1 := η 1) (H2 := η 2) f47 f46 f45 f44 f43 f42 f41 f40 f39 f38 f37 f36 f35 f34 f33 f32 f31 f30 f29 f28 f27 f26 f25 f24 f23 f22 f21 f20 f19 f18 f17 f16 f15 f14 f13 f12 f11 f10 f9 f8 f7 f6 f5 f4 f3 f2 f1 f0
theorem q_238_53 {q0 : Nat} {n0 n1 n2 n3 n4 n5 n6 n7 n8 n9 n10 : Int} {H0 H1 : gH} (f0 : n0 ≤ 1200) (f1 : 0 ≤ n0) (f2 : n1 ≤ 500) (f3 : 0 ≤ n1) (f4 : n2 ≤ 1200) (f5 : 0 ≤ n2) (f6 : n3 ≤ 1200) (f7 : 0 ≤ n3) (f8 : n4 = 285) (f9 : n5 ≤ 1200) (f10 : 0 ≤ n5) (f11 : n6 ≤ 1200) (f12 : 0 ≤ n6) (f13 : n7 = 285) (f14 : (hLe T0 H0 H1 ∧ hFr s_238.2.2.2.2 H0 H1 ∧ hWt T0 H1) ∧ (Ab_238_5 n7 n6 n5 n4 n3 n2 n1 n0 H0 H1 ∧ preb_238 n7 n6 n5 H0) ∧ some q0 = some (mub_238_5 n7 n6 n5 n4 n3 n2 n1 n0 H0 H1)) (f15 : n0 < n2) (f16 : n8 = 320) (f17 : n8 = hV H1 (n4).toNat 52) (f18 : n9 ≤ 5) (f19 : 0 ≤ n9) (f20 : n9 = hV H1 (n8).toNat (n0).toNat) (f21 : n10 = 2) (f22 : n9 < n10) (f23 : n9 ≠ 0) : 0 ≤ n0 ∧ n0 < 1200 := by
  have g4 := f14.2.1.1
  unfold Ab_238_5 at g4
  have g3 := f14.2.1.2
  unfold preb_238 at g3
  have e0 : hV H1 320 = hV H0 320 := fRow f14.1.2.1 320 kR_238_320
  have e1 : n9 = hV H0 320 (n0).toNat := (by rw [f16] at f20; exact f20 : n9 = hV H1 320 (n0).toNat).trans ((congrFun e0 _))
  have k0 := g4.1
  have k1 := g4.2.1
  have y0 := g4.2.2.1
  have y1 := g4.2.2.2.1
  have y2 := g4.2.2.2.2
  have p0 := g3.1
  have p1 := g3.2
  try simp only [e0] at y0
  clear g3
  clear g4
  clear f17 f20 e0
  clear f14
  subst e1
  try have cg := CG_at p0 (by omega) (by omega) (c := n0) (by omega)
  try subst k1
  try subst k0
  subst y0
  omega
def g_238_5_52 : vG := ([(31, [9], [], 0), (42, [9, 10], [], 0), (0, [10], [], 2), (22, [9, 8, 7], [1], 0), (90, [9], [], 0), (91, [9], [], 5), (20, [8, 3], [1], 52), (0, [8], [], 320), (42, [7, 5], [], 0), (5000, [0, 1, 2, 3, 4, 5, 6, 7], [0, 1], 5), (0, [0], [], 285), (90, [1], [], 0), (91, [1], [], 1200), (90, [2], [], 0), (91, [2], [], 1200), (0, [3], [], 285), (90, [4], [], 0), (91, [4], [], 1200), (90, [5], [], 0), (91, [5], [], 1200), (90, [6], [], 0), (91, [6], [], 500), (90, [7], [], 0), (91, [7], [], 1200)], (70, [7], [], 1200))
theorem c_238_5_52 {q0 : Nat} : vOkm T0 (eP e_238 L_238 A_238 mu_238 (some q0)) 3 g_238_5_52 := vOk_inI fun ρ η f0 f1 f2 f3 f4 f5 f6 f7 f8 f9 f10 f11 f12 f13 f14 f15 f16 f17 f18 f19 f20 f21 f22 f23 => q_238_53 (q0 := q0) (n0 := ρ 7) (n1 := ρ 6) (n2 := ρ 5) (n3 := ρ 4) (n4 := ρ 3) (n5 := ρ 2) (n6 := ρ 1) (n7 := ρ 0) (n8 := ρ 8) (n9 := ρ 9) (n10 := ρ 10) (H0 := η 0) (H1 := η 1) f23 f22 f21 f20 f19 f18 f17 f16 f15 f14 f13 f12 f11 f10 f9 f8 f7 f6 f5 f4 f3 f2 f1 f0
theorem kR_238_321 : vFreeR s_238.2.2.2.2 321 = true := by decide +kernel
theorem q_238_54 {q0 : Nat} {n0 n1 n2 n3 n4 n5 n6 n7 n8 n9 n10 n11 n12 : Int} {H0 H1 : gH} (f0 : n0 ≤ 1200) (f1 : 0 ≤ n0) (f2 : n1 ≤ 500) (f3 : 0 ≤ n1) (f4 : n2 ≤ 1200) (f5 : 0 ≤ n2) (f6 : n3 ≤ 1200) (f7 : 0 ≤ n3) (f8 : n4 = 285) (f9 : n5 ≤ 1200) (f10 : 0 ≤ n5) (f11 : n6 ≤ 1200) (f12 : 0 ≤ n6) (f13 : n7 = 285) (f14 : (hLe T0 H0 H1 ∧ hFr s_238.2.2.2.2 H0 H1 ∧ hWt T0 H1) ∧ (Ab_238_5 n7 n6 n5 n4 n3 n2 n1 n0 H0 H1 ∧ preb_238 n7 n6 n5 H0) ∧ some q0 = some (mub_238_5 n7 n6 n5 n4 n3 n2 n1 n0 H0 H1)) (f15 : n0 < n2) (f16 : n8 = 320) (f17 : n8 = hV H1 (n4).toNat 52) (f18 : n9 ≤ 5) (f19 : 0 ≤ n9) (f20 : n9 = hV H1 (n8).toNat (n0).toNat) (f21 : n10 = 2) (f22 : n9 < n10) (f23 : n9 ≠ 0) (f24 : n11 = 321) (f25 : n11 = hV H1 (n4).toNat 53) (f26 : n12 ≤ 9999) (f27 : 0 ≤ n12) (f28 : n12 = hV H1 (n11).toNat (n0).toNat) : 0 ≤ n12 ∧ n12 < 5 := by
  have g4 := f14.2.1.1
  unfold Ab_238_5 at g4
  have g3 := f14.2.1.2
  unfold preb_238 at g3
  have e0 : hV H1 320 = hV H0 320 := fRow f14.1.2.1 320 kR_238_320
  have e1 : n9 = hV H0 320 (n0).toNat := (by rw [f16] at f20; exact f20 : n9 = hV H1 320 (n0).toNat).trans ((congrFun e0 _))
  have e3 : n12 = hV H0 321 (n0).toNat := (by rw [f24] at f28; exact f28 : n12 = hV H1 321 (n0).toNat).trans ((congrFun (fRow f14.1.2.1 321 kR_238_321) _))
  have k0 := g4.1
  have k1 := g4.2.1
  have y0 := g4.2.2.1
  have y1 := g4.2.2.2.1
  have y2 := g4.2.2.2.2
  have p0 := g3.1
  have p1 := g3.2
  try simp only [e0] at y0
  clear g3
  clear g4
  clear f17 f20 f25 f28 e0
  clear f14
  subst e1
  subst e3
  try have cg := CG_at p0 (by omega) (by omega) (c := n0) (by omega)
  try subst k1
  try subst k0
  subst y0
  omega
def g_238_5_53 : vG := ([(22, [14, 13, 7], [1], 0), (90, [14], [], 0), (91, [14], [], 9999), (20, [13, 3], [1], 53), (0, [13], [], 321), (31, [9], [], 0), (42, [9, 10], [], 0), (0, [10], [], 2), (22, [9, 8, 7], [1], 0), (90, [9], [], 0), (91, [9], [], 5), (20, [8, 3], [1], 52), (0, [8], [], 320), (42, [7, 5], [], 0), (5000, [0, 1, 2, 3, 4, 5, 6, 7], [0, 1], 5), (0, [0], [], 285), (90, [1], [], 0), (91, [1], [], 1200), (90, [2], [], 0), (91, [2], [], 1200), (0, [3], [], 285), (90, [4], [], 0), (91, [4], [], 1200), (90, [5], [], 0), (91, [5], [], 1200), (90, [6], [], 0), (91, [6], [], 500), (90, [7], [], 0), (91, [7], [], 1200)], (70, [14], [], 5))
theorem c_238_5_53 {q0 : Nat} : vOkm T0 (eP e_238 L_238 A_238 mu_238 (some q0)) 3 g_238_5_53 := vOk_inI fun ρ η f0 f1 f2 f3 f4 f5 f6 f7 f8 f9 f10 f11 f12 f13 f14 f15 f16 f17 f18 f19 f20 f21 f22 f23 f24 f25 f26 f27 f28 => q_238_54 (q0 := q0) (n0 := ρ 7) (n1 := ρ 6) (n2 := ρ 5) (n3 := ρ 4) (n4 := ρ 3) (n5 := ρ 2) (n6 := ρ 1) (n7 := ρ 0) (n8 := ρ 8) (n9 := ρ 9) (n10 := ρ 10) (n11 := ρ 13) (n12 := ρ 14) (H0 := η 0) (H1 := η 1) f28 f27 f26 f25 f24 f23 f22 f21 f20 f19 f18 f17 f16 f15 f14 f13 f12 f11 f10 f9 f8 f7 f6 f5 f4 f3 f2 f1 f0
theorem q_238_55 {q0 : Nat} {n0 n1 n2 n3 n4 n5 n6 n7 n8 n9 n10 n11 n12 : Int} {H0 H1 : gH} (f0 : n0 ≤ 1200) (f1 : 0 ≤ n0) (f2 : n1 ≤ 500) (f3 : 0 ≤ n1) (f4 : n2 ≤ 1200) (f5 : 0 ≤ n2) (f6 : n3 ≤ 1200) (f7 : 0 ≤ n3) (f8 : n4 = 285) (f9 : n5 ≤ 1200) (f10 : 0 ≤ n5) (f11 : n6 ≤ 1200) (f12 : 0 ≤ n6) (f13 : n7 = 285) (f14 : (hLe T0 H0 H1 ∧ hFr s_238.2.2.2.2 H0 H1 ∧ hWt T0 H1) ∧ (Ab_238_5 n7 n6 n5 n4 n3 n2 n1 n0 H0 H1 ∧ preb_238 n7 n6 n5 H0) ∧ some q0 = some (mub_238_5 n7 n6 n5 n4 n3 n2 n1 n0 H0 H1)) (f15 : n0 < n2) (f16 : n8 = 320) (f17 : n8 = hV H1 (n4).toNat 52) (f18 : n9 ≤ 5) (f19 : 0 ≤ n9) (f20 : n9 = hV H1 (n8).toNat (n0).toNat) (f21 : n10 = 2) (f22 : n9 < n10) (f23 : n9 ≠ 0) (f24 : n11 = 321) (f25 : n11 = hV H1 (n4).toNat 53) (f26 : n12 ≤ 9999) (f27 : 0 ≤ n12) (f28 : n12 = hV H1 (n11).toNat (n0).toNat) : 0 ≤ n1 ∧ n1 < 500 := by
  have g4 := f14.2.1.1
  unfold Ab_238_5 at g4
  have g3 := f14.2.1.2
  unfold preb_238 at g3
  have e0 : hV H1 320 = hV H0 320 := fRow f14.1.2.1 320 kR_238_320
  have e1 : n9 = hV H0 320 (n0).toNat := (by rw [f16] at f20; exact f20 : n9 = hV H1 320 (n0).toNat).trans ((congrFun e0 _))
  have e3 : n12 = hV H0 321 (n0).toNat := (by rw [f24] at f28; exact f28 : n12 = hV H1 321 (n0).toNat).trans ((congrFun (fRow f14.1.2.1 321 kR_238_321) _))
  have k0 := g4.1
  have k1 := g4.2.1
  have y0 := g4.2.2.1
  have y1 := g4.2.2.2.1
  have y2 := g4.2.2.2.2
  have p0 := g3.1
  have p1 := g3.2
  try simp only [e0] at y0
  clear g3
  clear g4
  clear f17 f20 f25 f28 e0
  clear f14
  subst e1
  subst e3
  try have cg := CG_at p0 (by omega) (by omega) (c := n0) (by omega)
  try subst k1
  try subst k0
  subst y0
  omega
def g_238_5_54 : vG := ([(22, [14, 13, 7], [1], 0), (90, [14], [], 0), (91, [14], [], 9999), (20, [13, 3], [1], 53), (0, [13], [], 321), (31, [9], [], 0), (42, [9, 10], [], 0), (0, [10], [], 2), (22, [9, 8, 7], [1], 0), (90, [9], [], 0), (91, [9], [], 5), (20, [8, 3], [1], 52), (0, [8], [], 320), (42, [7, 5], [], 0), (5000, [0, 1, 2, 3, 4, 5, 6, 7], [0, 1], 5), (0, [0], [], 285), (90, [1], [], 0), (91, [1], [], 1200), (90, [2], [], 0), (91, [2], [], 1200), (0, [3], [], 285), (90, [4], [], 0), (91, [4], [], 1200), (90, [5], [], 0), (91, [5], [], 1200), (90, [6], [], 0), (91, [6], [], 500), (90, [7], [], 0), (91, [7], [], 1200)], (70, [6], [], 500))
theorem c_238_5_54 {q0 : Nat} : vOkm T0 (eP e_238 L_238 A_238 mu_238 (some q0)) 3 g_238_5_54 := vOk_inI fun ρ η f0 f1 f2 f3 f4 f5 f6 f7 f8 f9 f10 f11 f12 f13 f14 f15 f16 f17 f18 f19 f20 f21 f22 f23 f24 f25 f26 f27 f28 => q_238_55 (q0 := q0) (n0 := ρ 7) (n1 := ρ 6) (n2 := ρ 5) (n3 := ρ 4) (n4 := ρ 3) (n5 := ρ 2) (n6 := ρ 1) (n7 := ρ 0) (n8 := ρ 8) (n9 := ρ 9) (n10 := ρ 10) (n11 := ρ 13) (n12 := ρ 14) (H0 := η 0) (H1 := η 1) f28 f27 f26 f25 f24 f23 f22 f21 f20 f19 f18 f17 f16 f15 f14 f13 f12 f11 f10 f9 f8 f7 f6 f5 f4 f3 f2 f1 f0
theorem q_238_56 {q0 : Nat} {n0 n1 n2 n3 n4 n5 n6 n7 n8 n9 n10 n11 n12 n13 n14 : Int} {H0 H1 : gH} (f0 : n0 ≤ 1200) (f1 : 0 ≤ n0) (f2 : n1 ≤ 500) (f3 : 0 ≤ n1) (f4 : n2 ≤ 1200) (f5 : 0 ≤ n2) (f6 : n3 ≤ 1200) (f7 : 0 ≤ n3) (f8 : n4 = 285) (f9 : n5 ≤ 1200) (f10 : 0 ≤ n5) (f11 : n6 ≤ 1200) (f12 : 0 ≤ n6) (f13 : n7 = 285) (f14 : (hLe T0 H0 H1 ∧ hFr s_238.2.2.2.2 H0 H1 ∧ hWt T0 H1) ∧ (Ab_238_5 n7 n6 n5 n4 n3 n2 n1 n0 H0 H1 ∧ preb_238 n7 n6 n5 H0) ∧ some q0 = some (mub_238_5 n7 n6 n5 n4 n3 n2 n1 n0 H0 H1)) (f15 : n0 < n2) (f16 : n8 = 320) (f17 : n8 = hV H1 (n4).toNat 52) (f18 : n9 ≤ 5) (f19 : 0 ≤ n9) (f20 : n9 = hV H1 (n8).toNat (n0).toNat) (f21 : n10 = 2) (f22 : n9 < n10) (f23 : n9 ≠ 0) (f24 : n11 = 321) (f25 : n11 = hV H1 (n4).toNat 53) (f26 : n12 ≤ 9999) (f27 : 0 ≤ n12) (f28 : n12 = hV H1 (n11).toNat (n0).toNat) (f29 : n13 = w32 (n1 + 1)) (f30 : n14 = w32 (n0 + 1)) : 0 ≤ n13 := by
  have g4 := f14.2.1.1
  unfold Ab_238_5 at g4
  have g3 := f14.2.1.2
  unfold preb_238 at g3
  have e0 : hV H1 320 = hV H0 320 := fRow f14.1.2.1 320 kR_238_320
  have e1 : n9 = hV H0 320 (n0).toNat := (by rw [f16] at f20; exact f20 : n9 = hV H1 320 (n0).toNat).trans ((congrFun e0 _))
  have e3 : n12 = hV H0 321 (n0).toNat := (by rw [f24] at f28; exact f28 : n12 = hV H1 321 (n0).toNat).trans ((congrFun (fRow f14.1.2.1 321 kR_238_321) _))
  have k0 := g4.1
  have k1 := g4.2.1
  have y0 := g4.2.2.1
  have y1 := g4.2.2.2.1
  have y2 := g4.2.2.2.2
  have p0 := g3.1
  have p1 := g3.2
  try simp only [e0] at y0
  clear g3
  clear g4
  clear f17 f20 f25 f28 e0
  clear f14
  subst e1
  subst e3
  try have cg := CG_at p0 (by omega) (by omega) (c := n0) (by omega)
  first
  | (have ix0 : n13 = n1 + 1 := Eq.trans f29 (w32_iv (Iad (Iat f3 f2) (IC 1)) (by decide)); subst ix0; clear f29)
  | (have ix0 : n13 = n1 + 1 := Eq.trans f29 (w32_id (by omega) (by omega)); subst ix0; clear f29)
  | (unfold w32 at f29; have ix0 : n13 = n1 + 1 := (by omega); subst ix0)
  | skip
  try unfold w32 at f29
  try unfold w32 at f30
  try subst k1
  try subst k0
  subst y0
  omega
def g_238_5_55 : vG := ([(10, [17, 7], [], 1), (10, [16, 6], [], 1), (22, [14, 13, 7], [1], 0), (90, [14], [], 0), (91, [14], [], 9999), (20, [13, 3], [1], 53), (0, [13], [], 321), (31, [9], [], 0), (42, [9, 10], [], 0), (0, [10], [], 2), (22, [9, 8, 7], [1], 0), (90, [9], [], 0), (91, [9], [], 5), (20, [8, 3], [1], 52), (0, [8], [], 320), (42, [7, 5], [], 0), (5000, [0, 1, 2, 3, 4, 5, 6, 7], [0, 1], 5), (0, [0], [], 285), (90, [1], [], 0), (91, [1], [], 1200), (90, [2], [], 0), (91, [2], [], 1200), (0, [3], [], 285), (90, [4], [], 0), (91, [4], [], 1200), (90, [5], [], 0), (91, [5], [], 1200), (90, [6], [], 0), (91, [6], [], 500), (90, [7], [], 0), (91, [7], [], 1200)], (90, [16], [], 0))
theorem c_238_5_55 {q0 : Nat} : vOkm T0 (eP e_238 L_238 A_238 mu_238 (some q0)) 3 g_238_5_55 := vOk_inI fun ρ η f0 f1 f2 f3 f4 f5 f6 f7 f8 f9 f10 f11 f12 f13 f14 f15 f16 f17 f18 f19 f20 f21 f22 f23 f24 f25 f26 f27 f28 f29 f30 => q_238_56 (q0 := q0) (n0 := ρ 7) (n1 := ρ 6) (n2 := ρ 5) (n3 := ρ 4) (n4 := ρ 3) (n5 := ρ 2) (n6 := ρ 1) (n7 := ρ 0) (n8 := ρ 8) (n9 := ρ 9) (n10 := ρ 10) (n11 := ρ 13) (n12 := ρ 14) (n13 := ρ 16) (n14 := ρ 17) (H0 := η 0) (H1 := η 1) f30 f29 f28 f27 f26 f25 f24 f23 f22 f21 f20 f19 f18 f17 f16 f15 f14 f13 f12 f11 f10 f9 f8 f7 f6 f5 f4 f3 f2 f1 f0
theorem q_238_57 {q0 : Nat} {n0 n1 n2 n3 n4 n5 n6 n7 n8 n9 n10 n11 n12 n13 n14 : Int} {H0 H1 : gH} (f0 : n0 ≤ 1200) (f1 : 0 ≤ n0) (f2 : n1 ≤ 500) (f3 : 0 ≤ n1) (f4 : n2 ≤ 1200) (f5 : 0 ≤ n2) (f6 : n3 ≤ 1200) (f7 : 0 ≤ n3) (f8 : n4 = 285) (f9 : n5 ≤ 1200) (f10 : 0 ≤ n5) (f11 : n6 ≤ 1200) (f12 : 0 ≤ n6) (f13 : n7 = 285) (f14 : (hLe T0 H0 H1 ∧ hFr s_238.2.2.2.2 H0 H1 ∧ hWt T0 H1) ∧ (Ab_238_5 n7 n6 n5 n4 n3 n2 n1 n0 H0 H1 ∧ preb_238 n7 n6 n5 H0) ∧ some q0 = some (mub_238_5 n7 n6 n5 n4 n3 n2 n1 n0 H0 H1)) (f15 : n0 < n2) (f16 : n8 = 320) (f17 : n8 = hV H1 (n4).toNat 52) (f18 : n9 ≤ 5) (f19 : 0 ≤ n9) (f20 : n9 = hV H1 (n8).toNat (n0).toNat) (f21 : n10 = 2) (f22 : n9 < n10) (f23 : n9 ≠ 0) (f24 : n11 = 321) (f25 : n11 = hV H1 (n4).toNat 53) (f26 : n12 ≤ 9999) (f27 : 0 ≤ n12) (f28 : n12 = hV H1 (n11).toNat (n0).toNat) (f29 : n13 = w32 (n1 + 1)) (f30 : n14 = w32 (n0 + 1)) : n13 ≤ 500 := by
  have g4 := f14.2.1.1
  unfold Ab_238_5 at g4
  have g3 := f14.2.1.2
  unfold preb_238 at g3
  have e0 : hV H1 320 = hV H0 320 := fRow f14.1.2.1 320 kR_238_320
  have e1 : n9 = hV H0 320 (n0).toNat := (by rw [f16] at f20; exact f20 : n9 = hV H1 320 (n0).toNat).trans ((congrFun e0 _))
  have e3 : n12 = hV H0 321 (n0).toNat := (by rw [f24] at f28; exact f28 : n12 = hV H1 321 (n0).toNat).trans ((congrFun (fRow f14.1.2.1 321 kR_238_321) _))
  have k0 := g4.1
  have k1 := g4.2.1
  have y0 := g4.2.2.1
  have y1 := g4.2.2.2.1
  have y2 := g4.2.2.2.2
  have p0 := g3.1
  have p1 := g3.2
  try simp only [e0] at y0
  clear g3
  clear g4
  clear f17 f20 f25 f28 e0
  clear f14
  subst e1
  subst e3
  try have cg := CG_at p0 (by omega) (by omega) (c := n0) (by omega)
  first
  | (have ix0 : n13 = n1 + 1 := Eq.trans f29 (w32_iv (Iad (Iat f3 f2) (IC 1)) (by decide)); subst ix0; clear f29)
  | (have ix0 : n13 = n1 + 1 := Eq.trans f29 (w32_id (by omega) (by omega)); subst ix0; clear f29)
  | (unfold w32 at f29; have ix0 : n13 = n1 + 1 := (by omega); subst ix0)
  | skip
  try unfold w32 at f29
  try unfold w32 at f30
  try subst k1
  try subst k0
  subst y0
  omega
def g_238_5_56 : vG := ([(10, [17, 7], [], 1), (10, [16, 6], [], 1), (22, [14, 13, 7], [1], 0), (90, [14], [], 0), (91, [14], [], 9999), (20, [13, 3], [1], 53), (0, [13], [], 321), (31, [9], [], 0), (42, [9, 10], [], 0), (0, [10], [], 2), (22, [9, 8, 7], [1], 0), (90, [9], [], 0), (91, [9], [], 5), (20, [8, 3], [1], 52), (0, [8], [], 320), (42, [7, 5], [], 0), (5000, [0, 1, 2, 3, 4, 5, 6, 7], [0, 1], 5), (0, [0], [], 285), (90, [1], [], 0), (91, [1], [], 1200), (90, [2], [], 0), (91, [2], [], 1200), (0, [3], [], 285), (90, [4], [], 0), (91, [4], [], 1200), (90, [5], [], 0), (91, [5], [], 1200), (90, [6], [], 0), (91, [6], [], 500), (90, [7], [], 0), (91, [7], [], 1200)], (91, [16], [], 500))
theorem c_238_5_56 {q0 : Nat} : vOkm T0 (eP e_238 L_238 A_238 mu_238 (some q0)) 3 g_238_5_56 := vOk_inI fun ρ η f0 f1 f2 f3 f4 f5 f6 f7 f8 f9 f10 f11 f12 f13 f14 f15 f16 f17 f18 f19 f20 f21 f22 f23 f24 f25 f26 f27 f28 f29 f30 => q_238_57 (q0 := q0) (n0 := ρ 7) (n1 := ρ 6) (n2 := ρ 5) (n3 := ρ 4) (n4 := ρ 3) (n5 := ρ 2) (n6 := ρ 1) (n7 := ρ 0) (n8 := ρ 8) (n9 := ρ 9) (n10 := ρ 10) (n11 := ρ 13) (n12 := ρ 14) (n13 := ρ 16) (n14 := ρ 17) (H0 := η 0) (H1 := η 1) f30 f29 f28 f27 f26 f25 f24 f23 f22 f21 f20 f19 f18 f17 f16 f15 f14 f13 f12 f11 f10 f9 f8 f7 f6 f5 f4 f3 f2 f1 f0
theorem q_238_58 {q0 : Nat} {n0 n1 n2 n3 n4 n5 n6 n7 n8 n9 n10 n11 n12 n13 n14 : Int} {H0 H1 : gH} (f0 : n0 ≤ 1200) (f1 : 0 ≤ n0) (f2 : n1 ≤ 500) (f3 : 0 ≤ n1) (f4 : n2 ≤ 1200) (f5 : 0 ≤ n2) (f6 : n3 ≤ 1200) (f7 : 0 ≤ n3) (f8 : n4 = 285) (f9 : n5 ≤ 1200) (f10 : 0 ≤ n5) (f11 : n6 ≤ 1200) (f12 : 0 ≤ n6) (f13 : n7 = 285) (f14 : (hLe T0 H0 H1 ∧ hFr s_238.2.2.2.2 H0 H1 ∧ hWt T0 H1) ∧ (Ab_238_5 n7 n6 n5 n4 n3 n2 n1 n0 H0 H1 ∧ preb_238 n7 n6 n5 H0) ∧ some q0 = some (mub_238_5 n7 n6 n5 n4 n3 n2 n1 n0 H0 H1)) (f15 : n0 < n2) (f16 : n8 = 320) (f17 : n8 = hV H1 (n4).toNat 52) (f18 : n9 ≤ 5) (f19 : 0 ≤ n9) (f20 : n9 = hV H1 (n8).toNat (n0).toNat) (f21 : n10 = 2) (f22 : n9 < n10) (f23 : n9 ≠ 0) (f24 : n11 = 321) (f25 : n11 = hV H1 (n4).toNat 53) (f26 : n12 ≤ 9999) (f27 : 0 ≤ n12) (f28 : n12 = hV H1 (n11).toNat (n0).toNat) (f29 : n13 = w32 (n1 + 1)) (f30 : n14 = w32 (n0 + 1)) : 0 ≤ n14 := by
  have g4 := f14.2.1.1
  unfold Ab_238_5 at g4
  have g3 := f14.2.1.2
  unfold preb_238 at g3
  have e0 : hV H1 320 = hV H0 320 := fRow f14.1.2.1 320 kR_238_320
  have e1 : n9 = hV H0 320 (n0).toNat := (by rw [f16] at f20; exact f20 : n9 = hV H1 320 (n0).toNat).trans ((congrFun e0 _))
  have e3 : n12 = hV H0 321 (n0).toNat := (by rw [f24] at f28; exact f28 : n12 = hV H1 321 (n0).toNat).trans ((congrFun (fRow f14.1.2.1 321 kR_238_321) _))
  have k0 := g4.1
  have k1 := g4.2.1
  have y0 := g4.2.2.1
  have y1 := g4.2.2.2.1
  have y2 := g4.2.2.2.2
  have p0 := g3.1
  have p1 := g3.2
  try simp only [e0] at y0
  clear g3
  clear g4
  clear f17 f20 f25 f28 e0
  clear f14
  subst e1
  subst e3
  try have cg := CG_at p0 (by omega) (by omega) (c := n0) (by omega)
  first
  | (have ix0 : n14 = n0 + 1 := Eq.trans f30 (w32_iv (Iad (Iat f1 f0) (IC 1)) (by decide)); subst ix0; clear f30)
  | (have ix0 : n14 = n0 + 1 := Eq.trans f30 (w32_id (by omega) (by omega)); subst ix0; clear f30)
  | (unfold w32 at f30; have ix0 : n14 = n0 + 1 := (by omega); subst ix0)
  | skip
  try unfold w32 at f29
  try unfold w32 at f30
  try subst k1
  try subst k0
  subst y0
  omega
def g_238_5_57 : vG := ([(10, [17, 7], [], 1), (10, [16, 6], [], 1), (22, [14, 13, 7], [1], 0), (90, [14], [], 0), (91, [14], [], 9999), (20, [13, 3], [1], 53), (0, [13], [], 321), (31, [9], [], 0), (42, [9, 10], [], 0), (0, [10], [], 2), (22, [9, 8, 7], [1], 0), (90, [9], [], 0), (91, [9], [], 5), (20, [8, 3], [1], 52), (0, [8], [], 320), (42, [7, 5], [], 0), (5000, [0, 1, 2, 3, 4, 5, 6, 7], [0, 1], 5), (0, [0], [], 285), (90, [1], [], 0), (91, [1], [], 1200), (90, [2], [], 0), (91, [2], [], 1200), (0, [3], [], 285), (90, [4], [], 0), (91, [4], [], 1200), (90, [5], [], 0), (91, [5], [], 1200), (90, [6], [], 0), (91, [6], [], 500), (90, [7], [], 0), (91, [7], [], 1200)], (90, [17], [], 0))
theorem c_238_5_57 {q0 : Nat} : vOkm T0 (eP e_238 L_238 A_238 mu_238 (some q0)) 3 g_238_5_57 := vOk_inI fun ρ η f0 f1 f2 f3 f4 f5 f6 f7 f8 f9 f10 f11 f12 f13 f14 f15 f16 f17 f18 f19 f20 f21 f22 f23 f24 f25 f26 f27 f28 f29 f30 => q_238_58 (q0 := q0) (n0 := ρ 7) (n1 := ρ 6) (n2 := ρ 5) (n3 := ρ 4) (n4 := ρ 3) (n5 := ρ 2) (n6 := ρ 1) (n7 := ρ 0) (n8 := ρ 8) (n9 := ρ 9) (n10 := ρ 10) (n11 := ρ 13) (n12 := ρ 14) (n13 := ρ 16) (n14 := ρ 17) (H0 := η 0) (H1 := η 1) f30 f29 f28 f27 f26 f25 f24 f23 f22 f21 f20 f19 f18 f17 f16 f15 f14 f13 f12 f11 f10 f9 f8 f7 f6 f5 f4 f3 f2 f1 f0
theorem q_238_59 {q0 : Nat} {n0 n1 n2 n3 n4 n5 n6 n7 n8 n9 n10 n11 n12 n13 n14 : Int} {H0 H1 : gH} (f0 : n0 ≤ 1200) (f1 : 0 ≤ n0) (f2 : n1 ≤ 500) (f3 : 0 ≤ n1) (f4 : n2 ≤ 1200) (f5 : 0 ≤ n2) (f6 : n3 ≤ 1200) (f7 : 0 ≤ n3) (f8 : n4 = 285) (f9 : n5 ≤ 1200) (f10 : 0 ≤ n5) (f11 : n6 ≤ 1200) (f12 : 0 ≤ n6) (f13 : n7 = 285) (f14 : (hLe T0 H0 H1 ∧ hFr s_238.2.2.2.2 H0 H1 ∧ hWt T0 H1) ∧ (Ab_238_5 n7 n6 n5 n4 n3 n2 n1 n0 H0 H1 ∧ preb_238 n7 n6 n5 H0) ∧ some q0 = some (mub_238_5 n7 n6 n5 n4 n3 n2 n1 n0 H0 H1)) (f15 : n0 < n2) (f16 : n8 = 320) (f17 : n8 = hV H1 (n4).toNat 52) (f18 : n9 ≤ 5) (f19 : 0 ≤ n9) (f20 : n9 = hV H1 (n8).toNat (n0).toNat) (f21 : n10 = 2) (f22 : n9 < n10) (f23 : n9 ≠ 0) (f24 : n11 = 321) (f25 : n11 = hV H1 (n4).toNat 53) (f26 : n12 ≤ 9999) (f27 : 0 ≤ n12) (f28 : n12 = hV H1 (n11).toNat (n0).toNat) (f29 : n13 = w32 (n1 + 1)) (f30 : n14 = w32 (n0 + 1)) : n14 ≤ 1200 := by
  have g4 := f14.2.1.1
  unfold Ab_238_5 at g4
  have g3 := f14.2.1.2
  unfold preb_238 at g3
  have e0 : hV H1 320 = hV H0 320 := fRow f14.1.2.1 320 kR_238_320
  have e1 : n9 = hV H0 320 (n0).toNat := (by rw [f16] at f20; exact f20 : n9 = hV H1 320 (n0).toNat).trans ((congrFun e0 _))
  have e3 : n12 = hV H0 321 (n0).toNat := (by rw [f24] at f28; exact f28 : n12 = hV H1 321 (n0).toNat).trans ((congrFun (fRow f14.1.2.1 321 kR_238_321) _))
  have k0 := g4.1
  have k1 := g4.2.1
  have y0 := g4.2.2.1
  have y1 := g4.2.2.2.1
  have y2 := g4.2.2.2.2
  have p0 := g3.1
  have p1 := g3.2
  try simp only [e0] at y0
  clear g3
  clear g4
  clear f17 f20 f25 f28 e0
  clear f14
  subst e1
  subst e3
  try have cg := CG_at p0 (by omega) (by omega) (c := n0) (by omega)
  first
  | (have ix0 : n14 = n0 + 1 := Eq.trans f30 (w32_iv (Iad (Iat f1 f0) (IC 1)) (by decide)); subst ix0; clear f30)
  | (have ix0 : n14 = n0 + 1 := Eq.trans f30 (w32_id (by omega) (by omega)); subst ix0; clear f30)
  | (unfold w32 at f30; have ix0 : n14 = n0 + 1 := (by omega); subst ix0)
  | skip
  try unfold w32 at f29
  try unfold w32 at f30
  try subst k1
  try subst k0
  subst y0
  omega
def g_238_5_58 : vG := ([(10, [17, 7], [], 1), (10, [16, 6], [], 1), (22, [14, 13, 7], [1], 0), (90, [14], [], 0), (91, [14], [], 9999), (20, [13, 3], [1], 53), (0, [13], [], 321), (31, [9], [], 0), (42, [9, 10], [], 0), (0, [10], [], 2), (22, [9, 8, 7], [1], 0), (90, [9], [], 0), (91, [9], [], 5), (20, [8, 3], [1], 52), (0, [8], [], 320), (42, [7, 5], [], 0), (5000, [0, 1, 2, 3, 4, 5, 6, 7], [0, 1], 5), (0, [0], [], 285), (90, [1], [], 0), (91, [1], [], 1200), (90, [2], [], 0), (91, [2], [], 1200), (0, [3], [], 285), (90, [4], [], 0), (91, [4], [], 1200), (90, [5], [], 0), (91, [5], [], 1200), (90, [6], [], 0), (91, [6], [], 500), (90, [7], [], 0), (91, [7], [], 1200)], (91, [17], [], 1200))
theorem c_238_5_58 {q0 : Nat} : vOkm T0 (eP e_238 L_238 A_238 mu_238 (some q0)) 3 g_238_5_58 := vOk_inI fun ρ η f0 f1 f2 f3 f4 f5 f6 f7 f8 f9 f10 f11 f12 f13 f14 f15 f16 f17 f18 f19 f20 f21 f22 f23 f24 f25 f26 f27 f28 f29 f30 => q_238_59 (q0 := q0) (n0 := ρ 7) (n1 := ρ 6) (n2 := ρ 5) (n3 := ρ 4) (n4 := ρ 3) (n5 := ρ 2) (n6 := ρ 1) (n7 := ρ 0) (n8 := ρ 8) (n9 := ρ 9) (n10 := ρ 10) (n11 := ρ 13) (n12 := ρ 14) (n13 := ρ 16) (n14 := ρ 17) (H0 := η 0) (H1 := η 1) f30 f29 f28 f27 f26 f25 f24 f23 f22 f21 f20 f19 f18 f17 f16 f15 f14 f13 f12 f11 f10 f9 f8 f7 f6 f5 f4 f3 f2 f1 f0
theorem kR_238_323 : vFreeR s_238.2.2.2.2 323 = true := by decide +kernel
theorem q_238_60 {q0 : Nat} {n0 n1 n2 n3 n4 n5 n6 n7 n8 n9 n10 n11 n12 n13 n14 n15 n16 n17 : Int} {H0 H1 H2 : gH} (f0 : n0 ≤ 1200) (f1 : 0 ≤ n0) (f2 : n1 ≤ 500) (f3 : 0 ≤ n1) (f4 : n2 ≤ 1200) (f5 : 0 ≤ n2) (f6 : n3 ≤ 1200) (f7 : 0 ≤ n3) (f8 : n4 = 285) (f9 : n5 ≤ 1200) (f10 : 0 ≤ n5) (f11 : n6 ≤ 1200) (f12 : 0 ≤ n6) (f13 : n7 = 285) (f14 : (hLe T0 H0 H1 ∧ hFr s_238.2.2.2.2 H0 H1 ∧ hWt T0 H1) ∧ (Ab_238_5 n7 n6 n5 n4 n3 n2 n1 n0 H0 H1 ∧ preb_238 n7 n6 n5 H0) ∧ some q0 = some (mub_238_5 n7 n6 n5 n4 n3 n2 n1 n0 H0 H1)) (f15 : n0 < n2) (f16 : n8 = 320) (f17 : n8 = hV H1 (n4).toNat 52) (f18 : n9 ≤ 5) (f19 : 0 ≤ n9) (f20 : n9 = hV H1 (n8).toNat (n0).toNat) (f21 : n10 = 2) (f22 : n9 < n10) (f23 : n11 = 324) (f24 : n11 = hV H1 (n4).toNat 57) (f25 : n9 ≠ 0) (f26 : n12 = 323) (f27 : n12 = hV H1 (n4).toNat 56) (f28 : n13 = 321) (f29 : n13 = hV H1 (n4).toNat 53) (f30 : n14 ≤ 9999) (f31 : 0 ≤ n14) (f32 : n14 = hV H1 (n13).toNat (n0).toNat) (f33 : n15 ≤ 2147483647) (f34 : (-2147483648) ≤ n15) (f35 : n15 = hV H1 (n12).toNat (n14).toNat) (f36 : hUpd H2 H1 n11 n1 n15) (f37 : n16 = w32 (n1 + 1)) (f38 : n17 = w32 (n0 + 1)) : Ab_238_5 n7 n6 n5 n4 n3 n2 n16 n17 H0 H2 ∧ ∀ q, some q0 = some q → mub_238_5 n7 n6 n5 n4 n3 n2 n16 n17 H0 H2 < q := by
  have g4 := f14.2.1.1
  unfold Ab_238_5 at g4
  have g3 := f14.2.1.2
  unfold preb_238 at g3
  have g5 := Option.some.inj f14.2.2
  unfold mub_238_5 at g5
  unfold Ab_238_5
  unfold mub_238_5
  have e0 : hV H1 320 = hV H0 320 := fRow f14.1.2.1 320 kR_238_320
  have e1 : n9 = hV H0 320 (n0).toNat := (by rw [f16] at f20; exact f20 : n9 = hV H1 320 (n0).toNat).trans ((congrFun e0 _))
  have e3 : n14 = hV H0 321 (n0).toNat := (by rw [f28] at f32; exact f32 : n14 = hV H1 321 (n0).toNat).trans ((congrFun (fRow f14.1.2.1 321 kR_238_321) _))
  have e5 : n15 = hV H0 323 (n14).toNat := (by rw [f26] at f35; exact f35 : n15 = hV H1 323 (n14).toNat).trans ((congrFun (fRow f14.1.2.1 323 kR_238_323) _))
  have e7 : hV H2 320 = hV H0 320 := (uRowNe f36 320 (iS (show n11 = ((324 : Nat) : Int) from f23) rfl)).trans e0
  try simp only [e7]
  have k0 := g4.1
  have k1 := g4.2.1
  have y0 := g4.2.2.1
  have y1 := g4.2.2.2.1
  have y2 := g4.2.2.2.2
  have p0 := g3.1
  have p1 := g3.2
  try simp only [e0] at y0
  clear g3
  clear g4
  clear f17 f20 f24 f27 f29 f32 f35 e0 e7
  clear f14
  subst e1
  subst e3
  subst e5
  try have cg := CG_at p0 (by omega) (by omega) (c := n0) (by omega)
  first
  | (have ix0 : n16 = n1 + 1 := Eq.trans f37 (w32_iv (Iad (Iat f3 f2) (IC 1)) (by decide)); subst ix0; clear f37)
  | (have ix0 : n16 = n1 + 1 := Eq.trans f37 (w32_id (by omega) (by omega)); subst ix0; clear f37)
  | (unfold w32 at f37; have ix0 : n16 = n1 + 1 := (by omega); subst ix0)
  | skip
  first
  | (have ix1 : n17 = n0 + 1 := Eq.trans f38 (w32_iv (Iad (Iat f1 f0) (IC 1)) (by decide)); subst ix1; clear f38)
  | (have ix1 : n17 = n0 + 1 := Eq.trans f38 (w32_id (by omega) (by omega)); subst ix1; clear f38)
  | (unfold w32 at f38; have ix1 : n17 = n0 + 1 := (by omega); subst ix1)
  | skip
  try unfold w32 at f37
  try unfold w32 at f38
  try subst k1
  try subst k0
  subst y0
  refine ⟨?_, fun q hq => ?_⟩
  · refine ⟨?_, ?_, ?_, ?_, ?_⟩ <;> first | assumption | omega | trivial
  · have g6 := Option.some.inj hq
    subst g6
    omega
def g_238_5_59 : vG := ([(10, [17, 7], [], 1), (10, [16, 6], [], 1), (80, [11, 6, 15], [2, 1], 0), (22, [15, 12, 14], [1], 0), (90, [15], [], -2147483648), (91, [15], [], 2147483647), (22, [14, 13, 7], [1], 0), (90, [14], [], 0), (91, [14], [], 9999), (20, [13, 3], [1], 53), (0, [13], [], 321), (20, [12, 3], [1], 56), (0, [12], [], 323), (31, [9], [], 0), (20, [11, 3], [1], 57), (0, [11], [], 324), (42, [9, 10], [], 0), (0, [10], [], 2), (22, [9, 8, 7], [1], 0), (90, [9], [], 0), (91, [9], [], 5), (20, [8, 3], [1], 52), (0, [8], [], 320), (42, [7, 5], [], 0), (5000, [0, 1, 2, 3, 4, 5, 6, 7], [0, 1], 5), (0, [0], [], 285), (90, [1], [], 0), (91, [1], [], 1200), (90, [2], [], 0), (91, [2], [], 1200), (0, [3], [], 285), (90, [4], [], 0), (91, [4], [], 1200), (90, [5], [], 0), (91, [5], [], 1200), (90, [6], [], 0), (91, [6], [], 500), (90, [7], [], 0), (91, [7], [], 1200)], (4000, [3, 4, 5, 16, 17], [2], 5))
theorem c_238_5_59 {q0 : Nat} : vOkm T0 (eP e_238 L_238 A_238 mu_238 (some q0)) 3 g_238_5_59 := vOk_inI fun ρ η f0 f1 f2 f3 f4 f5 f6 f7 f8 f9 f10 f11 f12 f13 f14 f15 f16 f17 f18 f19 f20 f21 f22 f23 f24 f25 f26 f27 f28 f29 f30 f31 f32 f33 f34 f35 f36 f37 f38 => q_238_60 (q0 := q0) (n0 := ρ 7) (n1 := ρ 6) (n2 := ρ 5) (n3 := ρ 4) (n4 := ρ 3) (n5 := ρ 2) (n6 := ρ 1) (n7 := ρ 0) (n8 := ρ 8) (n9 := ρ 9) (n10 := ρ 10) (n11 := ρ 11) (n12 := ρ 12) (n13 := ρ 13) (n14 := ρ 14) (n15 := ρ 15) (n16 := ρ 16) (n17 := ρ 17) (H0 := η 0) (H1 := η 1) (H2 := η 2) f38 f37 f36 f35 f34 f33 f32 f31 f30 f29 f28 f27 f26 f25 f24 f23 f22 f21 f20 f19 f18 f17 f16 f15 f14 f13 f12 f11 f10 f9 f8 f7 f6 f5 f4 f3 f2 f1 f0
theorem q_238_61 {q0 : Nat} {n0 n1 n2 n3 n4 n5 n6 n7 n8 n9 n10 : Int} {H0 H1 : gH} (f0 : n0 ≤ 1200) (f1 : 0 ≤ n0) (f2 : n1 ≤ 500) (f3 : 0 ≤ n1) (f4 : n2 ≤ 1200) (f5 : 0 ≤ n2) (f6 : n3 ≤ 1200) (f7 : 0 ≤ n3) (f8 : n4 = 285) (f9 : n5 ≤ 1200) (f10 : 0 ≤ n5) (f11 : n6 ≤ 1200) (f12 : 0 ≤ n6) (f13 : n7 = 285) (f14 : (hLe T0 H0 H1 ∧ hFr s_238.2.2.2.2 H0 H1 ∧ hWt T0 H1) ∧ (Ab_238_5 n7 n6 n5 n4 n3 n2 n1 n0 H0 H1 ∧ preb_238 n7 n6 n5 H0) ∧ some q0 = some (mub_238_5 n7 n6 n5 n4 n3 n2 n1 n0 H0 H1)) (f15 : n0 < n2) (f16 : n8 = 320) (f17 : n8 = hV H1 (n4).toNat 52) (f18 : n9 ≤ 5) (f19 : 0 ≤ n9) (f20 : n9 = hV H1 (n8).toNat (n0).toNat) (f21 : n10 = 2) (f22 : n9 < n10) (f23 : n9 = 0) : 0 ≤ n0 ∧ n0 < 1200 := by
  have g4 := f14.2.1.1
  unfold Ab_238_5 at g4
  have g3 := f14.2.1.2
  unfold preb_238 at g3
  have e0 : hV H1 320 = hV H0 320 := fRow f14.1.2.1 320 kR_238_320
  have e1 : n9 = hV H0 320 (n0).toNat := (by rw [f16] at f20; exact f20 : n9 = hV H1 320 (n0).toNat).trans ((congrFun e0 _))
  have k0 := g4.1
  have k1 := g4.2.1
  have y0 := g4.2.2.1
  have y1 := g4.2.2.2.1
  have y2 := g4.2.2.2.2
  have p0 := g3.1
  have p1 := g3.2
  try simp only [e0] at y0
  clear g3
  clear g4
  clear f17 f20 e0
  clear f14
  subst e1
  try have cg := CG_at p0 (by omega) (by omega) (c := n0) (by omega)
  try subst k1
  try subst k0
  subst y0
  omega
def g_238_5_60 : vG := ([(30, [9], [], 0), (42, [9, 10], [], 0), (0, [10], [], 2), (22, [9, 8, 7], [1], 0), (90, [9], [], 0), (91, [9], [], 5), (20, [8, 3], [1], 52), (0, [8], [], 320), (42, [7, 5], [], 0), (5000, [0, 1, 2, 3, 4, 5, 6, 7], [0, 1], 5), (0, [0], [], 285), (90, [1], [], 0), (91, [1], [], 1200), (90, [2], [], 0), (91, [2], [], 1200), (0, [3], [], 285), (90, [4], [], 0), (91, [4], [], 1200), (90, [5], [], 0), (91, [5], [], 1200), (90, [6], [], 0), (91, [6], [], 500), (90, [7], [], 0), (91, [7], [], 1200)], (70, [7], [], 1200))
theorem c_238_5_60 {q0 : Nat} : vOkm T0 (eP e_238 L_238 A_238 mu_238 (some q0)) 3 g_238_5_60 := vOk_inI fun ρ η f0 f1 f2 f3 f4 f5 f6 f7 f8 f9 f10 f11 f12 f13 f14 f15 f16 f17 f18 f19 f20 f21 f22 f23 => q_238_61 (q0 := q0) (n0 := ρ 7) (n1 := ρ 6) (n2 := ρ 5) (n3 := ρ 4) (n4 := ρ 3) (n5 := ρ 2) (n6 := ρ 1) (n7 := ρ 0) (n8 := ρ 8) (n9 := ρ 9) (n10 := ρ 10) (H0 := η 0) (H1 := η 1) f23 f22 f21 f20 f19 f18 f17 f16 f15 f14 f13 f12 f11 f10 f9 f8 f7 f6 f5 f4 f3 f2 f1 f0
theorem q_238_62 {q0 : Nat} {n0 n1 n2 n3 n4 n5 n6 n7 n8 n9 n10 n11 n12 : Int} {H0 H1 : gH} (f0 : n0 ≤ 1200) (f1 : 0 ≤ n0) (f2 : n1 ≤ 500) (f3 : 0 ≤ n1) (f4 : n2 ≤ 1200) (f5 : 0 ≤ n2) (f6 : n3 ≤ 1200) (f7 : 0 ≤ n3) (f8 : n4 = 285) (f9 : n5 ≤ 1200) (f10 : 0 ≤ n5) (f11 : n6 ≤ 1200) (f12 : 0 ≤ n6) (f13 : n7 = 285) (f14 : (hLe T0 H0 H1 ∧ hFr s_238.2.2.2.2 H0 H1 ∧ hWt T0 H1) ∧ (Ab_238_5 n7 n6 n5 n4 n3 n2 n1 n0 H0 H1 ∧ preb_238 n7 n6 n5 H0) ∧ some q0 = some (mub_238_5 n7 n6 n5 n4 n3 n2 n1 n0 H0 H1)) (f15 : n0 < n2) (f16 : n8 = 320) (f17 : n8 = hV H1 (n4).toNat 52) (f18 : n9 ≤ 5) (f19 : 0 ≤ n9) (f20 : n9 = hV H1 (n8).toNat (n0).toNat) (f21 : n10 = 2) (f22 : n9 < n10) (f23 : n9 = 0) (f24 : n11 = 321) (f25 : n11 = hV H1 (n4).toNat 53) (f26 : n12 ≤ 9999) (f27 : 0 ≤ n12) (f28 : n12 = hV H1 (n11).toNat (n0).toNat) : 0 ≤ n1 ∧ n1 < 500 := by
  have g4 := f14.2.1.1
  unfold Ab_238_5 at g4
  have g3 := f14.2.1.2
  unfold preb_238 at g3
  have e0 : hV H1 320 = hV H0 320 := fRow f14.1.2.1 320 kR_238_320
  have e1 : n9 = hV H0 320 (n0).toNat := (by rw [f16] at f20; exact f20 : n9 = hV H1 320 (n0).toNat).trans ((congrFun e0 _))
  have e3 : n12 = hV H0 321 (n0).toNat := (by rw [f24] at f28; exact f28 : n12 = hV H1 321 (n0).toNat).trans ((congrFun (fRow f14.1.2.1 321 kR_238_321) _))
  have k0 := g4.1
  have k1 := g4.2.1
  have y0 := g4.2.2.1
  have y1 := g4.2.2.2.1
  have y2 := g4.2.2.2.2
  have p0 := g3.1
  have p1 := g3.2
  try simp only [e0] at y0
  clear g3
  clear g4
  clear f17 f20 f25 f28 e0
  clear f14
  subst e1
  subst e3
  try have cg := CG_at p0 (by omega) (by omega) (c := n0) (by omega)
  try subst k1
  try subst k0
  subst y0
  omega
def g_238_5_61 : vG := ([(22, [13, 12, 7], [1], 0), (90, [13], [], 0), (91, [13], [], 9999), (20, [12, 3], [1], 53), (0, [12], [], 321), (30, [9], [], 0), (42, [9, 10], [], 0), (0, [10], [], 2), (22, [9, 8, 7], [1], 0), (90, [9], [], 0), (91, [9], [], 5), (20, [8, 3], [1], 52), (0, [8], [], 320), (42, [7, 5], [], 0), (5000, [0, 1, 2, 3, 4, 5, 6, 7], [0, 1], 5), (0, [0], [], 285), (90, [1], [], 0), (91, [1], [], 1200), (90, [2], [], 0), (91, [2], [], 1200), (0, [3], [], 285), (90, [4], [], 0), (91, [4], [], 1200), (90, [5], [], 0), (91, [5], [], 1200), (90, [6], [], 0), (91, [6], [], 500), (90, [7], [], 0), (91, [7], [], 1200)], (70, [6], [], 500))
theorem c_238_5_61 {q0 : Nat} : vOkm T0 (eP e_238 L_238 A_238 mu_238 (some q0)) 3 g_238_5_61 := vOk_inI fun ρ η f0 f1 f2 f3 f4 f5 f6 f7 f8 f9 f10 f11 f12 f13 f14 f15 f16 f17 f18 f19 f20 f21 f22 f23 f24 f25 f26 f27 f28 => q_238_62 (q0 := q0) (n0 := ρ 7) (n1 := ρ 6) (n2 := ρ 5) (n3 := ρ 4) (n4 := ρ 3) (n5 := ρ 2) (n6 := ρ 1) (n7 := ρ 0) (n8 := ρ 8) (n9 := ρ 9) (n10 := ρ 10) (n11 := ρ 12) (n12 := ρ 13) (H0 := η 0) (H1 := η 1) f28 f27 f26 f25 f24 f23 f22 f21 f20 f19 f18 f17 f16 f15 f14 f13 f12 f11 f10 f9 f8 f7 f6 f5 f4 f3 f2 f1 f0
theorem q_238_63 {q0 : Nat} {n0 n1 n2 n3 n4 n5 n6 n7 n8 n9 n10 n11 n12 n13 n14 : Int} {H0 H1 : gH} (f0 : n0 ≤ 1200) (f1 : 0 ≤ n0) (f2 : n1 ≤ 500) (f3 : 0 ≤ n1) (f4 : n2 ≤ 1200) (f5 : 0 ≤ n2) (f6 : n3 ≤ 1200) (f7 : 0 ≤ n3) (f8 : n4 = 285) (f9 : n5 ≤ 1200) (f10 : 0 ≤ n5) (f11 : n6 ≤ 1200) (f12 : 0 ≤ n6) (f13 : n7 = 285) (f14 : (hLe T0 H0 H1 ∧ hFr s_238.2.2.2.2 H0 H1 ∧ hWt T0 H1) ∧ (Ab_238_5 n7 n6 n5 n4 n3 n2 n1 n0 H0 H1 ∧ preb_238 n7 n6 n5 H0) ∧ some q0 = some (mub_238_5 n7 n6 n5 n4 n3 n2 n1 n0 H0 H1)) (f15 : n0 < n2) (f16 : n8 = 320) (f17 : n8 = hV H1 (n4).toNat 52) (f18 : n9 ≤ 5) (f19 : 0 ≤ n9) (f20 : n9 = hV H1 (n8).toNat (n0).toNat) (f21 : n10 = 2) (f22 : n9 < n10) (f23 : n9 = 0) (f24 : n11 = 321) (f25 : n11 = hV H1 (n4).toNat 53) (f26 : n12 ≤ 9999) (f27 : 0 ≤ n12) (f28 : n12 = hV H1 (n11).toNat (n0).toNat) (f29 : n13 = w32 (n1 + 1)) (f30 : n14 = w32 (n0 + 1)) : 0 ≤ n13 := by
  have g4 := f14.2.1.1
  unfold Ab_238_5 at g4
  have g3 := f14.2.1.2
  unfold preb_238 at g3
  have e0 : hV H1 320 = hV H0 320 := fRow f14.1.2.1 320 kR_238_320
  have e1 : n9 = hV H0 320 (n0).toNat := (by rw [f16] at f20; exact f20 : n9 = hV H1 320 (n0).toNat).trans ((congrFun e0 _))
  have e3 : n12 = hV H0 321 (n0).toNat := (by rw [f24] at f28; exact f28 : n12 = hV H1 321 (n0).toNat).trans ((congrFun (fRow f14.1.2.1 321 kR_238_321) _))
  have k0 := g4.1
  have k1 := g4.2.1
  have y0 := g4.2.2.1
  have y1 := g4.2.2.2.1
  have y2 := g4.2.2.2.2
  have p0 := g3.1
  have p1 := g3.2
  try simp only [e0] at y0
  clear g3
  clear g4
  clear f17 f20 f25 f28 e0
  clear f14
  subst e1
  subst e3
  try have cg := CG_at p0 (by omega) (by omega) (c := n0) (by omega)
  first
  | (have ix0 : n13 = n1 + 1 := Eq.trans f29 (w32_iv (Iad (Iat f3 f2) (IC 1)) (by decide)); subst ix0; clear f29)
  | (have ix0 : n13 = n1 + 1 := Eq.trans f29 (w32_id (by omega) (by omega)); subst ix0; clear f29)
  | (unfold w32 at f29; have ix0 : n13 = n1 + 1 := (by omega); subst ix0)
  | skip
  try unfold w32 at f29
  try unfold w32 at f30
  try subst k1
  try subst k0
  subst y0
  omega
def g_238_5_62 : vG := ([(10, [15, 7], [], 1), (10, [14, 6], [], 1), (22, [13, 12, 7], [1], 0), (90, [13], [], 0), (91, [13], [], 9999), (20, [12, 3], [1], 53), (0, [12], [], 321), (30, [9], [], 0), (42, [9, 10], [], 0), (0, [10], [], 2), (22, [9, 8, 7], [1], 0), (90, [9], [], 0), (91, [9], [], 5), (20, [8, 3], [1], 52), (0, [8], [], 320), (42, [7, 5], [], 0), (5000, [0, 1, 2, 3, 4, 5, 6, 7], [0, 1], 5), (0, [0], [], 285), (90, [1], [], 0), (91, [1], [], 1200), (90, [2], [], 0), (91, [2], [], 1200), (0, [3], [], 285), (90, [4], [], 0), (91, [4], [], 1200), (90, [5], [], 0), (91, [5], [], 1200), (90, [6], [], 0), (91, [6], [], 500), (90, [7], [], 0), (91, [7], [], 1200)], (90, [14], [], 0))
theorem c_238_5_62 {q0 : Nat} : vOkm T0 (eP e_238 L_238 A_238 mu_238 (some q0)) 3 g_238_5_62 := vOk_inI fun ρ η f0 f1 f2 f3 f4 f5 f6 f7 f8 f9 f10 f11 f12 f13 f14 f15 f16 f17 f18 f19 f20 f21 f22 f23 f24 f25 f26 f27 f28 f29 f30 => q_238_63 (q0 := q0) (n0 := ρ 7) (n1 := ρ 6) (n2 := ρ 5) (n3 := ρ 4) (n4 := ρ 3) (n5 := ρ 2) (n6 := ρ 1) (n7 := ρ 0) (n8 := ρ 8) (n9 := ρ 9) (n10 := ρ 10) (n11 := ρ 12) (n12 := ρ 13) (n13 := ρ 14) (n14 := ρ 15) (H0 := η 0) (H1 := η 1) f30 f29 f28 f27 f26 f25 f24 f23 f22 f21 f20 f19 f18 f17 f16 f15 f14 f13 f12 f11 f10 f9 f8 f7 f6 f5 f4 f3 f2 f1 f0
theorem q_238_64 {q0 : Nat} {n0 n1 n2 n3 n4 n5 n6 n7 n8 n9 n10 n11 n12 n13 n14 : Int} {H0 H1 : gH} (f0 : n0 ≤ 1200) (f1 : 0 ≤ n0) (f2 : n1 ≤ 500) (f3 : 0 ≤ n1) (f4 : n2 ≤ 1200) (f5 : 0 ≤ n2) (f6 : n3 ≤ 1200) (f7 : 0 ≤ n3) (f8 : n4 = 285) (f9 : n5 ≤ 1200) (f10 : 0 ≤ n5) (f11 : n6 ≤ 1200) (f12 : 0 ≤ n6) (f13 : n7 = 285) (f14 : (hLe T0 H0 H1 ∧ hFr s_238.2.2.2.2 H0 H1 ∧ hWt T0 H1) ∧ (Ab_238_5 n7 n6 n5 n4 n3 n2 n1 n0 H0 H1 ∧ preb_238 n7 n6 n5 H0) ∧ some q0 = some (mub_238_5 n7 n6 n5 n4 n3 n2 n1 n0 H0 H1)) (f15 : n0 < n2) (f16 : n8 = 320) (f17 : n8 = hV H1 (n4).toNat 52) (f18 : n9 ≤ 5) (f19 : 0 ≤ n9) (f20 : n9 = hV H1 (n8).toNat (n0).toNat) (f21 : n10 = 2) (f22 : n9 < n10) (f23 : n9 = 0) (f24 : n11 = 321) (f25 : n11 = hV H1 (n4).toNat 53) (f26 : n12 ≤ 9999) (f27 : 0 ≤ n12) (f28 : n12 = hV H1 (n11).toNat (n0).toNat) (f29 : n13 = w32 (n1 + 1)) (f30 : n14 = w32 (n0 + 1)) : n13 ≤ 500 := by
  have g4 := f14.2.1.1
  unfold Ab_238_5 at g4
  have g3 := f14.2.1.2
  unfold preb_238 at g3
  have e0 : hV H1 320 = hV H0 320 := fRow f14.1.2.1 320 kR_238_320
  have e1 : n9 = hV H0 320 (n0).toNat := (by rw [f16] at f20; exact f20 : n9 = hV H1 320 (n0).toNat).trans ((congrFun e0 _))
  have e3 : n12 = hV H0 321 (n0).toNat := (by rw [f24] at f28; exact f28 : n12 = hV H1 321 (n0).toNat).trans ((congrFun (fRow f14.1.2.1 321 kR_238_321) _))
  have k0 := g4.1
  have k1 := g4.2.1
  have y0 := g4.2.2.1
  have y1 := g4.2.2.2.1
  have y2 := g4.2.2.2.2
  have p0 := g3.1
  have p1 := g3.2
  try simp only [e0] at y0
  clear g3
  clear g4
  clear f17 f20 f25 f28 e0
  clear f14
  subst e1
  subst e3
  try have cg := CG_at p0 (by omega) (by omega) (c := n0) (by omega)
  first
  | (have ix0 : n13 = n1 + 1 := Eq.trans f29 (w32_iv (Iad (Iat f3 f2) (IC 1)) (by decide)); subst ix0; clear f29)
  | (have ix0 : n13 = n1 + 1 := Eq.trans f29 (w32_id (by omega) (by omega)); subst ix0; clear f29)
  | (unfold w32 at f29; have ix0 : n13 = n1 + 1 := (by omega); subst ix0)
  | skip
  try unfold w32 at f29
  try unfold w32 at f30
  try subst k1
  try subst k0
  subst y0
  omega
def g_238_5_63 : vG := ([(10, [15, 7], [], 1), (10, [14, 6], [], 1), (22, [13, 12, 7], [1], 0), (90, [13], [], 0), (91, [13], [], 9999), (20, [12, 3], [1], 53), (0, [12], [], 321), (30, [9], [], 0), (42, [9, 10], [], 0), (0, [10], [], 2), (22, [9, 8, 7], [1], 0), (90, [9], [], 0), (91, [9], [], 5), (20, [8, 3], [1], 52), (0, [8], [], 320), (42, [7, 5], [], 0), (5000, [0, 1, 2, 3, 4, 5, 6, 7], [0, 1], 5), (0, [0], [], 285), (90, [1], [], 0), (91, [1], [], 1200), (90, [2], [], 0), (91, [2], [], 1200), (0, [3], [], 285), (90, [4], [], 0), (91, [4], [], 1200), (90, [5], [], 0), (91, [5], [], 1200), (90, [6], [], 0), (91, [6], [], 500), (90, [7], [], 0), (91, [7], [], 1200)], (91, [14], [], 500))
theorem c_238_5_63 {q0 : Nat} : vOkm T0 (eP e_238 L_238 A_238 mu_238 (some q0)) 3 g_238_5_63 := vOk_inI fun ρ η f0 f1 f2 f3 f4 f5 f6 f7 f8 f9 f10 f11 f12 f13 f14 f15 f16 f17 f18 f19 f20 f21 f22 f23 f24 f25 f26 f27 f28 f29 f30 => q_238_64 (q0 := q0) (n0 := ρ 7) (n1 := ρ 6) (n2 := ρ 5) (n3 := ρ 4) (n4 := ρ 3) (n5 := ρ 2) (n6 := ρ 1) (n7 := ρ 0) (n8 := ρ 8) (n9 := ρ 9) (n10 := ρ 10) (n11 := ρ 12) (n12 := ρ 13) (n13 := ρ 14) (n14 := ρ 15) (H0 := η 0) (H1 := η 1) f30 f29 f28 f27 f26 f25 f24 f23 f22 f21 f20 f19 f18 f17 f16 f15 f14 f13 f12 f11 f10 f9 f8 f7 f6 f5 f4 f3 f2 f1 f0
theorem q_238_65 {q0 : Nat} {n0 n1 n2 n3 n4 n5 n6 n7 n8 n9 n10 n11 n12 n13 n14 : Int} {H0 H1 : gH} (f0 : n0 ≤ 1200) (f1 : 0 ≤ n0) (f2 : n1 ≤ 500) (f3 : 0 ≤ n1) (f4 : n2 ≤ 1200) (f5 : 0 ≤ n2) (f6 : n3 ≤ 1200) (f7 : 0 ≤ n3) (f8 : n4 = 285) (f9 : n5 ≤ 1200) (f10 : 0 ≤ n5) (f11 : n6 ≤ 1200) (f12 : 0 ≤ n6) (f13 : n7 = 285) (f14 : (hLe T0 H0 H1 ∧ hFr s_238.2.2.2.2 H0 H1 ∧ hWt T0 H1) ∧ (Ab_238_5 n7 n6 n5 n4 n3 n2 n1 n0 H0 H1 ∧ preb_238 n7 n6 n5 H0) ∧ some q0 = some (mub_238_5 n7 n6 n5 n4 n3 n2 n1 n0 H0 H1)) (f15 : n0 < n2) (f16 : n8 = 320) (f17 : n8 = hV H1 (n4).toNat 52) (f18 : n9 ≤ 5) (f19 : 0 ≤ n9) (f20 : n9 = hV H1 (n8).toNat (n0).toNat) (f21 : n10 = 2) (f22 : n9 < n10) (f23 : n9 = 0) (f24 : n11 = 321) (f25 : n11 = hV H1 (n4).toNat 53) (f26 : n12 ≤ 9999) (f27 : 0 ≤ n12) (f28 : n12 = hV H1 (n11).toNat (n0).toNat) (f29 : n13 = w32 (n1 + 1)) (f30 : n14 = w32 (n0 + 1)) : 0 ≤ n14 := by
  have g4 := f14.2.1.1
  unfold Ab_238_5 at g4
  have g3 := f14.2.1.2
  unfold preb_238 at g3
  have e0 : hV H1 320 = hV H0 320 := fRow f14.1.2.1 320 kR_238_320
  have e1 : n9 = hV H0 320 (n0).toNat := (by rw [f16] at f20; exact f20 : n9 = hV H1 320 (n0).toNat).trans ((congrFun e0 _))
  have e3 : n12 = hV H0 321 (n0).toNat := (by rw [f24] at f28; exact f28 : n12 = hV H1 321 (n0).toNat).trans ((congrFun (fRow f14.1.2.1 321 kR_238_321) _))
  have k0 := g4.1
  have k1 := g4.2.1
  have y0 := g4.2.2.1
  have y1 := g4.2.2.2.1
  have y2 := g4.2.2.2.2
  have p0 := g3.1
  have p1 := g3.2
  try simp only [e0] at y0
  clear g3
  clear g4
  clear f17 f20 f25 f28 e0
  clear f14
  subst e1
  subst e3
  try have cg := CG_at p0 (by omega) (by omega) (c := n0) (by omega)
  first
  | (have ix0 : n14 = n0 + 1 := Eq.trans f30 (w32_iv (Iad (Iat f1 f0) (IC 1)) (by decide)); subst ix0; clear f30)
  | (have ix0 : n14 = n0 + 1 := Eq.trans f30 (w32_id (by omega) (by omega)); subst ix0; clear f30)
  | (unfold w32 at f30; have ix0 : n14 = n0 + 1 := (by omega); subst ix0)
  | skip
  try unfold w32 at f29
  try unfold w32 at f30
  try subst k1
  try subst k0
  subst y0
  omega
def g_238_5_64 : vG := ([(10, [15, 7], [], 1), (10, [14, 6], [], 1), (22, [13, 12, 7], [1], 0), (90, [13], [], 0), (91, [13], [], 9999), (20, [12, 3], [1], 53), (0, [12], [], 321), (30, [9], [], 0), (42, [9, 10], [], 0), (0, [10], [], 2), (22, [9, 8, 7], [1], 0), (90, [9], [], 0), (91, [9], [], 5), (20, [8, 3], [1], 52), (0, [8], [], 320), (42, [7, 5], [], 0), (5000, [0, 1, 2, 3, 4, 5, 6, 7], [0, 1], 5), (0, [0], [], 285), (90, [1], [], 0), (91, [1], [], 1200), (90, [2], [], 0), (91, [2], [], 1200), (0, [3], [], 285), (90, [4], [], 0), (91, [4], [], 1200), (90, [5], [], 0), (91, [5], [], 1200), (90, [6], [], 0), (91, [6], [], 500), (90, [7], [], 0), (91, [7], [], 1200)], (90, [15], [], 0))
theorem c_238_5_64 {q0 : Nat} : vOkm T0 (eP e_238 L_238 A_238 mu_238 (some q0)) 3 g_238_5_64 := vOk_inI fun ρ η f0 f1 f2 f3 f4 f5 f6 f7 f8 f9 f10 f11 f12 f13 f14 f15 f16 f17 f18 f19 f20 f21 f22 f23 f24 f25 f26 f27 f28 f29 f30 => q_238_65 (q0 := q0) (n0 := ρ 7) (n1 := ρ 6) (n2 := ρ 5) (n3 := ρ 4) (n4 := ρ 3) (n5 := ρ 2) (n6 := ρ 1) (n7 := ρ 0) (n8 := ρ 8) (n9 := ρ 9) (n10 := ρ 10) (n11 := ρ 12) (n12 := ρ 13) (n13 := ρ 14) (n14 := ρ 15) (H0 := η 0) (H1 := η 1) f30 f29 f28 f27 f26 f25 f24 f23 f22 f21 f20 f19 f18 f17 f16 f15 f14 f13 f12 f11 f10 f9 f8 f7 f6 f5 f4 f3 f2 f1 f0
theorem q_238_66 {q0 : Nat} {n0 n1 n2 n3 n4 n5 n6 n7 n8 n9 n10 n11 n12 n13 n14 : Int} {H0 H1 : gH} (f0 : n0 ≤ 1200) (f1 : 0 ≤ n0) (f2 : n1 ≤ 500) (f3 : 0 ≤ n1) (f4 : n2 ≤ 1200) (f5 : 0 ≤ n2) (f6 : n3 ≤ 1200) (f7 : 0 ≤ n3) (f8 : n4 = 285) (f9 : n5 ≤ 1200) (f10 : 0 ≤ n5) (f11 : n6 ≤ 1200) (f12 : 0 ≤ n6) (f13 : n7 = 285) (f14 : (hLe T0 H0 H1 ∧ hFr s_238.2.2.2.2 H0 H1 ∧ hWt T0 H1) ∧ (Ab_238_5 n7 n6 n5 n4 n3 n2 n1 n0 H0 H1 ∧ preb_238 n7 n6 n5 H0) ∧ some q0 = some (mub_238_5 n7 n6 n5 n4 n3 n2 n1 n0 H0 H1)) (f15 : n0 < n2) (f16 : n8 = 320) (f17 : n8 = hV H1 (n4).toNat 52) (f18 : n9 ≤ 5) (f19 : 0 ≤ n9) (f20 : n9 = hV H1 (n8).toNat (n0).toNat) (f21 : n10 = 2) (f22 : n9 < n10) (f23 : n9 = 0) (f24 : n11 = 321) (f25 : n11 = hV H1 (n4).toNat 53) (f26 : n12 ≤ 9999) (f27 : 0 ≤ n12) (f28 : n12 = hV H1 (n11).toNat (n0).toNat) (f29 : n13 = w32 (n1 + 1)) (f30 : n14 = w32 (n0 + 1)) : n14 ≤ 1200 := by
  have g4 := f14.2.1.1
  unfold Ab_238_5 at g4
  have g3 := f14.2.1.2
  unfold preb_238 at g3
  have e0 : hV H1 320 = hV H0 320 := fRow f14.1.2.1 320 kR_238_320
  have e1 : n9 = hV H0 320 (n0).toNat := (by rw [f16] at f20; exact f20 : n9 = hV H1 320 (n0).toNat).trans ((congrFun e0 _))
  have e3 : n12 = hV H0 321 (n0).toNat := (by rw [f24] at f28; exact f28 : n12 = hV H1 321 (n0).toNat).trans ((congrFun (fRow f14.1.2.1 321 kR_238_321) _))
  have k0 := g4.1
  have k1 := g4.2.1
  have y0 := g4.2.2.1
  have y1 := g4.2.2.2.1
  have y2 := g4.2.2.2.2
  have p0 := g3.1
  have p1 := g3.2
  try simp only [e0] at y0
  clear g3
  clear g4
  clear f17 f20 f25 f28 e0
  clear f14
  subst e1
  subst e3
  try have cg := CG_at p0 (by omega) (by omega) (c := n0) (by omega)
  first
  | (have ix0 : n14 = n0 + 1 := Eq.trans f30 (w32_iv (Iad (Iat f1 f0) (IC 1)) (by decide)); subst ix0; clear f30)
  | (have ix0 : n14 = n0 + 1 := Eq.trans f30 (w32_id (by omega) (by omega)); subst ix0; clear f30)
  | (unfold w32 at f30; have ix0 : n14 = n0 + 1 := (by omega); subst ix0)
  | skip
  try unfold w32 at f29
  try unfold w32 at f30
  try subst k1
  try subst k0
  subst y0
  omega
def g_238_5_65 : vG := ([(10, [15, 7], [], 1), (10, [14, 6], [], 1), (22, [13, 12, 7], [1], 0), (90, [13], [], 0), (91, [13], [], 9999), (20, [12, 3], [1], 53), (0, [12], [], 321), (30, [9], [], 0), (42, [9, 10], [], 0), (0, [10], [], 2), (22, [9, 8, 7], [1], 0), (90, [9], [], 0), (91, [9], [], 5), (20, [8, 3], [1], 52), (0, [8], [], 320), (42, [7, 5], [], 0), (5000, [0, 1, 2, 3, 4, 5, 6, 7], [0, 1], 5), (0, [0], [], 285), (90, [1], [], 0), (91, [1], [], 1200), (90, [2], [], 0), (91, [2], [], 1200), (0, [3], [], 285), (90, [4], [], 0), (91, [4], [], 1200), (90, [5], [], 0), (91, [5], [], 1200), (90, [6], [], 0), (91, [6], [], 500), (90, [7], [], 0), (91, [7], [], 1200)], (91, [15], [], 1200))
theorem c_238_5_65 {q0 : Nat} : vOkm T0 (eP e_238 L_238 A_238 mu_238 (some q0)) 3 g_238_5_65 := vOk_inI fun ρ η f0 f1 f2 f3 f4 f5 f6 f7 f8 f9 f10 f11 f12 f13 f14 f15 f16 f17 f18 f19 f20 f21 f22 f23 f24 f25 f26 f27 f28 f29 f30 => q_238_66 (q0 := q0) (n0 := ρ 7) (n1 := ρ 6) (n2 := ρ 5) (n3 := ρ 4) (n4 := ρ 3) (n5 := ρ 2) (n6 := ρ 1) (n7 := ρ 0) (n8 := ρ 8) (n9 := ρ 9) (n10 := ρ 10) (n11 := ρ 12) (n12 := ρ 13) (n13 := ρ 14) (n14 := ρ 15) (H0 := η 0) (H1 := η 1) f30 f29 f28 f27 f26 f25 f24 f23 f22 f21 f20 f19 f18 f17 f16 f15 f14 f13 f12 f11 f10 f9 f8 f7 f6 f5 f4 f3 f2 f1 f0
theorem q_238_67 {q0 : Nat} {n0 n1 n2 n3 n4 n5 n6 n7 n8 n9 n10 n11 n12 n13 n14 n15 : Int} {H0 H1 H2 : gH} (f0 : n0 ≤ 1200) (f1 : 0 ≤ n0) (f2 : n1 ≤ 500) (f3 : 0 ≤ n1) (f4 : n2 ≤ 1200) (f5 : 0 ≤ n2) (f6 : n3 ≤ 1200) (f7 : 0 ≤ n3) (f8 : n4 = 285) (f9 : n5 ≤ 1200) (f10 : 0 ≤ n5) (f11 : n6 ≤ 1200) (f12 : 0 ≤ n6) (f13 : n7 = 285) (f14 : (hLe T0 H0 H1 ∧ hFr s_238.2.2.2.2 H0 H1 ∧ hWt T0 H1) ∧ (Ab_238_5 n7 n6 n5 n4 n3 n2 n1 n0 H0 H1 ∧ preb_238 n7 n6 n5 H0) ∧ some q0 = some (mub_238_5 n7 n6 n5 n4 n3 n2 n1 n0 H0 H1)) (f15 : n0 < n2) (f16 : n8 = 320) (f17 : n8 = hV H1 (n4).toNat 52) (f18 : n9 ≤ 5) (f19 : 0 ≤ n9) (f20 : n9 = hV H1 (n8).toNat (n0).toNat) (f21 : n10 = 2) (f22 : n9 < n10) (f23 : n11 = 324) (f24 : n11 = hV H1 (n4).toNat 57) (f25 : n9 = 0) (f26 : n12 = 321) (f27 : n12 = hV H1 (n4).toNat 53) (f28 : n13 ≤ 9999) (f29 : 0 ≤ n13) (f30 : n13 = hV H1 (n12).toNat (n0).toNat) (f31 : hUpd H2 H1 n11 n1 n13) (f32 : n14 = w32 (n1 + 1)) (f33 : n15 = w32 (n0 + 1)) : Ab_238_5 n7 n6 n5 n4 n3 n2 n14 n15 H0 H2 ∧ ∀ q, some q0 = some q → mub_238_5 n7 n6 n5 n4 n3 n2 n14 n15 H0 H2 < q := by
  have g4 := f14.2.1.1
  unfold Ab_238_5 at g4
  have g3 := f14.2.1.2
  unfold preb_238 at g3
  have g5 := Option.some.inj f14.2.2
  unfold mub_238_5 at g5
  unfold Ab_238_5
  unfold mub_238_5
  have e0 : hV H1 320 = hV H0 320 := fRow f14.1.2.1 320 kR_238_320
  have e1 : n9 = hV H0 320 (n0).toNat := (by rw [f16] at f20; exact f20 : n9 = hV H1 320 (n0).toNat).trans ((congrFun e0 _))
  have e3 : n13 = hV H0 321 (n0).toNat := (by rw [f26] at f30; exact f30 : n13 = hV H1 321 (n0).toNat).trans ((congrFun (fRow f14.1.2.1 321 kR_238_321) _))
  have e5 : hV H2 320 = hV H0 320 := (uRowNe f31 320 (iS (show n11 = ((324 : Nat) : Int) from f23) rfl)).trans e0
  try simp only [e5]
  have k0 := g4.1
  have k1 := g4.2.1
  have y0 := g4.2.2.1
  have y1 := g4.2.2.2.1
  have y2 := g4.2.2.2.2
  have p0 := g3.1
  have p1 := g3.2
  try simp only [e0] at y0
  clear g3
  clear g4
  clear f17 f20 f24 f27 f30 e0 e5
  clear f14
  subst e1
  subst e3
  try have cg := CG_at p0 (by omega) (by omega) (c := n0) (by omega)
  first
  | (have ix0 : n14 = n1 + 1 := Eq.trans f32 (w32_iv (Iad (Iat f3 f2) (IC 1)) (by decide)); subst ix0; clear f32)
  | (have ix0 : n14 = n1 + 1 := Eq.trans f32 (w32_id (by omega) (by omega)); subst ix0; clear f32)
  | (unfold w32 at f32; have ix0 : n14 = n1 + 1 := (by omega); subst ix0)
  | skip
  first
  | (have ix1 : n15 = n0 + 1 := Eq.trans f33 (w32_iv (Iad (Iat f1 f0) (IC 1)) (by decide)); subst ix1; clear f33)
  | (have ix1 : n15 = n0 + 1 := Eq.trans f33 (w32_id (by omega) (by omega)); subst ix1; clear f33)
  | (unfold w32 at f33; have ix1 : n15 = n0 + 1 := (by omega); subst ix1)
  | skip
  try unfold w32 at f32
  try unfold w32 at f33
  try subst k1
  try subst k0
  subst y0
  refine ⟨?_, fun q hq => ?_⟩
  · refine ⟨?_, ?_, ?_, ?_, ?_⟩ <;> first | assumption | omega | trivial
  · have g6 := Option.some.inj hq
    subst g6
    omega
def g_238_5_66 : vG := ([(10, [15, 7], [], 1), (10, [14, 6], [], 1), (80, [11, 6, 13], [2, 1], 0), (22, [13, 12, 7], [1], 0), (90, [13], [], 0), (91, [13], [], 9999), (20, [12, 3], [1], 53), (0, [12], [], 321), (30, [9], [], 0), (20, [11, 3], [1], 57), (0, [11], [], 324), (42, [9, 10], [], 0), (0, [10], [], 2), (22, [9, 8, 7], [1], 0), (90, [9], [], 0), (91, [9], [], 5), (20, [8, 3], [1], 52), (0, [8], [], 320), (42, [7, 5], [], 0), (5000, [0, 1, 2, 3, 4, 5, 6, 7], [0, 1], 5), (0, [0], [], 285), (90, [1], [], 0), (91, [1], [], 1200), (90, [2], [], 0), (91, [2], [], 1200), (0, [3], [], 285), (90, [4], [], 0), (91, [4], [], 1200), (90, [5], [], 0), (91, [5], [], 1200), (90, [6], [], 0), (91, [6], [], 500), (90, [7], [], 0), (91, [7], [], 1200)], (4000, [3, 4, 5, 14, 15], [2], 5))
theorem c_238_5_66 {q0 : Nat} : vOkm T0 (eP e_238 L_238 A_238 mu_238 (some q0)) 3 g_238_5_66 := vOk_inI fun ρ η f0 f1 f2 f3 f4 f5 f6 f7 f8 f9 f10 f11 f12 f13 f14 f15 f16 f17 f18 f19 f20 f21 f22 f23 f24 f25 f26 f27 f28 f29 f30 f31 f32 f33 => q_238_67 (q0 := q0) (n0 := ρ 7) (n1 := ρ 6) (n2 := ρ 5) (n3 := ρ 4) (n4 := ρ 3) (n5 := ρ 2) (n6 := ρ 1) (n7 := ρ 0) (n8 := ρ 8) (n9 := ρ 9) (n10 := ρ 10) (n11 := ρ 11) (n12 := ρ 12) (n13 := ρ 13) (n14 := ρ 14) (n15 := ρ 15) (H0 := η 0) (H1 := η 1) (H2 := η 2) f33 f32 f31 f30 f29 f28 f27 f26 f25 f24 f23 f22 f21 f20 f19 f18 f17 f16 f15 f14 f13 f12 f11 f10 f9 f8 f7 f6 f5 f4 f3 f2 f1 f0
def p_238_5 : List vG := [g_238_5_0,
  g_238_5_1,
  g_238_5_2,
  g_238_5_3,
  g_238_5_4,
  g_238_5_5,
  g_238_5_6,
  g_238_5_7,
  g_238_5_8,
  g_238_5_9,
  g_238_5_10,
  g_238_5_11,
  g_238_5_12,
  g_238_5_13,
  g_238_5_14,
  g_238_5_15,
  g_238_5_16,
  g_238_5_17,
  g_238_5_18,
  g_238_5_19,
  g_238_5_20,
  g_238_5_21,
  g_238_5_22,
  g_238_5_23,
  g_238_5_24,
  g_238_5_25,
  g_238_5_26,
  g_238_5_27,
  g_238_5_28,
  g_238_5_29,
  g_238_5_30,
  g_238_5_31,
  g_238_5_32,
  g_238_5_33,
  g_238_5_34,
  g_238_5_35,
  g_238_5_36,
  g_238_5_37,
  g_238_5_38,
  g_238_5_39,
  g_238_5_40,
  g_238_5_41,
  g_238_5_42,
  g_238_5_43,
  g_238_5_44,
  g_238_5_45,
  g_238_5_46,
  g_238_5_47,
  g_238_5_48,
  g_238_5_49,
  g_238_5_50,
  g_238_5_51,
  g_238_5_52,
  g_238_5_53,
  g_238_5_54,
  g_238_5_55,
  g_238_5_56,
  g_238_5_57,
  g_238_5_58,
  g_238_5_59,
  g_238_5_60,
  g_238_5_61,
  g_238_5_62,
  g_238_5_63,
  g_238_5_64,
  g_238_5_65,
  g_238_5_66]
theorem r_238_5 : vCovO true (eRc e_238 L_238 cs_238 2000 (5, [(0, (3, 12, 285, 0)), (1, (0, 0, 1200, 0)), (2, (0, 0, 1200, 0)), (3, (0, 0, 500, 0)), (4, (0, 0, 1200, 0))])) p_238_5 = true := by decide +kernel
theorem m_238 (d : Nat) : eC e_238 (d + 1) := eC_ok (e := e_238) (L := L_238) (cs := cs_238) (n := 2000) (d := d + 0) (A := A_238) (μ := mu_238) (tp := true) (p0 := p_238_s) rfl trivial rfl (.inl rfl) (by decide +kernel) (fun _ => post0_ok) r_238_s (allC c_238_s_0 allN) (allC (.inl ⟨p_238_5, r_238_5, fun q0 => (allC c_238_5_0 (allC c_238_5_1 (allC c_238_5_2 (allC c_238_5_3 (allC c_238_5_4 (allC c_238_5_5 (allC c_238_5_6 (allC c_238_5_7 (allC c_238_5_8 (allC c_238_5_9 (allC c_238_5_10 (allC c_238_5_11 (allC c_238_5_12 (allC c_238_5_13 (allC c_238_5_14 (allC c_238_5_15 (allC c_238_5_16 (allC c_238_5_17 (allC c_238_5_18 (allC c_238_5_19 (allC c_238_5_20 (allC c_238_5_21 (allC c_238_5_22 (allC c_238_5_23 (allC c_238_5_24 (allC c_238_5_25 (allC c_238_5_26 (allC c_238_5_27 (allC c_238_5_28 (allC c_238_5_29 (allC c_238_5_30 (allC c_238_5_31 (allC c_238_5_32 (allC c_238_5_33 (allC c_238_5_34 (allC c_238_5_35 (allC c_238_5_36 (allC c_238_5_37 (allC c_238_5_38 (allC c_238_5_39 (allC c_238_5_40 (allC c_238_5_41 (allC c_238_5_42 (allC c_238_5_43 (allC c_238_5_44 (allC c_238_5_45 (allC c_238_5_46 (allC c_238_5_47 (allC c_238_5_48 (allC c_238_5_49 (allC c_238_5_50 (allC c_238_5_51 (allC c_238_5_52 (allC c_238_5_53 (allC c_238_5_54 (allC c_238_5_55 (allC c_238_5_56 (allC c_238_5_57 (allC c_238_5_58 (allC c_238_5_59 (allC c_238_5_60 (allC c_238_5_61 (allC c_238_5_62 (allC c_238_5_63 (allC c_238_5_64 (allC c_238_5_65 (allC c_238_5_66 allN)))))))))))))))))))))))))))))))))))))))))))))))))))))))))))))))))))⟩) allN)
