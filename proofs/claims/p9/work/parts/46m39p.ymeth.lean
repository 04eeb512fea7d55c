/-! CONTRACTS of methods (printed by wip/gen/emit.py). -/
/- MixStageModel.cut ()V -/
noncomputable def s_214 : vM := ([(3, 12, 285, 0)], (9, 0, 0, 0), 0, 0, [(12, 10), (132, 0), (140, 0), (148, 0), (157, 0)])
noncomputable def e_214 : vE := (214, s_214, pre0, post0)
noncomputable def L_214 : List vE := [e_208, e_209, e_210, e_211, e_213, e_215]
def cs_214 : List vC := [(7, [(0, (3, 12, 285, 0)), (1, (0, 0, 2000, 0))]), (85, [(0, (3, 12, 285, 0)), (1, (0, 0, 2000, 0)), (2, (0, -2147483648, 2147483647, 0)), (3, (0, 0, 2000, 0)), (4, (1, 0, 0, 0))]), (146, [(0, (3, 12, 285, 0)), (1, (0, 0, 2000, 0)), (2, (0, -2147483648, 2147483647, 0)), (3, (0, 0, 2000, 0)), (4, (1, 0, 0, 0)), (6, (0, 0, 53, 0)), (7, (0, 0, 100, 0))]), (208, [(0, (3, 12, 285, 0)), (1, (0, 0, 2000, 0)), (2, (0, -2147483648, 2147483647, 0)), (3, (0, 0, 2000, 0)), (4, (0, 0, 9999, 0))])]
def Ab_214_7 (a0 x0 x1 : Int) (h0 h : gH) : Prop := x1 ≤ hV h 285 4
def mub_214_7 (a0 x0 x1 : Int) (h0 h : gH) : Nat := (502 - hV h 285 10).toNat * 1000000 + (2001 - x1).toNat * 10000
def Ab_214_85 (a0 x0 x1 x2 x3 x4 : Int) (h0 h : gH) : Prop := x1 + x3 ≤ hV h 285 4 ∧ hV h 285 10 ≤ 500
def mub_214_85 (a0 x0 x1 x2 x3 x4 : Int) (h0 h : gH) : Nat := (502 - hV h 285 10).toNat * 1000000 + (2001 - x1).toNat * 10000 - 1 - x3.toNat
def Ab_214_146 (a0 x0 x1 x2 x3 x4 x6 x7 : Int) (h0 h : gH) : Prop := x1 + x3 ≤ hV h 285 4 ∧ hV h 285 10 ≤ 500
def mub_214_146 (a0 x0 x1 x2 x3 x4 x6 x7 : Int) (h0 h : gH) : Nat := (502 - hV h 285 10).toNat * 1000000 + (2001 - x1).toNat * 10000 - 5000 - x7.toNat
def Ab_214_208 (a0 x0 x1 x2 x3 x4 : Int) (h0 h : gH) : Prop := x1 + x3 ≤ hV h 285 4 ∧ hV h 285 10 ≤ 500 ∧ (x3 = 0 → x4 = 0) ∧ (x3 = 1 → x4 ≤ 9) ∧ (x3 = 2 → x4 ≤ 99) ∧ (x3 = 3 → x4 ≤ 999)
def mub_214_208 (a0 x0 x1 x2 x3 x4 : Int) (h0 h : gH) : Nat := (502 - hV h 285 10).toNat * 1000000 + (2001 - x1).toNat * 10000 - 1 - x3.toNat
def A_214 : Int → List Int → gH → gH → Prop := fun c xs h0 h => match c.toNat with
  | 7 => (match xs with
    | [a0, x0, x1] => Ab_214_7 a0 x0 x1 h0 h
    | _ => False)
  | 85 => (match xs with
    | [a0, x0, x1, x2, x3, x4] => Ab_214_85 a0 x0 x1 x2 x3 x4 h0 h
    | _ => False)
  | 146 => (match xs with
    | [a0, x0, x1, x2, x3, x4, x6, x7] => Ab_214_146 a0 x0 x1 x2 x3 x4 x6 x7 h0 h
    | _ => False)
  | 208 => (match xs with
    | [a0, x0, x1, x2, x3, x4] => Ab_214_208 a0 x0 x1 x2 x3 x4 h0 h
    | _ => False)
  | _ => True
def mu_214 : Int → List Int → gH → gH → Nat := fun c xs h0 h => match c.toNat with
  | 7 => (match xs with
    | [a0, x0, x1] => mub_214_7 a0 x0 x1 h0 h
    | _ => 0)
  | 85 => (match xs with
    | [a0, x0, x1, x2, x3, x4] => mub_214_85 a0 x0 x1 x2 x3 x4 h0 h
    | _ => 0)
  | 146 => (match xs with
    | [a0, x0, x1, x2, x3, x4, x6, x7] => mub_214_146 a0 x0 x1 x2 x3 x4 x6 x7 h0 h
    | _ => 0)
  | 208 => (match xs with
    | [a0, x0, x1, x2, x3, x4] => mub_214_208 a0 x0 x1 x2 x3 x4 h0 h
    | _ => 0)
  | _ => 0
theorem q_214_0 {n0 n1 n2 n3 : Int} {H0 H1 : gH} (f0 : n0 = 285) (f1 : hWt T0 H0 ∧ True) (f2 : n1 = 0) (f3 : n2 = 10) (f4 : hUpd H1 H0 n0 n2 n1) (f5 : n3 = 0) : Ab_214_7 n0 n0 n3 H0 H1 ∧ ∀ q, none = some q → mub_214_7 n0 n0 n3 H0 H1 < q := by
  unfold Ab_214_7
  have e1 : hV H1 285 10 = n1 := (uSame f4 285 10 f0.symm f3.symm)
  have e3 : hV H1 285 4 = hV H0 285 4 := (uSlot f4 285 4 (iS (show n2 = ((10 : Nat) : Int) from f3) rfl))
  have e4 : (0 : Int) ≤ hV H0 285 4 ∧ hV H0 285 4 ≤ 2000 := f1.1 285 4 _ _ kW_285_4
  try simp only [e3]
  clear e3
  clear f1
  refine ⟨?_, fun q hq => ?_⟩
  · first | assumption | (first | lia | omega) | trivial
  · exact nomatch hq
def g_214_s_0 : vG := ([(0, [3], [], 0), (80, [0, 2, 1], [1, 0], 0), (0, [2], [], 10), (0, [1], [], 0), (6000, [0], [0], 0), (0, [0], [], 285)], (4000, [0, 3], [1], 7))
theorem c_214_s_0 : vOkm T0 (eP e_214 L_214 A_214 mu_214 none) 1 g_214_s_0 := vOk_inI fun ρ η f0 f1 f2 f3 f4 f5 => q_214_0 (n0 := ρ 0) (n1 := ρ 1) (n2 := ρ 2) (n3 := ρ 3) (H0 := η 0) (H1 := η 1) f5 f4 f3 f2 f1 f0
def p_214_s : List vG := [g_214_s_0]
theorem r_214_s : vCovO true (eR0 e_214 L_214 cs_214 2000) p_214_s = true := by decide +kernel
theorem kF_214_285_4 : vFree s_214.2.2.2.2 285 4 = true := by decide +kernel
theorem q_214_1 {q0 : Nat} {n0 n1 n2 : Int} {H0 H1 : gH} (f0 : n0 ≤ 2000) (f1 : 0 ≤ n0) (f2 : n1 = 285) (f3 : n2 = 285) (f4 : (hLe T0 H0 H1 ∧ hFr s_214.2.2.2.2 H0 H1 ∧ hWt T0 H1) ∧ (Ab_214_7 n2 n1 n0 H0 H1 ∧ True) ∧ some q0 = some (mub_214_7 n2 n1 n0 H0 H1)) : preb_208 n1 n0 H1 := by
  have g4 := f4.2.1.1
  unfold Ab_214_7 at g4
  unfold preb_208
  have e1 : hV H1 285 4 = hV H0 285 4 := (f4.1.2.1.1 285 4 kF_214_285_4)
  have e2 : (0 : Int) ≤ hV H1 285 10 ∧ hV H1 285 10 ≤ 501 := f4.1.2.2 285 10 _ _ kW_285_10
  have e3 : (0 : Int) ≤ hV H0 285 4 ∧ hV H0 285 4 ≤ 2000 := bTo e1 (f4.1.2.2 285 4 _ _ kW_285_4)
  have y0 := g4
  try simp only [e1] at y0
  clear g4
  clear e1
  clear f4
  first | assumption | (first | lia | omega) | trivial
def g_214_7_0 : vG := ([(5000, [0, 1, 2], [0, 1], 7), (0, [0], [], 285), (0, [1], [], 285), (90, [2], [], 0), (91, [2], [], 2000)], (2208, [1, 2], [1], 0))
theorem c_214_7_0 {q0 : Nat} : vOkm T0 (eP e_214 L_214 A_214 mu_214 (some q0)) 1 g_214_7_0 := vOk_inI fun ρ η f0 f1 f2 f3 f4 => q_214_1 (q0 := q0) (n0 := ρ 2) (n1 := ρ 1) (n2 := ρ 0) (H0 := η 0) (H1 := η 1) f4 f3 f2 f1 f0
theorem kR_208_287 : vFreeR s_208.2.2.2.2 287 = true := by decide +kernel
theorem kR_214_287 : vFreeR s_214.2.2.2.2 287 = true := by decide +kernel
theorem kF_208_285_4 : vFree s_208.2.2.2.2 285 4 = true := by decide +kernel
theorem q_214_2 {q0 : Nat} {n0 n1 n2 n3 n4 n5 n6 : Int} {H0 H1 H2 : gH} (f0 : n0 ≤ 2000) (f1 : 0 ≤ n0) (f2 : n1 = 285) (f3 : n2 = 285) (f4 : (hLe T0 H0 H1 ∧ hFr s_214.2.2.2.2 H0 H1 ∧ hWt T0 H1) ∧ (Ab_214_7 n2 n1 n0 H0 H1 ∧ True) ∧ some q0 = some (mub_214_7 n2 n1 n0 H0 H1)) (f5 : n3 ≤ 255) (f6 : 0 ≤ n3) (f7 : (hLe T0 H1 H2 ∧ hFr s_208.2.2.2.2 H1 H2 ∧ ((0 : Int) = 0 → H2.length = H1.length) ∧ hWt T0 H2) ∧ postb_208 n3 n1 n0 H1 H2) (f8 : n4 ≤ 2000) (f9 : 0 ≤ n4) (f10 : n4 = hV H2 (n1).toNat 4) (f11 : n0 < n4) (f12 : n5 = 9) (f13 : n3 = n5) (f14 : n6 = w32 (n0 + 1)) : 0 ≤ n6 := by
  have g4 := f4.2.1.1
  unfold Ab_214_7 at g4
  unfold postb_208 at f7
  have e2 : n4 = hV H0 285 4 := (by rw [f2] at f10; exact f10 : n4 = hV H2 285 4).trans (((f7.1.2.1.1 285 4 kF_208_285_4)).trans (f4.1.2.1.1 285 4 kF_214_285_4))
  have e3 : hV H1 285 4 = hV H0 285 4 := (f4.1.2.1.1 285 4 kF_214_285_4)
  have e4 : hV H2 285 4 = hV H0 285 4 := ((f7.1.2.1.1 285 4 kF_208_285_4)).trans (f4.1.2.1.1 285 4 kF_214_285_4)
  have e7 : hV H2 287 = hV H0 287 := (fRow f7.1.2.1 287 kR_208_287).trans (fRow f4.1.2.1 287 kR_214_287)
  have e8 : (0 : Int) ≤ hV H1 285 10 ∧ hV H1 285 10 ≤ 501 := f4.1.2.2 285 10 _ _ kW_285_10
  have e9 : (0 : Int) ≤ hV H0 285 4 ∧ hV H0 285 4 ≤ 2000 := bTo e3 (f4.1.2.2 285 4 _ _ kW_285_4)
  have y0 := g4
  have r0_0 := f7.2.1
  have r0_1 := f7.2.2
  try simp only [e3] at y0
  try simp only [e4, e7] at r0_0
  try simp only [e4] at r0_1
  clear g4
  clear f10 e3 e4 e7
  clear f4 f7
  subst e2
  first
  | (have ix0 : n6 = n0 + 1 := Eq.trans f14 (w32_iv (Iad (Iat f1 f0) (IC 1)) (by decide)); subst ix0; clear f14)
  | (have ix0 : n6 = n0 + 1 := Eq.trans f14 (w32_id (by (first | lia | omega)) (by (first | lia | omega))); subst ix0; clear f14)
  | (unfold w32 at f14; have ix0 : n6 = n0 + 1 := (by (first | lia | omega)); subst ix0)
  | skip
  try unfold w32 at f14
  (first | lia | omega)
def g_214_7_1 : vG := ([(10, [8, 2], [], 1), (40, [5, 7], [], 0), (0, [7], [], 9), (42, [2, 6], [], 0), (20, [6, 1], [2], 4), (90, [6], [], 0), (91, [6], [], 2000), (1208, [5, 1, 2], [1, 2], 0), (90, [5], [], 0), (91, [5], [], 255), (5000, [0, 1, 2], [0, 1], 7), (0, [0], [], 285), (0, [1], [], 285), (90, [2], [], 0), (91, [2], [], 2000)], (90, [8], [], 0))
theorem c_214_7_1 {q0 : Nat} : vOkm T0 (eP e_214 L_214 A_214 mu_214 (some q0)) 1 g_214_7_1 := vOk_inI fun ρ η f0 f1 f2 f3 f4 f5 f6 f7 f8 f9 f10 f11 f12 f13 f14 => q_214_2 (q0 := q0) (n0 := ρ 2) (n1 := ρ 1) (n2 := ρ 0) (n3 := ρ 5) (n4 := ρ 6) (n5 := ρ 7) (n6 := ρ 8) (H0 := η 0) (H1 := η 1) (H2 := η 2) f14 f13 f12 f11 f10 f9 f8 f7 f6 f5 f4 f3 f2 f1 f0
theorem q_214_3 {q0 : Nat} {n0 n1 n2 n3 n4 n5 n6 : Int} {H0 H1 H2 : gH} (f0 : n0 ≤ 2000) (f1 : 0 ≤ n0) (f2 : n1 = 285) (f3 : n2 = 285) (f4 : (hLe T0 H0 H1 ∧ hFr s_214.2.2.2.2 H0 H1 ∧ hWt T0 H1) ∧ (Ab_214_7 n2 n1 n0 H0 H1 ∧ True) ∧ some q0 = some (mub_214_7 n2 n1 n0 H0 H1)) (f5 : n3 ≤ 255) (f6 : 0 ≤ n3) (f7 : (hLe T0 H1 H2 ∧ hFr s_208.2.2.2.2 H1 H2 ∧ ((0 : Int) = 0 → H2.length = H1.length) ∧ hWt T0 H2) ∧ postb_208 n3 n1 n0 H1 H2) (f8 : n4 ≤ 2000) (f9 : 0 ≤ n4) (f10 : n4 = hV H2 (n1).toNat 4) (f11 : n0 < n4) (f12 : n5 = 9) (f13 : n3 = n5) (f14 : n6 = w32 (n0 + 1)) : n6 ≤ 2000 := by
  have g4 := f4.2.1.1
  unfold Ab_214_7 at g4
  unfold postb_208 at f7
  have e2 : n4 = hV H0 285 4 := (by rw [f2] at f10; exact f10 : n4 = hV H2 285 4).trans (((f7.1.2.1.1 285 4 kF_208_285_4)).trans (f4.1.2.1.1 285 4 kF_214_285_4))
  have e3 : hV H1 285 4 = hV H0 285 4 := (f4.1.2.1.1 285 4 kF_214_285_4)
  have e4 : hV H2 285 4 = hV H0 285 4 := ((f7.1.2.1.1 285 4 kF_208_285_4)).trans (f4.1.2.1.1 285 4 kF_214_285_4)
  have e7 : hV H2 287 = hV H0 287 := (fRow f7.1.2.1 287 kR_208_287).trans (fRow f4.1.2.1 287 kR_214_287)
  have e8 : (0 : Int) ≤ hV H1 285 10 ∧ hV H1 285 10 ≤ 501 := f4.1.2.2 285 10 _ _ kW_285_10
  have e9 : (0 : Int) ≤ hV H0 285 4 ∧ hV H0 285 4 ≤ 2000 := bTo e3 (f4.1.2.2 285 4 _ _ kW_285_4)
  have y0 := g4
  have r0_0 := f7.2.1
  have r0_1 := f7.2.2
  try simp only [e3] at y0
  try simp only [e4, e7] at r0_0
  try simp only [e4] at r0_1
  clear g4
  clear f10 e3 e4 e7
  clear f4 f7
  subst e2
  first
  | (have ix0 : n6 = n0 + 1 := Eq.trans f14 (w32_iv (Iad (Iat f1 f0) (IC 1)) (by decide)); subst ix0; clear f14)
  | (have ix0 : n6 = n0 + 1 := Eq.trans f14 (w32_id (by (first | lia | omega)) (by (first | lia | omega))); subst ix0; clear f14)
  | (unfold w32 at f14; have ix0 : n6 = n0 + 1 := (by (first | lia | omega)); subst ix0)
  | skip
  try unfold w32 at f14
  (first | lia | omega)
def g_214_7_2 : vG := ([(10, [8, 2], [], 1), (40, [5, 7], [], 0), (0, [7], [], 9), (42, [2, 6], [], 0), (20, [6, 1], [2], 4), (90, [6], [], 0), (91, [6], [], 2000), (1208, [5, 1, 2], [1, 2], 0), (90, [5], [], 0), (91, [5], [], 255), (5000, [0, 1, 2], [0, 1], 7), (0, [0], [], 285), (0, [1], [], 285), (90, [2], [], 0), (91, [2], [], 2000)], (91, [8], [], 2000))
theorem c_214_7_2 {q0 : Nat} : vOkm T0 (eP e_214 L_214 A_214 mu_214 (some q0)) 1 g_214_7_2 := vOk_inI fun ρ η f0 f1 f2 f3 f4 f5 f6 f7 f8 f9 f10 f11 f12 f13 f14 => q_214_3 (q0 := q0) (n0 := ρ 2) (n1 := ρ 1) (n2 := ρ 0) (n3 := ρ 5) (n4 := ρ 6) (n5 := ρ 7) (n6 := ρ 8) (H0 := η 0) (H1 := η 1) (H2 := η 2) f14 f13 f12 f11 f10 f9 f8 f7 f6 f5 f4 f3 f2 f1 f0
theorem kF_208_285_10 : vFree s_208.2.2.2.2 285 10 = true := by decide +kernel
theorem q_214_4 {q0 : Nat} {n0 n1 n2 n3 n4 n5 n6 n7 n8 : Int} {H0 H1 H2 : gH} (f0 : n0 ≤ 2000) (f1 : 0 ≤ n0) (f2 : n1 = 285) (f3 : n2 = 285) (f4 : (hLe T0 H0 H1 ∧ hFr s_214.2.2.2.2 H0 H1 ∧ hWt T0 H1) ∧ (Ab_214_7 n2 n1 n0 H0 H1 ∧ True) ∧ some q0 = some (mub_214_7 n2 n1 n0 H0 H1)) (f5 : n3 ≤ 501) (f6 : 0 ≤ n3) (f7 : n3 = hV H1 (n1).toNat 10) (f8 : n4 = 500) (f9 : n3 ≤ n4) (f10 : n5 ≤ 255) (f11 : 0 ≤ n5) (f12 : (hLe T0 H1 H2 ∧ hFr s_208.2.2.2.2 H1 H2 ∧ ((0 : Int) = 0 → H2.length = H1.length) ∧ hWt T0 H2) ∧ postb_208 n5 n1 n0 H1 H2) (f13 : n6 ≤ 2000) (f14 : 0 ≤ n6) (f15 : n6 = hV H2 (n1).toNat 4) (f16 : n0 < n6) (f17 : n7 = 9) (f18 : n5 = n7) (f19 : n8 = w32 (n0 + 1)) : Ab_214_7 n2 n1 n8 H0 H2 ∧ ∀ q, some q0 = some q → mub_214_7 n2 n1 n8 H0 H2 < q := by
  have g4 := f4.2.1.1
  unfold Ab_214_7 at g4
  have g5 := Option.some.inj f4.2.2
  unfold mub_214_7 at g5
  unfold postb_208 at f12
  unfold Ab_214_7
  unfold mub_214_7
  have e0 : n3 = hV H1 285 10 := (by rw [f2] at f7; exact f7 : n3 = hV H1 285 10)
  have e3 : n6 = hV H0 285 4 := (by rw [f2] at f15; exact f15 : n6 = hV H2 285 4).trans (((f12.1.2.1.1 285 4 kF_208_285_4)).trans (f4.1.2.1.1 285 4 kF_214_285_4))
  have e4 : hV H1 285 4 = hV H0 285 4 := (f4.1.2.1.1 285 4 kF_214_285_4)
  have e6 : hV H2 285 10 = hV H1 285 10 := (f12.1.2.1.1 285 10 kF_208_285_10)
  have e7 : hV H2 285 4 = hV H0 285 4 := ((f12.1.2.1.1 285 4 kF_208_285_4)).trans (f4.1.2.1.1 285 4 kF_214_285_4)
  have e10 : hV H2 287 = hV H0 287 := (fRow f12.1.2.1 287 kR_208_287).trans (fRow f4.1.2.1 287 kR_214_287)
  have e11 : (0 : Int) ≤ hV H1 285 10 ∧ hV H1 285 10 ≤ 501 := f4.1.2.2 285 10 _ _ kW_285_10
  have e12 : (0 : Int) ≤ hV H0 285 4 ∧ hV H0 285 4 ≤ 2000 := bTo e4 (f4.1.2.2 285 4 _ _ kW_285_4)
  try simp only [e6, e7]
  have y0 := g4
  have r0_0 := f12.2.1
  have r0_1 := f12.2.2
  try simp only [e4] at y0
  try simp only [e7, e10] at r0_0
  try simp only [e7] at r0_1
  clear g4
  clear f7 f15 e4 e6 e7 e10
  clear f4 f12
  subst e0
  subst e3
  first
  | (have ix0 : n8 = n0 + 1 := Eq.trans f19 (w32_iv (Iad (Iat f1 f0) (IC 1)) (by decide)); subst ix0; clear f19)
  | (have ix0 : n8 = n0 + 1 := Eq.trans f19 (w32_id (by (first | lia | omega)) (by (first | lia | omega))); subst ix0; clear f19)
  | (unfold w32 at f19; have ix0 : n8 = n0 + 1 := (by (first | lia | omega)); subst ix0)
  | skip
  try unfold w32 at f19
  refine ⟨?_, fun q hq => ?_⟩
  · first | assumption | (first | lia | omega) | trivial
  · have g6 := Option.some.inj hq
    subst g6
    (first | lia | omega)
def g_214_7_3 : vG := ([(10, [8, 2], [], 1), (40, [5, 7], [], 0), (0, [7], [], 9), (42, [2, 6], [], 0), (20, [6, 1], [2], 4), (90, [6], [], 0), (91, [6], [], 2000), (1208, [5, 1, 2], [1, 2], 0), (90, [5], [], 0), (91, [5], [], 255), (45, [3, 4], [], 0), (0, [4], [], 500), (20, [3, 1], [1], 10), (90, [3], [], 0), (91, [3], [], 501), (5000, [0, 1, 2], [0, 1], 7), (0, [0], [], 285), (0, [1], [], 285), (90, [2], [], 0), (91, [2], [], 2000)], (4000, [1, 8], [2], 7))
theorem c_214_7_3 {q0 : Nat} : vOkm T0 (eP e_214 L_214 A_214 mu_214 (some q0)) 1 g_214_7_3 := vOk_inI fun ρ η f0 f1 f2 f3 f4 f5 f6 f7 f8 f9 f10 f11 f12 f13 f14 f15 f16 f17 f18 f19 => q_214_4 (q0 := q0) (n0 := ρ 2) (n1 := ρ 1) (n2 := ρ 0) (n3 := ρ 3) (n4 := ρ 4) (n5 := ρ 5) (n6 := ρ 6) (n7 := ρ 7) (n8 := ρ 8) (H0 := η 0) (H1 := η 1) (H2 := η 2) f19 f18 f17 f16 f15 f14 f13 f12 f11 f10 f9 f8 f7 f6 f5 f4 f3 f2 f1 f0
theorem q_214_5 {q0 : Nat} {n0 n1 n2 n3 n4 n5 n6 n7 : Int} {H0 H1 H2 : gH} (f0 : n0 ≤ 2000) (f1 : 0 ≤ n0) (f2 : n1 = 285) (f3 : n2 = 285) (f4 : (hLe T0 H0 H1 ∧ hFr s_214.2.2.2.2 H0 H1 ∧ hWt T0 H1) ∧ (Ab_214_7 n2 n1 n0 H0 H1 ∧ True) ∧ some q0 = some (mub_214_7 n2 n1 n0 H0 H1)) (f5 : n3 ≤ 255) (f6 : 0 ≤ n3) (f7 : (hLe T0 H1 H2 ∧ hFr s_208.2.2.2.2 H1 H2 ∧ ((0 : Int) = 0 → H2.length = H1.length) ∧ hWt T0 H2) ∧ postb_208 n3 n1 n0 H1 H2) (f8 : n4 ≤ 2000) (f9 : 0 ≤ n4) (f10 : n4 = hV H2 (n1).toNat 4) (f11 : n0 < n4) (f12 : n5 = 9) (f13 : n3 ≠ n5) (f14 : n6 = 10) (f15 : n3 = n6) (f16 : n7 = w32 (n0 + 1)) : 0 ≤ n7 := by
  have g4 := f4.2.1.1
  unfold Ab_214_7 at g4
  unfold postb_208 at f7
  have e2 : n4 = hV H0 285 4 := (by rw [f2] at f10; exact f10 : n4 = hV H2 285 4).trans (((f7.1.2.1.1 285 4 kF_208_285_4)).trans (f4.1.2.1.1 285 4 kF_214_285_4))
  have e3 : hV H1 285 4 = hV H0 285 4 := (f4.1.2.1.1 285 4 kF_214_285_4)
  have e4 : hV H2 285 4 = hV H0 285 4 := ((f7.1.2.1.1 285 4 kF_208_285_4)).trans (f4.1.2.1.1 285 4 kF_214_285_4)
  have e7 : hV H2 287 = hV H0 287 := (fRow f7.1.2.1 287 kR_208_287).trans (fRow f4.1.2.1 287 kR_214_287)
  have e8 : (0 : Int) ≤ hV H1 285 10 ∧ hV H1 285 10 ≤ 501 := f4.1.2.2 285 10 _ _ kW_285_10
  have e9 : (0 : Int) ≤ hV H0 285 4 ∧ hV H0 285 4 ≤ 2000 := bTo e3 (f4.1.2.2 285 4 _ _ kW_285_4)
  have y0 := g4
  have r0_0 := f7.2.1
  have r0_1 := f7.2.2
  try simp only [e3] at y0
  try simp only [e4, e7] at r0_0
  try simp only [e4] at r0_1
  clear g4
  clear f10 e3 e4 e7
  clear f4 f7
  subst e2
  first
  | (have ix0 : n7 = n0 + 1 := Eq.trans f16 (w32_iv (Iad (Iat f1 f0) (IC 1)) (by decide)); subst ix0; clear f16)
  | (have ix0 : n7 = n0 + 1 := Eq.trans f16 (w32_id (by (first | lia | omega)) (by (first | lia | omega))); subst ix0; clear f16)
  | (unfold w32 at f16; have ix0 : n7 = n0 + 1 := (by (first | lia | omega)); subst ix0)
  | skip
  try unfold w32 at f16
  (first | lia | omega)
def g_214_7_4 : vG := ([(10, [9, 2], [], 1), (40, [5, 8], [], 0), (0, [8], [], 10), (41, [5, 7], [], 0), (0, [7], [], 9), (42, [2, 6], [], 0), (20, [6, 1], [2], 4), (90, [6], [], 0), (91, [6], [], 2000), (1208, [5, 1, 2], [1, 2], 0), (90, [5], [], 0), (91, [5], [], 255), (5000, [0, 1, 2], [0, 1], 7), (0, [0], [], 285), (0, [1], [], 285), (90, [2], [], 0), (91, [2], [], 2000)], (90, [9], [], 0))
theorem c_214_7_4 {q0 : Nat} : vOkm T0 (eP e_214 L_214 A_214 mu_214 (some q0)) 1 g_214_7_4 := vOk_inI fun ρ η f0 f1 f2 f3 f4 f5 f6 f7 f8 f9 f10 f11 f12 f13 f14 f15 f16 => q_214_5 (q0 := q0) (n0 := ρ 2) (n1 := ρ 1) (n2 := ρ 0) (n3 := ρ 5) (n4 := ρ 6) (n5 := ρ 7) (n6 := ρ 8) (n7 := ρ 9) (H0 := η 0) (H1 := η 1) (H2 := η 2) f16 f15 f14 f13 f12 f11 f10 f9 f8 f7 f6 f5 f4 f3 f2 f1 f0
theorem q_214_6 {q0 : Nat} {n0 n1 n2 n3 n4 n5 n6 n7 : Int} {H0 H1 H2 : gH} (f0 : n0 ≤ 2000) (f1 : 0 ≤ n0) (f2 : n1 = 285) (f3 : n2 = 285) (f4 : (hLe T0 H0 H1 ∧ hFr s_214.2.2.2.2 H0 H1 ∧ hWt T0 H1) ∧ (Ab_214_7 n2 n1 n0 H0 H1 ∧ True) ∧ some q0 = some (mub_214_7 n2 n1 n0 H0 H1)) (f5 : n3 ≤ 255) (f6 : 0 ≤ n3) (f7 : (hLe T0 H1 H2 ∧ hFr s_208.2.2.2.2 H1 H2 ∧ ((0 : Int) = 0 → H2.length = H1.length) ∧ hWt T0 H2) ∧ postb_208 n3 n1 n0 H1 H2) (f8 : n4 ≤ 2000) (f9 : 0 ≤ n4) (f10 : n4 = hV H2 (n1).toNat 4) (f11 : n0 < n4) (f12 : n5 = 9) (f13 : n3 ≠ n5) (f14 : n6 = 10) (f15 : n3 = n6) (f16 : n7 = w32 (n0 + 1)) : n7 ≤ 2000 := by
  have g4 := f4.2.1.1
  unfold Ab_214_7 at g4
  unfold postb_208 at f7
  have e2 : n4 = hV H0 285 4 := (by rw [f2] at f10; exact f10 : n4 = hV H2 285 4).trans (((f7.1.2.1.1 285 4 kF_208_285_4)).trans (f4.1.2.1.1 285 4 kF_214_285_4))
  have e3 : hV H1 285 4 = hV H0 285 4 := (f4.1.2.1.1 285 4 kF_214_285_4)
  have e4 : hV H2 285 4 = hV H0 285 4 := ((f7.1.2.1.1 285 4 kF_208_285_4)).trans (f4.1.2.1.1 285 4 kF_214_285_4)
  have e7 : hV H2 287 = hV H0 287 := (fRow f7.1.2.1 287 kR_208_287).trans (fRow f4.1.2.1 287 kR_214_287)
  have e8 : (0 : Int) ≤ hV H1 285 10 ∧ hV H1 285 10 ≤ 501 := f4.1.2.2 285 10 _ _ kW_285_10
  have e9 : (0 : Int) ≤ hV H0 285 4 ∧ hV H0 285 4 ≤ 2000 := bTo e3 (f4.1.2.2 285 4 _ _ kW_285_4)
  have y0 := g4
  have r0_0 := f7.2.1
  have r0_1 := f7.2.2
  try simp only [e3] at y0
  try simp only [e4, e7] at r0_0
  try simp only [e4] at r0_1
  clear g4
  clear f10 e3 e4 e7
  clear f4 f7
  subst e2
  first
  | (have ix0 : n7 = n0 + 1 := Eq.trans f16 (w32_iv (Iad (Iat f1 f0) (IC 1)) (by decide)); subst ix0; clear f16)
  | (have ix0 : n7 = n0 + 1 := Eq.trans f16 (w32_id (by (first | lia | omega)) (by (first | lia | omega))); subst ix0; clear f16)
  | (unfold w32 at f16; have ix0 : n7 = n0 + 1 := (by (first | lia | omega)); subst ix0)
  | skip
  try unfold w32 at f16
  (first | lia | omega)
def g_214_7_5 : vG := ([(10, [9, 2], [], 1), (40, [5, 8], [], 0), (0, [8], [], 10), (41, [5, 7], [], 0), (0, [7], [], 9), (42, [2, 6], [], 0), (20, [6, 1], [2], 4), (90, [6], [], 0), (91, [6], [], 2000), (1208, [5, 1, 2], [1, 2], 0), (90, [5], [], 0), (91, [5], [], 255), (5000, [0, 1, 2], [0, 1], 7), (0, [0], [], 285), (0, [1], [], 285), (90, [2], [], 0), (91, [2], [], 2000)], (91, [9], [], 2000))
theorem c_214_7_5 {q0 : Nat} : vOkm T0 (eP e_214 L_214 A_214 mu_214 (some q0)) 1 g_214_7_5 := vOk_inI fun ρ η f0 f1 f2 f3 f4 f5 f6 f7 f8 f9 f10 f11 f12 f13 f14 f15 f16 => q_214_6 (q0 := q0) (n0 := ρ 2) (n1 := ρ 1) (n2 := ρ 0) (n3 := ρ 5) (n4 := ρ 6) (n5 := ρ 7) (n6 := ρ 8) (n7 := ρ 9) (H0 := η 0) (H1 := η 1) (H2 := η 2) f16 f15 f14 f13 f12 f11 f10 f9 f8 f7 f6 f5 f4 f3 f2 f1 f0
theorem q_214_7 {q0 : Nat} {n0 n1 n2 n3 n4 n5 n6 n7 n8 n9 : Int} {H0 H1 H2 : gH} (f0 : n0 ≤ 2000) (f1 : 0 ≤ n0) (f2 : n1 = 285) (f3 : n2 = 285) (f4 : (hLe T0 H0 H1 ∧ hFr s_214.2.2.2.2 H0 H1 ∧ hWt T0 H1) ∧ (Ab_214_7 n2 n1 n0 H0 H1 ∧ True) ∧ some q0 = some (mub_214_7 n2 n1 n0 H0 H1)) (f5 : n3 ≤ 501) (f6 : 0 ≤ n3) (f7 : n3 = hV H1 (n1).toNat 10) (f8 : n4 = 500) (f9 : n3 ≤ n4) (f10 : n5 ≤ 255) (f11 : 0 ≤ n5) (f12 : (hLe T0 H1 H2 ∧ hFr s_208.2.2.2.2 H1 H2 ∧ ((0 : Int) = 0 → H2.length = H1.length) ∧ hWt T0 H2) ∧ postb_208 n5 n1 n0 H1 H2) (f13 : n6 ≤ 2000) (f14 : 0 ≤ n6) (f15 : n6 = hV H2 (n1).toNat 4) (f16 : n0 < n6) (f17 : n7 = 9) (f18 : n5 ≠ n7) (f19 : n8 = 10) (f20 : n5 = n8) (f21 : n9 = w32 (n0 + 1)) : Ab_214_7 n2 n1 n9 H0 H2 ∧ ∀ q, some q0 = some q → mub_214_7 n2 n1 n9 H0 H2 < q := by
  have g4 := f4.2.1.1
  unfold Ab_214_7 at g4
  have g5 := Option.some.inj f4.2.2
  unfold mub_214_7 at g5
  unfold postb_208 at f12
  unfold Ab_214_7
  unfold mub_214_7
  have e0 : n3 = hV H1 285 10 := (by rw [f2] at f7; exact f7 : n3 = hV H1 285 10)
  have e3 : n6 = hV H0 285 4 := (by rw [f2] at f15; exact f15 : n6 = hV H2 285 4).trans (((f12.1.2.1.1 285 4 kF_208_285_4)).trans (f4.1.2.1.1 285 4 kF_214_285_4))
  have e4 : hV H1 285 4 = hV H0 285 4 := (f4.1.2.1.1 285 4 kF_214_285_4)
  have e6 : hV H2 285 10 = hV H1 285 10 := (f12.1.2.1.1 285 10 kF_208_285_10)
  have e7 : hV H2 285 4 = hV H0 285 4 := ((f12.1.2.1.1 285 4 kF_208_285_4)).trans (f4.1.2.1.1 285 4 kF_214_285_4)
  have e10 : hV H2 287 = hV H0 287 := (fRow f12.1.2.1 287 kR_208_287).trans (fRow f4.1.2.1 287 kR_214_287)
  have e11 : (0 : Int) ≤ hV H1 285 10 ∧ hV H1 285 10 ≤ 501 := f4.1.2.2 285 10 _ _ kW_285_10
  have e12 : (0 : Int) ≤ hV H0 285 4 ∧ hV H0 285 4 ≤ 2000 := bTo e4 (f4.1.2.2 285 4 _ _ kW_285_4)
  try simp only [e6, e7]
  have y0 := g4
  have r0_0 := f12.2.1
  have r0_1 := f12.2.2
  try simp only [e4] at y0
  try simp only [e7, e10] at r0_0
  try simp only [e7] at r0_1
  clear g4
  clear f7 f15 e4 e6 e7 e10
  clear f4 f12
  subst e0
  subst e3
  first
  | (have ix0 : n9 = n0 + 1 := Eq.trans f21 (w32_iv (Iad (Iat f1 f0) (IC 1)) (by decide)); subst ix0; clear f21)
  | (have ix0 : n9 = n0 + 1 := Eq.trans f21 (w32_id (by (first | lia | omega)) (by (first | lia | omega))); subst ix0; clear f21)
  | (unfold w32 at f21; have ix0 : n9 = n0 + 1 := (by (first | lia | omega)); subst ix0)
  | skip
  try unfold w32 at f21
  refine ⟨?_, fun q hq => ?_⟩
  · first | assumption | (first | lia | omega) | trivial
  · have g6 := Option.some.inj hq
    subst g6
    (first | lia | omega)
def g_214_7_6 : vG := ([(10, [9, 2], [], 1), (40, [5, 8], [], 0), (0, [8], [], 10), (41, [5, 7], [], 0), (0, [7], [], 9), (42, [2, 6], [], 0), (20, [6, 1], [2], 4), (90, [6], [], 0), (91, [6], [], 2000), (1208, [5, 1, 2], [1, 2], 0), (90, [5], [], 0), (91, [5], [], 255), (45, [3, 4], [], 0), (0, [4], [], 500), (20, [3, 1], [1], 10), (90, [3], [], 0), (91, [3], [], 501), (5000, [0, 1, 2], [0, 1], 7), (0, [0], [], 285), (0, [1], [], 285), (90, [2], [], 0), (91, [2], [], 2000)], (4000, [1, 9], [2], 7))
theorem c_214_7_6 {q0 : Nat} : vOkm T0 (eP e_214 L_214 A_214 mu_214 (some q0)) 1 g_214_7_6 := vOk_inI fun ρ η f0 f1 f2 f3 f4 f5 f6 f7 f8 f9 f10 f11 f12 f13 f14 f15 f16 f17 f18 f19 f20 f21 => q_214_7 (q0 := q0) (n0 := ρ 2) (n1 := ρ 1) (n2 := ρ 0) (n3 := ρ 3) (n4 := ρ 4) (n5 := ρ 5) (n6 := ρ 6) (n7 := ρ 7) (n8 := ρ 8) (n9 := ρ 9) (H0 := η 0) (H1 := η 1) (H2 := η 2) f21 f20 f19 f18 f17 f16 f15 f14 f13 f12 f11 f10 f9 f8 f7 f6 f5 f4 f3 f2 f1 f0
theorem q_214_8 {q0 : Nat} {n0 n1 n2 n3 n4 n5 n6 n7 n8 : Int} {H0 H1 H2 : gH} (f0 : n0 ≤ 2000) (f1 : 0 ≤ n0) (f2 : n1 = 285) (f3 : n2 = 285) (f4 : (hLe T0 H0 H1 ∧ hFr s_214.2.2.2.2 H0 H1 ∧ hWt T0 H1) ∧ (Ab_214_7 n2 n1 n0 H0 H1 ∧ True) ∧ some q0 = some (mub_214_7 n2 n1 n0 H0 H1)) (f5 : n3 ≤ 255) (f6 : 0 ≤ n3) (f7 : (hLe T0 H1 H2 ∧ hFr s_208.2.2.2.2 H1 H2 ∧ ((0 : Int) = 0 → H2.length = H1.length) ∧ hWt T0 H2) ∧ postb_208 n3 n1 n0 H1 H2) (f8 : n4 ≤ 2000) (f9 : 0 ≤ n4) (f10 : n4 = hV H2 (n1).toNat 4) (f11 : n0 < n4) (f12 : n5 = 9) (f13 : n3 ≠ n5) (f14 : n6 = 10) (f15 : n3 ≠ n6) (f16 : n7 = 13) (f17 : n3 = n7) (f18 : n8 = w32 (n0 + 1)) : 0 ≤ n8 := by
  have g4 := f4.2.1.1
  unfold Ab_214_7 at g4
  unfold postb_208 at f7
  have e2 : n4 = hV H0 285 4 := (by rw [f2] at f10; exact f10 : n4 = hV H2 285 4).trans (((f7.1.2.1.1 285 4 kF_208_285_4)).trans (f4.1.2.1.1 285 4 kF_214_285_4))
  have e3 : hV H1 285 4 = hV H0 285 4 := (f4.1.2.1.1 285 4 kF_214_285_4)
  have e4 : hV H2 285 4 = hV H0 285 4 := ((f7.1.2.1.1 285 4 kF_208_285_4)).trans (f4.1.2.1.1 285 4 kF_214_285_4)
  have e7 : hV H2 287 = hV H0 287 := (fRow f7.1.2.1 287 kR_208_287).trans (fRow f4.1.2.1 287 kR_214_287)
  have e8 : (0 : Int) ≤ hV H1 285 10 ∧ hV H1 285 10 ≤ 501 := f4.1.2.2 285 10 _ _ kW_285_10
  have e9 : (0 : Int) ≤ hV H0 285 4 ∧ hV H0 285 4 ≤ 2000 := bTo e3 (f4.1.2.2 285 4 _ _ kW_285_4)
  have y0 := g4
  have r0_0 := f7.2.1
  have r0_1 := f7.2.2
  try simp only [e3] at y0
  try simp only [e4, e7] at r0_0
  try simp only [e4] at r0_1
  clear g4
  clear f10 e3 e4 e7
  clear f4 f7
  subst e2
  first
  | (have ix0 : n8 = n0 + 1 := Eq.trans f18 (w32_iv (Iad (Iat f1 f0) (IC 1)) (by decide)); subst ix0; clear f18)
  | (have ix0 : n8 = n0 + 1 := Eq.trans f18 (w32_id (by (first | lia | omega)) (by (first | lia | omega))); subst ix0; clear f18)
  | (unfold w32 at f18; have ix0 : n8 = n0 + 1 := (by (first | lia | omega)); subst ix0)
  | skip
  try unfold w32 at f18
  (first | lia | omega)
def g_214_7_7 : vG := ([(10, [10, 2], [], 1), (40, [5, 9], [], 0), (0, [9], [], 13), (41, [5, 8], [], 0), (0, [8], [], 10), (41, [5, 7], [], 0), (0, [7], [], 9), (42, [2, 6], [], 0), (20, [6, 1], [2], 4), (90, [6], [], 0), (91, [6], [], 2000), (1208, [5, 1, 2], [1, 2], 0), (90, [5], [], 0), (91, [5], [], 255), (5000, [0, 1, 2], [0, 1], 7), (0, [0], [], 285), (0, [1], [], 285), (90, [2], [], 0), (91, [2], [], 2000)], (90, [10], [], 0))
theorem c_214_7_7 {q0 : Nat} : vOkm T0 (eP e_214 L_214 A_214 mu_214 (some q0)) 1 g_214_7_7 := vOk_inI fun ρ η f0 f1 f2 f3 f4 f5 f6 f7 f8 f9 f10 f11 f12 f13 f14 f15 f16 f17 f18 => q_214_8 (q0 := q0) (n0 := ρ 2) (n1 := ρ 1) (n2 := ρ 0) (n3 := ρ 5) (n4 := ρ 6) (n5 := ρ 7) (n6 := ρ 8) (n7 := ρ 9) (n8 := ρ 10) (H0 := η 0) (H1 := η 1) (H2 := η 2) f18 f17 f16 f15 f14 f13 f12 f11 f10 f9 f8 f7 f6 f5 f4 f3 f2 f1 f0
theorem q_214_9 {q0 : Nat} {n0 n1 n2 n3 n4 n5 n6 n7 n8 : Int} {H0 H1 H2 : gH} (f0 : n0 ≤ 2000) (f1 : 0 ≤ n0) (f2 : n1 = 285) (f3 : n2 = 285) (f4 : (hLe T0 H0 H1 ∧ hFr s_214.2.2.2.2 H0 H1 ∧ hWt T0 H1) ∧ (Ab_214_7 n2 n1 n0 H0 H1 ∧ True) ∧ some q0 = some (mub_214_7 n2 n1 n0 H0 H1)) (f5 : n3 ≤ 255) (f6 : 0 ≤ n3) (f7 : (hLe T0 H1 H2 ∧ hFr s_208.2.2.2.2 H1 H2 ∧ ((0 : Int) = 0 → H2.length = H1.length) ∧ hWt T0 H2) ∧ postb_208 n3 n1 n0 H1 H2) (f8 : n4 ≤ 2000) (f9 : 0 ≤ n4) (f10 : n4 = hV H2 (n1).toNat 4) (f11 : n0 < n4) (f12 : n5 = 9) (f13 : n3 ≠ n5) (f14 : n6 = 10) (f15 : n3 ≠ n6) (f16 : n7 = 13) (f17 : n3 = n7) (f18 : n8 = w32 (n0 + 1)) : n8 ≤ 2000 := by
  have g4 := f4.2.1.1
  unfold Ab_214_7 at g4
  unfold postb_208 at f7
  have e2 : n4 = hV H0 285 4 := (by rw [f2] at f10; exact f10 : n4 = hV H2 285 4).trans (((f7.1.2.1.1 285 4 kF_208_285_4)).trans (f4.1.2.1.1 285 4 kF_214_285_4))
  have e3 : hV H1 285 4 = hV H0 285 4 := (f4.1.2.1.1 285 4 kF_214_285_4)
  have e4 : hV H2 285 4 = hV H0 285 4 := ((f7.1.2.1.1 285 4 kF_208_285_4)).trans (f4.1.2.1.1 285 4 kF_214_285_4)
  have e7 : hV H2 287 = hV H0 287 := (fRow f7.1.2.1 287 kR_208_287).trans (fRow f4.1.2.1 287 kR_214_287)
  have e8 : (0 : Int) ≤ hV H1 285 10 ∧ hV H1 285 10 ≤ 501 := f4.1.2.2 285 10 _ _ kW_285_10
  have e9 : (0 : Int) ≤ hV H0 285 4 ∧ hV H0 285 4 ≤ 2000 := bTo e3 (f4.1.2.2 285 4 _ _ kW_285_4)
  have y0 := g4
  have r0_0 := f7.2.1
  have r0_1 := f7.2.2
  try simp only [e3] at y0
  try simp only [e4, e7] at r0_0
  try simp only [e4] at r0_1
  clear g4
  clear f10 e3 e4 e7
  clear f4 f7
  subst e2
  first
  | (have ix0 : n8 = n0 + 1 := Eq.trans f18 (w32_iv (Iad (Iat f1 f0) (IC 1)) (by decide)); subst ix0; clear f18)
  | (have ix0 : n8 = n0 + 1 := Eq.trans f18 (w32_id (by (first | lia | omega)) (by (first | lia | omega))); subst ix0; clear f18)
  | (unfold w32 at f18; have ix0 : n8 = n0 + 1 := (by (first | lia | omega)); subst ix0)
  | skip
  try unfold w32 at f18
  (first | lia | omega)
def g_214_7_8 : vG := ([(10, [10, 2], [], 1), (40, [5, 9], [], 0), (0, [9], [], 13), (41, [5, 8], [], 0), (0, [8], [], 10), (41, [5, 7], [], 0), (0, [7], [], 9), (42, [2, 6], [], 0), (20, [6, 1], [2], 4), (90, [6], [], 0), (91, [6], [], 2000), (1208, [5, 1, 2], [1, 2], 0), (90, [5], [], 0), (91, [5], [], 255), (5000, [0, 1, 2], [0, 1], 7), (0, [0], [], 285), (0, [1], [], 285), (90, [2], [], 0), (91, [2], [], 2000)], (91, [10], [], 2000))
theorem c_214_7_8 {q0 : Nat} : vOkm T0 (eP e_214 L_214 A_214 mu_214 (some q0)) 1 g_214_7_8 := vOk_inI fun ρ η f0 f1 f2 f3 f4 f5 f6 f7 f8 f9 f10 f11 f12 f13 f14 f15 f16 f17 f18 => q_214_9 (q0 := q0) (n0 := ρ 2) (n1 := ρ 1) (n2 := ρ 0) (n3 := ρ 5) (n4 := ρ 6) (n5 := ρ 7) (n6 := ρ 8) (n7 := ρ 9) (n8 := ρ 10) (H0 := η 0) (H1 := η 1) (H2 := η 2) f18 f17 f16 f15 f14 f13 f12 f11 f10 f9 f8 f7 f6 f5 f4 f3 f2 f1 f0
theorem q_214_10 {q0 : Nat} {n0 n1 n2 n3 n4 n5 n6 n7 n8 n9 n10 : Int} {H0 H1 H2 : gH} (f0 : n0 ≤ 2000) (f1 : 0 ≤ n0) (f2 : n1 = 285) (f3 : n2 = 285) (f4 : (hLe T0 H0 H1 ∧ hFr s_214.2.2.2.2 H0 H1 ∧ hWt T0 H1) ∧ (Ab_214_7 n2 n1 n0 H0 H1 ∧ True) ∧ some q0 = some (mub_214_7 n2 n1 n0 H0 H1)) (f5 : n3 ≤ 501) (f6 : 0 ≤ n3) (f7 : n3 = hV H1 (n1).toNat 10) (f8 : n4 = 500) (f9 : n3 ≤ n4) (f10 : n5 ≤ 255) (f11 : 0 ≤ n5) (f12 : (hLe T0 H1 H2 ∧ hFr s_208.2.2.2.2 H1 H2 ∧ ((0 : Int) = 0 → H2.length = H1.length) ∧ hWt T0 H2) ∧ postb_208 n5 n1 n0 H1 H2) (f13 : n6 ≤ 2000) (f14 : 0 ≤ n6) (f15 : n6 = hV H2 (n1).toNat 4) (f16 : n0 < n6) (f17 : n7 = 9) (f18 : n5 ≠ n7) (f19 : n8 = 10) (f20 : n5 ≠ n8) (f21 : n9 = 13) (f22 : n5 = n9) (f23 : n10 = w32 (n0 + 1)) : Ab_214_7 n2 n1 n10 H0 H2 ∧ ∀ q, some q0 = some q → mub_214_7 n2 n1 n10 H0 H2 < q := by
  have g4 := f4.2.1.1
  unfold Ab_214_7 at g4
  have g5 := Option.some.inj f4.2.2
  unfold mub_214_7 at g5
  unfold postb_208 at f12
  unfold Ab_214_7
  unfold mub_214_7
  have e0 : n3 = hV H1 285 10 := (by rw [f2] at f7; exact f7 : n3 = hV H1 285 10)
  have e3 : n6 = hV H0 285 4 := (by rw [f2] at f15; exact f15 : n6 = hV H2 285 4).trans (((f12.1.2.1.1 285 4 kF_208_285_4)).trans (f4.1.2.1.1 285 4 kF_214_285_4))
  have e4 : hV H1 285 4 = hV H0 285 4 := (f4.1.2.1.1 285 4 kF_214_285_4)
  have e6 : hV H2 285 10 = hV H1 285 10 := (f12.1.2.1.1 285 10 kF_208_285_10)
  have e7 : hV H2 285 4 = hV H0 285 4 := ((f12.1.2.1.1 285 4 kF_208_285_4)).trans (f4.1.2.1.1 285 4 kF_214_285_4)
  have e10 : hV H2 287 = hV H0 287 := (fRow f12.1.2.1 287 kR_208_287).trans (fRow f4.1.2.1 287 kR_214_287)
  have e11 : (0 : Int) ≤ hV H1 285 10 ∧ hV H1 285 10 ≤ 501 := f4.1.2.2 285 10 _ _ kW_285_10
  have e12 : (0 : Int) ≤ hV H0 285 4 ∧ hV H0 285 4 ≤ 2000 := bTo e4 (f4.1.2.2 285 4 _ _ kW_285_4)
  try simp only [e6, e7]
  have y0 := g4
  have r0_0 := f12.2.1
  have r0_1 := f12.2.2
  try simp only [e4] at y0
  try simp only [e7, e10] at r0_0
  try simp only [e7] at r0_1
  clear g4
  clear f7 f15 e4 e6 e7 e10
  clear f4 f12
  subst e0
  subst e3
  first
  | (have ix0 : n10 = n0 + 1 := Eq.trans f23 (w32_iv (Iad (Iat f1 f0) (IC 1)) (by decide)); subst ix0; clear f23)
  | (have ix0 : n10 = n0 + 1 := Eq.trans f23 (w32_id (by (first | lia | omega)) (by (first | lia | omega))); subst ix0; clear f23)
  | (unfold w32 at f23; have ix0 : n10 = n0 + 1 := (by (first | lia | omega)); subst ix0)
  | skip
  try unfold w32 at f23
  refine ⟨?_, fun q hq => ?_⟩
  · first | assumption | (first | lia | omega) | trivial
  · have g6 := Option.some.inj hq
    subst g6
    (first | lia | omega)
def g_214_7_9 : vG := ([(10, [10, 2], [], 1), (40, [5, 9], [], 0), (0, [9], [], 13), (41, [5, 8], [], 0), (0, [8], [], 10), (41, [5, 7], [], 0), (0, [7], [], 9), (42, [2, 6], [], 0), (20, [6, 1], [2], 4), (90, [6], [], 0), (91, [6], [], 2000), (1208, [5, 1, 2], [1, 2], 0), (90, [5], [], 0), (91, [5], [], 255), (45, [3, 4], [], 0), (0, [4], [], 500), (20, [3, 1], [1], 10), (90, [3], [], 0), (91, [3], [], 501), (5000, [0, 1, 2], [0, 1], 7), (0, [0], [], 285), (0, [1], [], 285), (90, [2], [], 0), (91, [2], [], 2000)], (4000, [1, 10], [2], 7))
theorem c_214_7_9 {q0 : Nat} : vOkm T0 (eP e_214 L_214 A_214 mu_214 (some q0)) 1 g_214_7_9 := vOk_inI fun ρ η f0 f1 f2 f3 f4 f5 f6 f7 f8 f9 f10 f11 f12 f13 f14 f15 f16 f17 f18 f19 f20 f21 f22 f23 => q_214_10 (q0 := q0) (n0 := ρ 2) (n1 := ρ 1) (n2 := ρ 0) (n3 := ρ 3) (n4 := ρ 4) (n5 := ρ 5) (n6 := ρ 6) (n7 := ρ 7) (n8 := ρ 8) (n9 := ρ 9) (n10 := ρ 10) (H0 := η 0) (H1 := η 1) (H2 := η 2) f23 f22 f21 f20 f19 f18 f17 f16 f15 f14 f13 f12 f11 f10 f9 f8 f7 f6 f5 f4 f3 f2 f1 f0
theorem q_214_11 {q0 : Nat} {n0 n1 n2 n3 n4 n5 n6 n7 n8 n9 n10 n11 n12 : Int} {H0 H1 H2 H3 H4 : gH} (f0 : n0 ≤ 2000) (f1 : 0 ≤ n0) (f2 : n1 = 285) (f3 : n2 = 285) (f4 : (hLe T0 H0 H1 ∧ hFr s_214.2.2.2.2 H0 H1 ∧ hWt T0 H1) ∧ (Ab_214_7 n2 n1 n0 H0 H1 ∧ True) ∧ some q0 = some (mub_214_7 n2 n1 n0 H0 H1)) (f5 : n3 ≤ 255) (f6 : 0 ≤ n3) (f7 : (hLe T0 H1 H2 ∧ hFr s_208.2.2.2.2 H1 H2 ∧ ((0 : Int) = 0 → H2.length = H1.length) ∧ hWt T0 H2) ∧ postb_208 n3 n1 n0 H1 H2) (f8 : n4 ≤ 2000) (f9 : 0 ≤ n4) (f10 : n4 = hV H2 (n1).toNat 4) (f11 : n0 < n4) (f12 : n5 = 9) (f13 : n3 ≠ n5) (f14 : n6 = 10) (f15 : n3 ≠ n6) (f16 : n7 = 13) (f17 : n3 ≠ n7) (f18 : n8 = 32) (f19 : n3 ≠ n8) (f20 : n9 ≤ 1) (f21 : 0 ≤ n9) (f22 : (hLe T0 H2 H3 ∧ hFr s_210.2.2.2.2 H2 H3 ∧ ((0 : Int) = 0 → H3.length = H2.length) ∧ hWt T0 H3) ∧ postb_210 n9 n3 H2 H3) (f23 : n9 = 0) (f24 : n10 ≤ 1) (f25 : 0 ≤ n10) (f26 : (hLe T0 H3 H4 ∧ hFr s_209.2.2.2.2 H3 H4 ∧ ((0 : Int) = 0 → H4.length = H3.length) ∧ hWt T0 H4) ∧ postb_209 n10 n3 H3 H4) (f27 : n10 = 0) (f28 : n11 = 1) (f29 : n12 = w32 (n0 + n11)) : preb_208 n1 n12 H4 := by
  have g4 := f4.2.1.1
  unfold Ab_214_7 at g4
  unfold postb_208 at f7
  unfold postb_210 at f22
  unfold postb_209 at f26
  unfold preb_208
  have e2 : n4 = hV H0 285 4 := (by rw [f2] at f10; exact f10 : n4 = hV H2 285 4).trans (((f7.1.2.1.1 285 4 kF_208_285_4)).trans (f4.1.2.1.1 285 4 kF_214_285_4))
  have e3 : hV H1 285 4 = hV H0 285 4 := (f4.1.2.1.1 285 4 kF_214_285_4)
  have e4 : hV H2 285 4 = hV H0 285 4 := ((f7.1.2.1.1 285 4 kF_208_285_4)).trans (f4.1.2.1.1 285 4 kF_214_285_4)
  have e7 : hV H2 287 = hV H0 287 := (fRow f7.1.2.1 287 kR_208_287).trans (fRow f4.1.2.1 287 kR_214_287)
  have e8 : (0 : Int) ≤ hV H1 285 10 ∧ hV H1 285 10 ≤ 501 := f4.1.2.2 285 10 _ _ kW_285_10
  have e9 : (0 : Int) ≤ hV H0 285 4 ∧ hV H0 285 4 ≤ 2000 := bTo e3 (f4.1.2.2 285 4 _ _ kW_285_4)
  have y0 := g4
  have r0_0 := f7.2.1
  have r0_1 := f7.2.2
  have r1_0 := f22.2
  have r2_0 := f26.2
  try simp only [e3] at y0
  try simp only [e4, e7] at r0_0
  try simp only [e4] at r0_1
  clear g4
  clear f10 e3 e4 e7
  clear f4 f7 f22 f26
  subst e2
  first
  | (have ix0 : n12 = n0 + 1 := Eq.trans f29 (w32_iv (Iad (Iat f1 f0) (IC 1)) (by decide)); subst ix0; clear f29)
  | (have ix0 : n12 = n0 + 1 := Eq.trans f29 (w32_id (by (first | lia | omega)) (by (first | lia | omega))); subst ix0; clear f29)
  | (unfold w32 at f29; have ix0 : n12 = n0 + 1 := (by (first | lia | omega)); subst ix0)
  | skip
  try unfold w32 at f29
  first | assumption | (first | lia | omega) | trivial
def g_214_7_10 : vG := ([(1, [14, 2, 13], [], 0), (0, [13], [], 1), (30, [12], [], 0), (1209, [12, 5], [3, 4], 0), (90, [12], [], 0), (91, [12], [], 1), (30, [11], [], 0), (1210, [11, 5], [2, 3], 0), (90, [11], [], 0), (91, [11], [], 1), (41, [5, 10], [], 0), (0, [10], [], 32), (41, [5, 9], [], 0), (0, [9], [], 13), (41, [5, 8], [], 0), (0, [8], [], 10), (41, [5, 7], [], 0), (0, [7], [], 9), (42, [2, 6], [], 0), (20, [6, 1], [2], 4), (90, [6], [], 0), (91, [6], [], 2000), (1208, [5, 1, 2], [1, 2], 0), (90, [5], [], 0), (91, [5], [], 255), (5000, [0, 1, 2], [0, 1], 7), (0, [0], [], 285), (0, [1], [], 285), (90, [2], [], 0), (91, [2], [], 2000)], (2208, [1, 14], [4], 0))
theorem c_214_7_10 {q0 : Nat} : vOkm T0 (eP e_214 L_214 A_214 mu_214 (some q0)) 1 g_214_7_10 := vOk_inI fun ρ η f0 f1 f2 f3 f4 f5 f6 f7 f8 f9 f10 f11 f12 f13 f14 f15 f16 f17 f18 f19 f20 f21 f22 f23 f24 f25 f26 f27 f28 f29 => q_214_11 (q0 := q0) (n0 := ρ 2) (n1 := ρ 1) (n2 := ρ 0) (n3 := ρ 5) (n4 := ρ 6) (n5 := ρ 7) (n6 := ρ 8) (n7 := ρ 9) (n8 := ρ 10) (n9 := ρ 11) (n10 := ρ 12) (n11 := ρ 13) (n12 := ρ 14) (H0 := η 0) (H1 := η 1) (H2 := η 2) (H3 := η 3) (H4 := η 4) f29 f28 f27 f26 f25 f24 f23 f22 f21 f20 f19 f18 f17 f16 f15 f14 f13 f12 f11 f10 f9 f8 f7 f6 f5 f4 f3 f2 f1 f0
theorem kR_209_287 : vFreeR s_209.2.2.2.2 287 = true := by decide +kernel
theorem kR_210_287 : vFreeR s_210.2.2.2.2 287 = true := by decide +kernel
theorem kF_209_285_10 : vFree s_209.2.2.2.2 285 10 = true := by decide +kernel
theorem kF_210_285_10 : vFree s_210.2.2.2.2 285 10 = true := by decide +kernel
theorem kF_209_285_4 : vFree s_209.2.2.2.2 285 4 = true := by decide +kernel
theorem kF_210_285_4 : vFree s_210.2.2.2.2 285 4 = true := by decide +kernel
theorem q_214_12 {q0 : Nat} {n0 n1 n2 n3 n4 n5 n6 n7 n8 n9 n10 n11 n12 n13 n14 n15 : Int} {H0 H1 H2 H3 H4 H5 : gH} (f0 : n0 ≤ 2000) (f1 : 0 ≤ n0) (f2 : n1 = 285) (f3 : n2 = 285) (f4 : (hLe T0 H0 H1 ∧ hFr s_214.2.2.2.2 H0 H1 ∧ hWt T0 H1) ∧ (Ab_214_7 n2 n1 n0 H0 H1 ∧ True) ∧ some q0 = some (mub_214_7 n2 n1 n0 H0 H1)) (f5 : n3 ≤ 501) (f6 : 0 ≤ n3) (f7 : n3 = hV H1 (n1).toNat 10) (f8 : n4 = 500) (f9 : n3 ≤ n4) (f10 : n5 ≤ 255) (f11 : 0 ≤ n5) (f12 : (hLe T0 H1 H2 ∧ hFr s_208.2.2.2.2 H1 H2 ∧ ((0 : Int) = 0 → H2.length = H1.length) ∧ hWt T0 H2) ∧ postb_208 n5 n1 n0 H1 H2) (f13 : n6 ≤ 2000) (f14 : 0 ≤ n6) (f15 : n6 = hV H2 (n1).toNat 4) (f16 : n0 < n6) (f17 : n7 = 9) (f18 : n5 ≠ n7) (f19 : n8 = 10) (f20 : n5 ≠ n8) (f21 : n9 = 13) (f22 : n5 ≠ n9) (f23 : n10 = 32) (f24 : n5 ≠ n10) (f25 : n11 ≤ 1) (f26 : 0 ≤ n11) (f27 : (hLe T0 H2 H3 ∧ hFr s_210.2.2.2.2 H2 H3 ∧ ((0 : Int) = 0 → H3.length = H2.length) ∧ hWt T0 H3) ∧ postb_210 n11 n5 H2 H3) (f28 : n11 = 0) (f29 : n12 ≤ 1) (f30 : 0 ≤ n12) (f31 : (hLe T0 H3 H4 ∧ hFr s_209.2.2.2.2 H3 H4 ∧ ((0 : Int) = 0 → H4.length = H3.length) ∧ hWt T0 H4) ∧ postb_209 n12 n5 H3 H4) (f32 : n12 = 0) (f33 : n13 = 1) (f34 : n14 = w32 (n0 + n13)) (f35 : n15 ≤ 255) (f36 : 0 ≤ n15) (f37 : (hLe T0 H4 H5 ∧ hFr s_208.2.2.2.2 H4 H5 ∧ ((0 : Int) = 0 → H5.length = H4.length) ∧ hWt T0 H5) ∧ postb_208 n15 n1 n14 H4 H5) : preb_215 n1 n0 n5 n15 H5 := by
  have g4 := f4.2.1.1
  unfold Ab_214_7 at g4
  unfold postb_208 at f12
  unfold postb_210 at f27
  unfold postb_209 at f31
  unfold postb_208 at f37
  unfold preb_215
  have e0 : n3 = hV H1 285 10 := (by rw [f2] at f7; exact f7 : n3 = hV H1 285 10)
  have e3 : n6 = hV H0 285 4 := (by rw [f2] at f15; exact f15 : n6 = hV H2 285 4).trans (((f12.1.2.1.1 285 4 kF_208_285_4)).trans (f4.1.2.1.1 285 4 kF_214_285_4))
  have e4 : hV H1 285 4 = hV H0 285 4 := (f4.1.2.1.1 285 4 kF_214_285_4)
  have e5 : hV H2 285 4 = hV H0 285 4 := ((f12.1.2.1.1 285 4 kF_208_285_4)).trans (f4.1.2.1.1 285 4 kF_214_285_4)
  have e8 : hV H2 287 = hV H0 287 := (fRow f12.1.2.1 287 kR_208_287).trans (fRow f4.1.2.1 287 kR_214_287)
  have e13 : hV H5 285 10 = hV H1 285 10 := ((f37.1.2.1.1 285 10 kF_208_285_10)).trans (((f31.1.2.1.1 285 10 kF_209_285_10)).trans (((f27.1.2.1.1 285 10 kF_210_285_10)).trans (f12.1.2.1.1 285 10 kF_208_285_10)))
  have e17 : hV H5 285 4 = hV H0 285 4 := ((f37.1.2.1.1 285 4 kF_208_285_4)).trans (((f31.1.2.1.1 285 4 kF_209_285_4)).trans (((f27.1.2.1.1 285 4 kF_210_285_4)).trans (((f12.1.2.1.1 285 4 kF_208_285_4)).trans (f4.1.2.1.1 285 4 kF_214_285_4))))
  have e23 : hV H5 287 = hV H0 287 := (fRow f37.1.2.1 287 kR_208_287).trans ((fRow f31.1.2.1 287 kR_209_287).trans ((fRow f27.1.2.1 287 kR_210_287).trans e8))
  have e24 : (0 : Int) ≤ hV H1 285 10 ∧ hV H1 285 10 ≤ 501 := f4.1.2.2 285 10 _ _ kW_285_10
  have e25 : (0 : Int) ≤ hV H0 285 4 ∧ hV H0 285 4 ≤ 2000 := bTo e4 (f4.1.2.2 285 4 _ _ kW_285_4)
  try simp only [e13]
  have y0 := g4
  have r0_0 := f12.2.1
  have r0_1 := f12.2.2
  have r1_0 := f27.2
  have r2_0 := f31.2
  have r3_0 := f37.2.1
  have r3_1 := f37.2.2
  try simp only [e4] at y0
  try simp only [e5, e8] at r0_0
  try simp only [e5] at r0_1
  try simp only [e17, e23] at r3_0
  try simp only [e17] at r3_1
  clear g4
  clear f7 f15 e4 e5 e8 e13 e17 e23
  clear f4 f12 f27 f31 f37
  subst e0
  subst e3
  unfold w32 at f34
  first | assumption | (first | lia | omega) | trivial
def g_214_7_11 : vG := ([(1208, [15, 1, 14], [4, 5], 0), (90, [15], [], 0), (91, [15], [], 255), (1, [14, 2, 13], [], 0), (0, [13], [], 1), (30, [12], [], 0), (1209, [12, 5], [3, 4], 0), (90, [12], [], 0), (91, [12], [], 1), (30, [11], [], 0), (1210, [11, 5], [2, 3], 0), (90, [11], [], 0), (91, [11], [], 1), (41, [5, 10], [], 0), (0, [10], [], 32), (41, [5, 9], [], 0), (0, [9], [], 13), (41, [5, 8], [], 0), (0, [8], [], 10), (41, [5, 7], [], 0), (0, [7], [], 9), (42, [2, 6], [], 0), (20, [6, 1], [2], 4), (90, [6], [], 0), (91, [6], [], 2000), (1208, [5, 1, 2], [1, 2], 0), (90, [5], [], 0), (91, [5], [], 255), (45, [3, 4], [], 0), (0, [4], [], 500), (20, [3, 1], [1], 10), (90, [3], [], 0), (91, [3], [], 501), (5000, [0, 1, 2], [0, 1], 7), (0, [0], [], 285), (0, [1], [], 285), (90, [2], [], 0), (91, [2], [], 2000)], (2215, [1, 2, 5, 15], [5], 0))
theorem c_214_7_11 {q0 : Nat} : vOkm T0 (eP e_214 L_214 A_214 mu_214 (some q0)) 1 g_214_7_11 := vOk_inI fun ρ η f0 f1 f2 f3 f4 f5 f6 f7 f8 f9 f10 f11 f12 f13 f14 f15 f16 f17 f18 f19 f20 f21 f22 f23 f24 f25 f26 f27 f28 f29 f30 f31 f32 f33 f34 f35 f36 f37 => q_214_12 (q0 := q0) (n0 := ρ 2) (n1 := ρ 1) (n2 := ρ 0) (n3 := ρ 3) (n4 := ρ 4) (n5 := ρ 5) (n6 := ρ 6) (n7 := ρ 7) (n8 := ρ 8) (n9 := ρ 9) (n10 := ρ 10) (n11 := ρ 11) (n12 := ρ 12) (n13 := ρ 13) (n14 := ρ 14) (n15 := ρ 15) (H0 := η 0) (H1 := η 1) (H2 := η 2) (H3 := η 3) (H4 := η 4) (H5 := η 5) f37 f36 f35 f34 f33 f32 f31 f30 f29 f28 f27 f26 f25 f24 f23 f22 f21 f20 f19 f18 f17 f16 f15 f14 f13 f12 f11 f10 f9 f8 f7 f6 f5 f4 f3 f2 f1 f0
theorem q_214_13 {q0 : Nat} {n0 n1 n2 n3 n4 n5 n6 n7 n8 n9 n10 n11 n12 n13 n14 n15 n16 n17 : Int} {H0 H1 H2 H3 H4 H5 H6 : gH} (f0 : n0 ≤ 2000) (f1 : 0 ≤ n0) (f2 : n1 = 285) (f3 : n2 = 285) (f4 : (hLe T0 H0 H1 ∧ hFr s_214.2.2.2.2 H0 H1 ∧ hWt T0 H1) ∧ (Ab_214_7 n2 n1 n0 H0 H1 ∧ True) ∧ some q0 = some (mub_214_7 n2 n1 n0 H0 H1)) (f5 : n3 ≤ 501) (f6 : 0 ≤ n3) (f7 : n3 = hV H1 (n1).toNat 10) (f8 : n4 = 500) (f9 : n3 ≤ n4) (f10 : n5 ≤ 255) (f11 : 0 ≤ n5) (f12 : (hLe T0 H1 H2 ∧ hFr s_208.2.2.2.2 H1 H2 ∧ ((0 : Int) = 0 → H2.length = H1.length) ∧ hWt T0 H2) ∧ postb_208 n5 n1 n0 H1 H2) (f13 : n6 ≤ 2000) (f14 : 0 ≤ n6) (f15 : n6 = hV H2 (n1).toNat 4) (f16 : n0 < n6) (f17 : n7 = 9) (f18 : n5 ≠ n7) (f19 : n8 = 10) (f20 : n5 ≠ n8) (f21 : n9 = 13) (f22 : n5 ≠ n9) (f23 : n10 = 32) (f24 : n5 ≠ n10) (f25 : n11 ≤ 1) (f26 : 0 ≤ n11) (f27 : (hLe T0 H2 H3 ∧ hFr s_210.2.2.2.2 H2 H3 ∧ ((0 : Int) = 0 → H3.length = H2.length) ∧ hWt T0 H3) ∧ postb_210 n11 n5 H2 H3) (f28 : n11 = 0) (f29 : n12 ≤ 1) (f30 : 0 ≤ n12) (f31 : (hLe T0 H3 H4 ∧ hFr s_209.2.2.2.2 H3 H4 ∧ ((0 : Int) = 0 → H4.length = H3.length) ∧ hWt T0 H4) ∧ postb_209 n12 n5 H3 H4) (f32 : n12 = 0) (f33 : n13 = 1) (f34 : n14 = w32 (n0 + n13)) (f35 : n15 ≤ 255) (f36 : 0 ≤ n15) (f37 : (hLe T0 H4 H5 ∧ hFr s_208.2.2.2.2 H4 H5 ∧ ((0 : Int) = 0 → H5.length = H4.length) ∧ hWt T0 H5) ∧ postb_208 n15 n1 n14 H4 H5) (f38 : n16 ≤ 2147483647) (f39 : (-2147483648) ≤ n16) (f40 : (hLe T0 H5 H6 ∧ hFr s_215.2.2.2.2 H5 H6 ∧ ((0 : Int) = 0 → H6.length = H5.length) ∧ hWt T0 H6) ∧ postb_215 n16 n1 n0 n5 n15 H5 H6) (f41 : n17 = w32 (n0 + n16)) : 0 ≤ n17 := by
  have g4 := f4.2.1.1
  unfold Ab_214_7 at g4
  unfold postb_208 at f12
  unfold postb_210 at f27
  unfold postb_209 at f31
  unfold postb_208 at f37
  unfold postb_215 at f40
  have e0 : n3 = hV H1 285 10 := (by rw [f2] at f7; exact f7 : n3 = hV H1 285 10)
  have e3 : n6 = hV H0 285 4 := (by rw [f2] at f15; exact f15 : n6 = hV H2 285 4).trans (((f12.1.2.1.1 285 4 kF_208_285_4)).trans (f4.1.2.1.1 285 4 kF_214_285_4))
  have e4 : hV H1 285 4 = hV H0 285 4 := (f4.1.2.1.1 285 4 kF_214_285_4)
  have e5 : hV H2 285 4 = hV H0 285 4 := ((f12.1.2.1.1 285 4 kF_208_285_4)).trans (f4.1.2.1.1 285 4 kF_214_285_4)
  have e8 : hV H2 287 = hV H0 287 := (fRow f12.1.2.1 287 kR_208_287).trans (fRow f4.1.2.1 287 kR_214_287)
  have e13 : hV H5 285 10 = hV H1 285 10 := ((f37.1.2.1.1 285 10 kF_208_285_10)).trans (((f31.1.2.1.1 285 10 kF_209_285_10)).trans (((f27.1.2.1.1 285 10 kF_210_285_10)).trans (f12.1.2.1.1 285 10 kF_208_285_10)))
  have e17 : hV H5 285 4 = hV H0 285 4 := ((f37.1.2.1.1 285 4 kF_208_285_4)).trans (((f31.1.2.1.1 285 4 kF_209_285_4)).trans (((f27.1.2.1.1 285 4 kF_210_285_4)).trans (((f12.1.2.1.1 285 4 kF_208_285_4)).trans (f4.1.2.1.1 285 4 kF_214_285_4))))
  have e23 : hV H5 287 = hV H0 287 := (fRow f37.1.2.1 287 kR_208_287).trans ((fRow f31.1.2.1 287 kR_209_287).trans ((fRow f27.1.2.1 287 kR_210_287).trans e8))
  have e24 : (0 : Int) ≤ hV H1 285 10 ∧ hV H1 285 10 ≤ 501 := f4.1.2.2 285 10 _ _ kW_285_10
  have e25 : (0 : Int) ≤ hV H0 285 4 ∧ hV H0 285 4 ≤ 2000 := bTo e4 (f4.1.2.2 285 4 _ _ kW_285_4)
  have e29 : (0 : Int) ≤ hV H6 285 10 ∧ hV H6 285 10 ≤ 501 := f40.1.2.2.2 285 10 _ _ kW_285_10
  have y0 := g4
  have r0_0 := f12.2.1
  have r0_1 := f12.2.2
  have r1_0 := f27.2
  have r2_0 := f31.2
  have r3_0 := f37.2.1
  have r3_1 := f37.2.2
  have r4_0 := f40.2.1
  have r4_1 := f40.2.2
  try simp only [e4] at y0
  try simp only [e5, e8] at r0_0
  try simp only [e5] at r0_1
  try simp only [e17, e23] at r3_0
  try simp only [e17] at r3_1
  try simp only [e13] at r4_0
  clear g4
  clear f7 f15 e4 e5 e8 e13 e17 e23
  clear f4 f12 f27 f31 f37 f40
  subst e0
  subst e3
  first
  | (have ix0 : n17 = n0 + n16 := Eq.trans f41 (w32_id (by (first | lia | omega)) (by (first | lia | omega))); subst ix0; clear f41)
  | (unfold w32 at f41; have ix0 : n17 = n0 + n16 := (by (first | lia | omega)); subst ix0)
  | skip
  try unfold w32 at f34
  try unfold w32 at f41
  (first | lia | omega)
def g_214_7_12 : vG := ([(1, [17, 2, 16], [], 0), (1215, [16, 1, 2, 5, 15], [5, 6], 0), (90, [16], [], -2147483648), (91, [16], [], 2147483647), (1208, [15, 1, 14], [4, 5], 0), (90, [15], [], 0), (91, [15], [], 255), (1, [14, 2, 13], [], 0), (0, [13], [], 1), (30, [12], [], 0), (1209, [12, 5], [3, 4], 0), (90, [12], [], 0), (91, [12], [], 1), (30, [11], [], 0), (1210, [11, 5], [2, 3], 0), (90, [11], [], 0), (91, [11], [], 1), (41, [5, 10], [], 0), (0, [10], [], 32), (41, [5, 9], [], 0), (0, [9], [], 13), (41, [5, 8], [], 0), (0, [8], [], 10), (41, [5, 7], [], 0), (0, [7], [], 9), (42, [2, 6], [], 0), (20, [6, 1], [2], 4), (90, [6], [], 0), (91, [6], [], 2000), (1208, [5, 1, 2], [1, 2], 0), (90, [5], [], 0), (91, [5], [], 255), (45, [3, 4], [], 0), (0, [4], [], 500), (20, [3, 1], [1], 10), (90, [3], [], 0), (91, [3], [], 501), (5000, [0, 1, 2], [0, 1], 7), (0, [0], [], 285), (0, [1], [], 285), (90, [2], [], 0), (91, [2], [], 2000)], (90, [17], [], 0))
theorem c_214_7_12 {q0 : Nat} : vOkm T0 (eP e_214 L_214 A_214 mu_214 (some q0)) 1 g_214_7_12 := vOk_inI fun ρ η f0 f1 f2 f3 f4 f5 f6 f7 f8 f9 f10 f11 f12 f13 f14 f15 f16 f17 f18 f19 f20 f21 f22 f23 f24 f25 f26 f27 f28 f29 f30 f31 f32 f33 f34 f35 f36 f37 f38 f39 f40 f41 => q_214_13 (q0 := q0) (n0 := ρ 2) (n1 := ρ 1) (n2 := ρ 0) (n3 := ρ 3) (n4 := ρ 4) (n5 := ρ 5) (n6 := ρ 6) (n7 := ρ 7) (n8 := ρ 8) (n9 := ρ 9) (n10 := ρ 10) (n11 := ρ 11) (n12 := ρ 12) (n13 := ρ 13) (n14 := ρ 14) (n15 := ρ 15) (n16 := ρ 16) (n17 := ρ 17) (H0 := η 0) (H1 := η 1) (H2 := η 2) (H3 := η 3) (H4 := η 4) (H5 := η 5) (H6 := η 6) f41 f40 f39 f38 f37 f36 f35 f34 f33 f32 f31 f30 f29 f28 f27 f26 f25 f24 f23 f22 f21 f20 f19 f18 f17 f16 f15 f14 f13 f12 f11 f10 f9 f8 f7 f6 f5 f4 f3 f2 f1 f0
theorem q_214_14 {q0 : Nat} {n0 n1 n2 n3 n4 n5 n6 n7 n8 n9 n10 n11 n12 n13 n14 n15 n16 n17 : Int} {H0 H1 H2 H3 H4 H5 H6 : gH} (f0 : n0 ≤ 2000) (f1 : 0 ≤ n0) (f2 : n1 = 285) (f3 : n2 = 285) (f4 : (hLe T0 H0 H1 ∧ hFr s_214.2.2.2.2 H0 H1 ∧ hWt T0 H1) ∧ (Ab_214_7 n2 n1 n0 H0 H1 ∧ True) ∧ some q0 = some (mub_214_7 n2 n1 n0 H0 H1)) (f5 : n3 ≤ 501) (f6 : 0 ≤ n3) (f7 : n3 = hV H1 (n1).toNat 10) (f8 : n4 = 500) (f9 : n3 ≤ n4) (f10 : n5 ≤ 255) (f11 : 0 ≤ n5) (f12 : (hLe T0 H1 H2 ∧ hFr s_208.2.2.2.2 H1 H2 ∧ ((0 : Int) = 0 → H2.length = H1.length) ∧ hWt T0 H2) ∧ postb_208 n5 n1 n0 H1 H2) (f13 : n6 ≤ 2000) (f14 : 0 ≤ n6) (f15 : n6 = hV H2 (n1).toNat 4) (f16 : n0 < n6) (f17 : n7 = 9) (f18 : n5 ≠ n7) (f19 : n8 = 10) (f20 : n5 ≠ n8) (f21 : n9 = 13) (f22 : n5 ≠ n9) (f23 : n10 = 32) (f24 : n5 ≠ n10) (f25 : n11 ≤ 1) (f26 : 0 ≤ n11) (f27 : (hLe T0 H2 H3 ∧ hFr s_210.2.2.2.2 H2 H3 ∧ ((0 : Int) = 0 → H3.length = H2.length) ∧ hWt T0 H3) ∧ postb_210 n11 n5 H2 H3) (f28 : n11 = 0) (f29 : n12 ≤ 1) (f30 : 0 ≤ n12) (f31 : (hLe T0 H3 H4 ∧ hFr s_209.2.2.2.2 H3 H4 ∧ ((0 : Int) = 0 → H4.length = H3.length) ∧ hWt T0 H4) ∧ postb_209 n12 n5 H3 H4) (f32 : n12 = 0) (f33 : n13 = 1) (f34 : n14 = w32 (n0 + n13)) (f35 : n15 ≤ 255) (f36 : 0 ≤ n15) (f37 : (hLe T0 H4 H5 ∧ hFr s_208.2.2.2.2 H4 H5 ∧ ((0 : Int) = 0 → H5.length = H4.length) ∧ hWt T0 H5) ∧ postb_208 n15 n1 n14 H4 H5) (f38 : n16 ≤ 2147483647) (f39 : (-2147483648) ≤ n16) (f40 : (hLe T0 H5 H6 ∧ hFr s_215.2.2.2.2 H5 H6 ∧ ((0 : Int) = 0 → H6.length = H5.length) ∧ hWt T0 H6) ∧ postb_215 n16 n1 n0 n5 n15 H5 H6) (f41 : n17 = w32 (n0 + n16)) : n17 ≤ 2000 := by
  have g4 := f4.2.1.1
  unfold Ab_214_7 at g4
  unfold postb_208 at f12
  unfold postb_210 at f27
  unfold postb_209 at f31
  unfold postb_208 at f37
  unfold postb_215 at f40
  have e0 : n3 = hV H1 285 10 := (by rw [f2] at f7; exact f7 : n3 = hV H1 285 10)
  have e3 : n6 = hV H0 285 4 := (by rw [f2] at f15; exact f15 : n6 = hV H2 285 4).trans (((f12.1.2.1.1 285 4 kF_208_285_4)).trans (f4.1.2.1.1 285 4 kF_214_285_4))
  have e4 : hV H1 285 4 = hV H0 285 4 := (f4.1.2.1.1 285 4 kF_214_285_4)
  have e5 : hV H2 285 4 = hV H0 285 4 := ((f12.1.2.1.1 285 4 kF_208_285_4)).trans (f4.1.2.1.1 285 4 kF_214_285_4)
  have e8 : hV H2 287 = hV H0 287 := (fRow f12.1.2.1 287 kR_208_287).trans (fRow f4.1.2.1 287 kR_214_287)
  have e13 : hV H5 285 10 = hV H1 285 10 := ((f37.1.2.1.1 285 10 kF_208_285_10)).trans (((f31.1.2.1.1 285 10 kF_209_285_10)).trans (((f27.1.2.1.1 285 10 kF_210_285_10)).trans (f12.1.2.1.1 285 10 kF_208_285_10)))
  have e17 : hV H5 285 4 = hV H0 285 4 := ((f37.1.2.1.1 285 4 kF_208_285_4)).trans (((f31.1.2.1.1 285 4 kF_209_285_4)).trans (((f27.1.2.1.1 285 4 kF_210_285_4)).trans (((f12.1.2.1.1 285 4 kF_208_285_4)).trans (f4.1.2.1.1 285 4 kF_214_285_4))))
  have e23 : hV H5 287 = hV H0 287 := (fRow f37.1.2.1 287 kR_208_287).trans ((fRow f31.1.2.1 287 kR_209_287).trans ((fRow f27.1.2.1 287 kR_210_287).trans e8))
  have e24 : (0 : Int) ≤ hV H1 285 10 ∧ hV H1 285 10 ≤ 501 := f4.1.2.2 285 10 _ _ kW_285_10
  have e25 : (0 : Int) ≤ hV H0 285 4 ∧ hV H0 285 4 ≤ 2000 := bTo e4 (f4.1.2.2 285 4 _ _ kW_285_4)
  have e29 : (0 : Int) ≤ hV H6 285 10 ∧ hV H6 285 10 ≤ 501 := f40.1.2.2.2 285 10 _ _ kW_285_10
  have y0 := g4
  have r0_0 := f12.2.1
  have r0_1 := f12.2.2
  have r1_0 := f27.2
  have r2_0 := f31.2
  have r3_0 := f37.2.1
  have r3_1 := f37.2.2
  have r4_0 := f40.2.1
  have r4_1 := f40.2.2
  try simp only [e4] at y0
  try simp only [e5, e8] at r0_0
  try simp only [e5] at r0_1
  try simp only [e17, e23] at r3_0
  try simp only [e17] at r3_1
  try simp only [e13] at r4_0
  clear g4
  clear f7 f15 e4 e5 e8 e13 e17 e23
  clear f4 f12 f27 f31 f37 f40
  subst e0
  subst e3
  first
  | (have ix0 : n17 = n0 + n16 := Eq.trans f41 (w32_id (by (first | lia | omega)) (by (first | lia | omega))); subst ix0; clear f41)
  | (unfold w32 at f41; have ix0 : n17 = n0 + n16 := (by (first | lia | omega)); subst ix0)
  | skip
  try unfold w32 at f34
  try unfold w32 at f41
  (first | lia | omega)
def g_214_7_13 : vG := ([(1, [17, 2, 16], [], 0), (1215, [16, 1, 2, 5, 15], [5, 6], 0), (90, [16], [], -2147483648), (91, [16], [], 2147483647), (1208, [15, 1, 14], [4, 5], 0), (90, [15], [], 0), (91, [15], [], 255), (1, [14, 2, 13], [], 0), (0, [13], [], 1), (30, [12], [], 0), (1209, [12, 5], [3, 4], 0), (90, [12], [], 0), (91, [12], [], 1), (30, [11], [], 0), (1210, [11, 5], [2, 3], 0), (90, [11], [], 0), (91, [11], [], 1), (41, [5, 10], [], 0), (0, [10], [], 32), (41, [5, 9], [], 0), (0, [9], [], 13), (41, [5, 8], [], 0), (0, [8], [], 10), (41, [5, 7], [], 0), (0, [7], [], 9), (42, [2, 6], [], 0), (20, [6, 1], [2], 4), (90, [6], [], 0), (91, [6], [], 2000), (1208, [5, 1, 2], [1, 2], 0), (90, [5], [], 0), (91, [5], [], 255), (45, [3, 4], [], 0), (0, [4], [], 500), (20, [3, 1], [1], 10), (90, [3], [], 0), (91, [3], [], 501), (5000, [0, 1, 2], [0, 1], 7), (0, [0], [], 285), (0, [1], [], 285), (90, [2], [], 0), (91, [2], [], 2000)], (91, [17], [], 2000))
theorem c_214_7_13 {q0 : Nat} : vOkm T0 (eP e_214 L_214 A_214 mu_214 (some q0)) 1 g_214_7_13 := vOk_inI fun ρ η f0 f1 f2 f3 f4 f5 f6 f7 f8 f9 f10 f11 f12 f13 f14 f15 f16 f17 f18 f19 f20 f21 f22 f23 f24 f25 f26 f27 f28 f29 f30 f31 f32 f33 f34 f35 f36 f37 f38 f39 f40 f41 => q_214_14 (q0 := q0) (n0 := ρ 2) (n1 := ρ 1) (n2 := ρ 0) (n3 := ρ 3) (n4 := ρ 4) (n5 := ρ 5) (n6 := ρ 6) (n7 := ρ 7) (n8 := ρ 8) (n9 := ρ 9) (n10 := ρ 10) (n11 := ρ 11) (n12 := ρ 12) (n13 := ρ 13) (n14 := ρ 14) (n15 := ρ 15) (n16 := ρ 16) (n17 := ρ 17) (H0 := η 0) (H1 := η 1) (H2 := η 2) (H3 := η 3) (H4 := η 4) (H5 := η 5) (H6 := η 6) f41 f40 f39 f38 f37 f36 f35 f34 f33 f32 f31 f30 f29 f28 f27 f26 f25 f24 f23 f22 f21 f20 f19 f18 f17 f16 f15 f14 f13 f12 f11 f10 f9 f8 f7 f6 f5 f4 f3 f2 f1 f0
theorem kF_215_285_4 : vFree s_215.2.2.2.2 285 4 = true := by decide +kernel
theorem q_214_15 {q0 : Nat} {n0 n1 n2 n3 n4 n5 n6 n7 n8 n9 n10 n11 n12 n13 n14 n15 n16 n17 : Int} {H0 H1 H2 H3 H4 H5 H6 : gH} (f0 : n0 ≤ 2000) (f1 : 0 ≤ n0) (f2 : n1 = 285) (f3 : n2 = 285) (f4 : (hLe T0 H0 H1 ∧ hFr s_214.2.2.2.2 H0 H1 ∧ hWt T0 H1) ∧ (Ab_214_7 n2 n1 n0 H0 H1 ∧ True) ∧ some q0 = some (mub_214_7 n2 n1 n0 H0 H1)) (f5 : n3 ≤ 501) (f6 : 0 ≤ n3) (f7 : n3 = hV H1 (n1).toNat 10) (f8 : n4 = 500) (f9 : n3 ≤ n4) (f10 : n5 ≤ 255) (f11 : 0 ≤ n5) (f12 : (hLe T0 H1 H2 ∧ hFr s_208.2.2.2.2 H1 H2 ∧ ((0 : Int) = 0 → H2.length = H1.length) ∧ hWt T0 H2) ∧ postb_208 n5 n1 n0 H1 H2) (f13 : n6 ≤ 2000) (f14 : 0 ≤ n6) (f15 : n6 = hV H2 (n1).toNat 4) (f16 : n0 < n6) (f17 : n7 = 9) (f18 : n5 ≠ n7) (f19 : n8 = 10) (f20 : n5 ≠ n8) (f21 : n9 = 13) (f22 : n5 ≠ n9) (f23 : n10 = 32) (f24 : n5 ≠ n10) (f25 : n11 ≤ 1) (f26 : 0 ≤ n11) (f27 : (hLe T0 H2 H3 ∧ hFr s_210.2.2.2.2 H2 H3 ∧ ((0 : Int) = 0 → H3.length = H2.length) ∧ hWt T0 H3) ∧ postb_210 n11 n5 H2 H3) (f28 : n11 = 0) (f29 : n12 ≤ 1) (f30 : 0 ≤ n12) (f31 : (hLe T0 H3 H4 ∧ hFr s_209.2.2.2.2 H3 H4 ∧ ((0 : Int) = 0 → H4.length = H3.length) ∧ hWt T0 H4) ∧ postb_209 n12 n5 H3 H4) (f32 : n12 = 0) (f33 : n13 = 1) (f34 : n14 = w32 (n0 + n13)) (f35 : n15 ≤ 255) (f36 : 0 ≤ n15) (f37 : (hLe T0 H4 H5 ∧ hFr s_208.2.2.2.2 H4 H5 ∧ ((0 : Int) = 0 → H5.length = H4.length) ∧ hWt T0 H5) ∧ postb_208 n15 n1 n14 H4 H5) (f38 : n16 ≤ 2147483647) (f39 : (-2147483648) ≤ n16) (f40 : (hLe T0 H5 H6 ∧ hFr s_215.2.2.2.2 H5 H6 ∧ ((0 : Int) = 0 → H6.length = H5.length) ∧ hWt T0 H6) ∧ postb_215 n16 n1 n0 n5 n15 H5 H6) (f41 : n17 = w32 (n0 + n16)) : Ab_214_7 n2 n1 n17 H0 H6 ∧ ∀ q, some q0 = some q → mub_214_7 n2 n1 n17 H0 H6 < q := by
  have g4 := f4.2.1.1
  unfold Ab_214_7 at g4
  have g5 := Option.some.inj f4.2.2
  unfold mub_214_7 at g5
  unfold postb_208 at f12
  unfold postb_210 at f27
  unfold postb_209 at f31
  unfold postb_208 at f37
  unfold postb_215 at f40
  unfold Ab_214_7
  unfold mub_214_7
  have e0 : n3 = hV H1 285 10 := (by rw [f2] at f7; exact f7 : n3 = hV H1 285 10)
  have e3 : n6 = hV H0 285 4 := (by rw [f2] at f15; exact f15 : n6 = hV H2 285 4).trans (((f12.1.2.1.1 285 4 kF_208_285_4)).trans (f4.1.2.1.1 285 4 kF_214_285_4))
  have e4 : hV H1 285 4 = hV H0 285 4 := (f4.1.2.1.1 285 4 kF_214_285_4)
  have e5 : hV H2 285 4 = hV H0 285 4 := ((f12.1.2.1.1 285 4 kF_208_285_4)).trans (f4.1.2.1.1 285 4 kF_214_285_4)
  have e8 : hV H2 287 = hV H0 287 := (fRow f12.1.2.1 287 kR_208_287).trans (fRow f4.1.2.1 287 kR_214_287)
  have e13 : hV H5 285 10 = hV H1 285 10 := ((f37.1.2.1.1 285 10 kF_208_285_10)).trans (((f31.1.2.1.1 285 10 kF_209_285_10)).trans (((f27.1.2.1.1 285 10 kF_210_285_10)).trans (f12.1.2.1.1 285 10 kF_208_285_10)))
  have e17 : hV H5 285 4 = hV H0 285 4 := ((f37.1.2.1.1 285 4 kF_208_285_4)).trans (((f31.1.2.1.1 285 4 kF_209_285_4)).trans (((f27.1.2.1.1 285 4 kF_210_285_4)).trans (((f12.1.2.1.1 285 4 kF_208_285_4)).trans (f4.1.2.1.1 285 4 kF_214_285_4))))
  have e23 : hV H5 287 = hV H0 287 := (fRow f37.1.2.1 287 kR_208_287).trans ((fRow f31.1.2.1 287 kR_209_287).trans ((fRow f27.1.2.1 287 kR_210_287).trans e8))
  have e25 : hV H6 285 4 = hV H0 285 4 := ((f40.1.2.1.1 285 4 kF_215_285_4)).trans (((f37.1.2.1.1 285 4 kF_208_285_4)).trans (((f31.1.2.1.1 285 4 kF_209_285_4)).trans (((f27.1.2.1.1 285 4 kF_210_285_4)).trans (((f12.1.2.1.1 285 4 kF_208_285_4)).trans (f4.1.2.1.1 285 4 kF_214_285_4)))))
  have e26 : (0 : Int) ≤ hV H1 285 10 ∧ hV H1 285 10 ≤ 501 := f4.1.2.2 285 10 _ _ kW_285_10
  have e27 : (0 : Int) ≤ hV H0 285 4 ∧ hV H0 285 4 ≤ 2000 := bTo e4 (f4.1.2.2 285 4 _ _ kW_285_4)
  have e31 : (0 : Int) ≤ hV H6 285 10 ∧ hV H6 285 10 ≤ 501 := f40.1.2.2.2 285 10 _ _ kW_285_10
  try simp only [e25]
  have y0 := g4
  have r0_0 := f12.2.1
  have r0_1 := f12.2.2
  have r1_0 := f27.2
  have r2_0 := f31.2
  have r3_0 := f37.2.1
  have r3_1 := f37.2.2
  have r4_0 := f40.2.1
  have r4_1 := f40.2.2
  try simp only [e4] at y0
  try simp only [e5, e8] at r0_0
  try simp only [e5] at r0_1
  try simp only [e17, e23] at r3_0
  try simp only [e17] at r3_1
  try simp only [e13] at r4_0
  clear g4
  clear f7 f15 e4 e5 e8 e13 e17 e23 e25
  clear f4 f12 f27 f31 f37 f40
  subst e0
  subst e3
  first
  | (have ix0 : n17 = n0 + n16 := Eq.trans f41 (w32_id (by (first | lia | omega)) (by (first | lia | omega))); subst ix0; clear f41)
  | (unfold w32 at f41; have ix0 : n17 = n0 + n16 := (by (first | lia | omega)); subst ix0)
  | skip
  try unfold w32 at f34
  try unfold w32 at f41
  refine ⟨?_, fun q hq => ?_⟩
  · first | assumption | (first | lia | omega) | trivial
  · have g6 := Option.some.inj hq
    subst g6
    (first | lia | omega)
def g_214_7_14 : vG := ([(1, [17, 2, 16], [], 0), (1215, [16, 1, 2, 5, 15], [5, 6], 0), (90, [16], [], -2147483648), (91, [16], [], 2147483647), (1208, [15, 1, 14], [4, 5], 0), (90, [15], [], 0), (91, [15], [], 255), (1, [14, 2, 13], [], 0), (0, [13], [], 1), (30, [12], [], 0), (1209, [12, 5], [3, 4], 0), (90, [12], [], 0), (91, [12], [], 1), (30, [11], [], 0), (1210, [11, 5], [2, 3], 0), (90, [11], [], 0), (91, [11], [], 1), (41, [5, 10], [], 0), (0, [10], [], 32), (41, [5, 9], [], 0), (0, [9], [], 13), (41, [5, 8], [], 0), (0, [8], [], 10), (41, [5, 7], [], 0), (0, [7], [], 9), (42, [2, 6], [], 0), (20, [6, 1], [2], 4), (90, [6], [], 0), (91, [6], [], 2000), (1208, [5, 1, 2], [1, 2], 0), (90, [5], [], 0), (91, [5], [], 255), (45, [3, 4], [], 0), (0, [4], [], 500), (20, [3, 1], [1], 10), (90, [3], [], 0), (91, [3], [], 501), (5000, [0, 1, 2], [0, 1], 7), (0, [0], [], 285), (0, [1], [], 285), (90, [2], [], 0), (91, [2], [], 2000)], (4000, [1, 17], [6], 7))
theorem c_214_7_14 {q0 : Nat} : vOkm T0 (eP e_214 L_214 A_214 mu_214 (some q0)) 1 g_214_7_14 := vOk_inI fun ρ η f0 f1 f2 f3 f4 f5 f6 f7 f8 f9 f10 f11 f12 f13 f14 f15 f16 f17 f18 f19 f20 f21 f22 f23 f24 f25 f26 f27 f28 f29 f30 f31 f32 f33 f34 f35 f36 f37 f38 f39 f40 f41 => q_214_15 (q0 := q0) (n0 := ρ 2) (n1 := ρ 1) (n2 := ρ 0) (n3 := ρ 3) (n4 := ρ 4) (n5 := ρ 5) (n6 := ρ 6) (n7 := ρ 7) (n8 := ρ 8) (n9 := ρ 9) (n10 := ρ 10) (n11 := ρ 11) (n12 := ρ 12) (n13 := ρ 13) (n14 := ρ 14) (n15 := ρ 15) (n16 := ρ 16) (n17 := ρ 17) (H0 := η 0) (H1 := η 1) (H2 := η 2) (H3 := η 3) (H4 := η 4) (H5 := η 5) (H6 := η 6) f41 f40 f39 f38 f37 f36 f35 f34 f33 f32 f31 f30 f29 f28 f27 f26 f25 f24 f23 f22 f21 f20 f19 f18 f17 f16 f15 f14 f13 f12 f11 f10 f9 f8 f7 f6 f5 f4 f3 f2 f1 f0
theorem q_214_16 {q0 : Nat} {n0 n1 n2 n3 n4 n5 n6 n7 n8 n9 n10 n11 n12 n13 n14 : Int} {H0 H1 H2 H3 H4 : gH} (f0 : n0 ≤ 2000) (f1 : 0 ≤ n0) (f2 : n1 = 285) (f3 : n2 = 285) (f4 : (hLe T0 H0 H1 ∧ hFr s_214.2.2.2.2 H0 H1 ∧ hWt T0 H1) ∧ (Ab_214_7 n2 n1 n0 H0 H1 ∧ True) ∧ some q0 = some (mub_214_7 n2 n1 n0 H0 H1)) (f5 : n3 ≤ 501) (f6 : 0 ≤ n3) (f7 : n3 = hV H1 (n1).toNat 10) (f8 : n4 = 500) (f9 : n3 ≤ n4) (f10 : n5 ≤ 255) (f11 : 0 ≤ n5) (f12 : (hLe T0 H1 H2 ∧ hFr s_208.2.2.2.2 H1 H2 ∧ ((0 : Int) = 0 → H2.length = H1.length) ∧ hWt T0 H2) ∧ postb_208 n5 n1 n0 H1 H2) (f13 : n6 ≤ 2000) (f14 : 0 ≤ n6) (f15 : n6 = hV H2 (n1).toNat 4) (f16 : n0 < n6) (f17 : n7 = 9) (f18 : n5 ≠ n7) (f19 : n8 = 10) (f20 : n5 ≠ n8) (f21 : n9 = 13) (f22 : n5 ≠ n9) (f23 : n10 = 32) (f24 : n5 ≠ n10) (f25 : n11 ≤ 1) (f26 : 0 ≤ n11) (f27 : (hLe T0 H2 H3 ∧ hFr s_210.2.2.2.2 H2 H3 ∧ ((0 : Int) = 0 → H3.length = H2.length) ∧ hWt T0 H3) ∧ postb_210 n11 n5 H2 H3) (f28 : n11 = 0) (f29 : n12 ≤ 1) (f30 : 0 ≤ n12) (f31 : (hLe T0 H3 H4 ∧ hFr s_209.2.2.2.2 H3 H4 ∧ ((0 : Int) = 0 → H4.length = H3.length) ∧ hWt T0 H4) ∧ postb_209 n12 n5 H3 H4) (f32 : n12 ≠ 0) (f33 : n13 = 0) (f34 : n14 = 0) : Ab_214_208 n2 n1 n0 n5 n13 n14 H0 H4 ∧ ∀ q, some q0 = some q → mub_214_208 n2 n1 n0 n5 n13 n14 H0 H4 < q := by
  have g4 := f4.2.1.1
  unfold Ab_214_7 at g4
  have g5 := Option.some.inj f4.2.2
  unfold mub_214_7 at g5
  unfold postb_208 at f12
  unfold postb_210 at f27
  unfold postb_209 at f31
  unfold Ab_214_208
  unfold mub_214_208
  have e0 : n3 = hV H1 285 10 := (by rw [f2] at f7; exact f7 : n3 = hV H1 285 10)
  have e3 : n6 = hV H0 285 4 := (by rw [f2] at f15; exact f15 : n6 = hV H2 285 4).trans (((f12.1.2.1.1 285 4 kF_208_285_4)).trans (f4.1.2.1.1 285 4 kF_214_285_4))
  have e4 : hV H1 285 4 = hV H0 285 4 := (f4.1.2.1.1 285 4 kF_214_285_4)
  have e5 : hV H2 285 4 = hV H0 285 4 := ((f12.1.2.1.1 285 4 kF_208_285_4)).trans (f4.1.2.1.1 285 4 kF_214_285_4)
  have e8 : hV H2 287 = hV H0 287 := (fRow f12.1.2.1 287 kR_208_287).trans (fRow f4.1.2.1 287 kR_214_287)
  have e12 : hV H4 285 10 = hV H1 285 10 := ((f31.1.2.1.1 285 10 kF_209_285_10)).trans (((f27.1.2.1.1 285 10 kF_210_285_10)).trans (f12.1.2.1.1 285 10 kF_208_285_10))
  have e15 : hV H4 285 4 = hV H0 285 4 := ((f31.1.2.1.1 285 4 kF_209_285_4)).trans (((f27.1.2.1.1 285 4 kF_210_285_4)).trans (((f12.1.2.1.1 285 4 kF_208_285_4)).trans (f4.1.2.1.1 285 4 kF_214_285_4)))
  have e16 : (0 : Int) ≤ hV H1 285 10 ∧ hV H1 285 10 ≤ 501 := f4.1.2.2 285 10 _ _ kW_285_10
  have e17 : (0 : Int) ≤ hV H0 285 4 ∧ hV H0 285 4 ≤ 2000 := bTo e4 (f4.1.2.2 285 4 _ _ kW_285_4)
  try simp only [e12, e15]
  have y0 := g4
  have r0_0 := f12.2.1
  have r0_1 := f12.2.2
  have r1_0 := f27.2
  have r2_0 := f31.2
  try simp only [e4] at y0
  try simp only [e5, e8] at r0_0
  try simp only [e5] at r0_1
  clear g4
  clear f7 f15 e4 e5 e8 e12 e15
  clear f4 f12 f27 f31
  subst e0
  subst e3
  refine ⟨?_, fun q hq => ?_⟩
  · refine ⟨?_, ?_, ?_, ?_, ?_, ?_⟩ <;> first | assumption | (first | lia | omega) | trivial
  · have g6 := Option.some.inj hq
    subst g6
    (first | lia | omega)
def g_214_7_15 : vG := ([(0, [14], [], 0), (0, [13], [], 0), (31, [12], [], 0), (1209, [12, 5], [3, 4], 0), (90, [12], [], 0), (91, [12], [], 1), (30, [11], [], 0), (1210, [11, 5], [2, 3], 0), (90, [11], [], 0), (91, [11], [], 1), (41, [5, 10], [], 0), (0, [10], [], 32), (41, [5, 9], [], 0), (0, [9], [], 13), (41, [5, 8], [], 0), (0, [8], [], 10), (41, [5, 7], [], 0), (0, [7], [], 9), (42, [2, 6], [], 0), (20, [6, 1], [2], 4), (90, [6], [], 0), (91, [6], [], 2000), (1208, [5, 1, 2], [1, 2], 0), (90, [5], [], 0), (91, [5], [], 255), (45, [3, 4], [], 0), (0, [4], [], 500), (20, [3, 1], [1], 10), (90, [3], [], 0), (91, [3], [], 501), (5000, [0, 1, 2], [0, 1], 7), (0, [0], [], 285), (0, [1], [], 285), (90, [2], [], 0), (91, [2], [], 2000)], (4000, [1, 2, 5, 13, 14], [4], 208))
theorem c_214_7_15 {q0 : Nat} : vOkm T0 (eP e_214 L_214 A_214 mu_214 (some q0)) 1 g_214_7_15 := vOk_inI fun ρ η f0 f1 f2 f3 f4 f5 f6 f7 f8 f9 f10 f11 f12 f13 f14 f15 f16 f17 f18 f19 f20 f21 f22 f23 f24 f25 f26 f27 f28 f29 f30 f31 f32 f33 f34 => q_214_16 (q0 := q0) (n0 := ρ 2) (n1 := ρ 1) (n2 := ρ 0) (n3 := ρ 3) (n4 := ρ 4) (n5 := ρ 5) (n6 := ρ 6) (n7 := ρ 7) (n8 := ρ 8) (n9 := ρ 9) (n10 := ρ 10) (n11 := ρ 11) (n12 := ρ 12) (n13 := ρ 13) (n14 := ρ 14) (H0 := η 0) (H1 := η 1) (H2 := η 2) (H3 := η 3) (H4 := η 4) f34 f33 f32 f31 f30 f29 f28 f27 f26 f25 f24 f23 f22 f21 f20 f19 f18 f17 f16 f15 f14 f13 f12 f11 f10 f9 f8 f7 f6 f5 f4 f3 f2 f1 f0
theorem q_214_17 {q0 : Nat} {n0 n1 n2 n3 n4 n5 n6 n7 n8 n9 n10 n11 n12 n13 : Int} {H0 H1 H2 H3 : gH} (f0 : n0 ≤ 2000) (f1 : 0 ≤ n0) (f2 : n1 = 285) (f3 : n2 = 285) (f4 : (hLe T0 H0 H1 ∧ hFr s_214.2.2.2.2 H0 H1 ∧ hWt T0 H1) ∧ (Ab_214_7 n2 n1 n0 H0 H1 ∧ True) ∧ some q0 = some (mub_214_7 n2 n1 n0 H0 H1)) (f5 : n3 ≤ 501) (f6 : 0 ≤ n3) (f7 : n3 = hV H1 (n1).toNat 10) (f8 : n4 = 500) (f9 : n3 ≤ n4) (f10 : n5 ≤ 255) (f11 : 0 ≤ n5) (f12 : (hLe T0 H1 H2 ∧ hFr s_208.2.2.2.2 H1 H2 ∧ ((0 : Int) = 0 → H2.length = H1.length) ∧ hWt T0 H2) ∧ postb_208 n5 n1 n0 H1 H2) (f13 : n6 ≤ 2000) (f14 : 0 ≤ n6) (f15 : n6 = hV H2 (n1).toNat 4) (f16 : n0 < n6) (f17 : n7 = 9) (f18 : n5 ≠ n7) (f19 : n8 = 10) (f20 : n5 ≠ n8) (f21 : n9 = 13) (f22 : n5 ≠ n9) (f23 : n10 = 32) (f24 : n5 ≠ n10) (f25 : n11 ≤ 1) (f26 : 0 ≤ n11) (f27 : (hLe T0 H2 H3 ∧ hFr s_210.2.2.2.2 H2 H3 ∧ ((0 : Int) = 0 → H3.length = H2.length) ∧ hWt T0 H3) ∧ postb_210 n11 n5 H2 H3) (f28 : n11 ≠ 0) (f29 : n12 = 0) (f30 : n13 = 0) : Ab_214_85 n2 n1 n0 n5 n12 n13 H0 H3 ∧ ∀ q, some q0 = some q → mub_214_85 n2 n1 n0 n5 n12 n13 H0 H3 < q := by
  have g4 := f4.2.1.1
  unfold Ab_214_7 at g4
  have g5 := Option.some.inj f4.2.2
  unfold mub_214_7 at g5
  unfold postb_208 at f12
  unfold postb_210 at f27
  unfold Ab_214_85
  unfold mub_214_85
  have e0 : n3 = hV H1 285 10 := (by rw [f2] at f7; exact f7 : n3 = hV H1 285 10)
  have e3 : n6 = hV H0 285 4 := (by rw [f2] at f15; exact f15 : n6 = hV H2 285 4).trans (((f12.1.2.1.1 285 4 kF_208_285_4)).trans (f4.1.2.1.1 285 4 kF_214_285_4))
  have e4 : hV H1 285 4 = hV H0 285 4 := (f4.1.2.1.1 285 4 kF_214_285_4)
  have e5 : hV H2 285 4 = hV H0 285 4 := ((f12.1.2.1.1 285 4 kF_208_285_4)).trans (f4.1.2.1.1 285 4 kF_214_285_4)
  have e8 : hV H2 287 = hV H0 287 := (fRow f12.1.2.1 287 kR_208_287).trans (fRow f4.1.2.1 287 kR_214_287)
  have e11 : hV H3 285 10 = hV H1 285 10 := ((f27.1.2.1.1 285 10 kF_210_285_10)).trans (f12.1.2.1.1 285 10 kF_208_285_10)
  have e13 : hV H3 285 4 = hV H0 285 4 := ((f27.1.2.1.1 285 4 kF_210_285_4)).trans (((f12.1.2.1.1 285 4 kF_208_285_4)).trans (f4.1.2.1.1 285 4 kF_214_285_4))
  have e14 : (0 : Int) ≤ hV H1 285 10 ∧ hV H1 285 10 ≤ 501 := f4.1.2.2 285 10 _ _ kW_285_10
  have e15 : (0 : Int) ≤ hV H0 285 4 ∧ hV H0 285 4 ≤ 2000 := bTo e4 (f4.1.2.2 285 4 _ _ kW_285_4)
  try simp only [e11, e13]
  have y0 := g4
  have r0_0 := f12.2.1
  have r0_1 := f12.2.2
  have r1_0 := f27.2
  try simp only [e4] at y0
  try simp only [e5, e8] at r0_0
  try simp only [e5] at r0_1
  clear g4
  clear f7 f15 e4 e5 e8 e11 e13
  clear f4 f12 f27
  subst e0
  subst e3
  refine ⟨?_, fun q hq => ?_⟩
  · refine ⟨?_, ?_⟩ <;> first | assumption | (first | lia | omega) | trivial
  · have g6 := Option.some.inj hq
    subst g6
    (first | lia | omega)
def g_214_7_16 : vG := ([(0, [13], [], 0), (0, [12], [], 0), (31, [11], [], 0), (1210, [11, 5], [2, 3], 0), (90, [11], [], 0), (91, [11], [], 1), (41, [5, 10], [], 0), (0, [10], [], 32), (41, [5, 9], [], 0), (0, [9], [], 13), (41, [5, 8], [], 0), (0, [8], [], 10), (41, [5, 7], [], 0), (0, [7], [], 9), (42, [2, 6], [], 0), (20, [6, 1], [2], 4), (90, [6], [], 0), (91, [6], [], 2000), (1208, [5, 1, 2], [1, 2], 0), (90, [5], [], 0), (91, [5], [], 255), (45, [3, 4], [], 0), (0, [4], [], 500), (20, [3, 1], [1], 10), (90, [3], [], 0), (91, [3], [], 501), (5000, [0, 1, 2], [0, 1], 7), (0, [0], [], 285), (0, [1], [], 285), (90, [2], [], 0), (91, [2], [], 2000)], (4000, [1, 2, 5, 12, 13], [3], 85))
theorem c_214_7_16 {q0 : Nat} : vOkm T0 (eP e_214 L_214 A_214 mu_214 (some q0)) 1 g_214_7_16 := vOk_inI fun ρ η f0 f1 f2 f3 f4 f5 f6 f7 f8 f9 f10 f11 f12 f13 f14 f15 f16 f17 f18 f19 f20 f21 f22 f23 f24 f25 f26 f27 f28 f29 f30 => q_214_17 (q0 := q0) (n0 := ρ 2) (n1 := ρ 1) (n2 := ρ 0) (n3 := ρ 3) (n4 := ρ 4) (n5 := ρ 5) (n6 := ρ 6) (n7 := ρ 7) (n8 := ρ 8) (n9 := ρ 9) (n10 := ρ 10) (n11 := ρ 11) (n12 := ρ 12) (n13 := ρ 13) (H0 := η 0) (H1 := η 1) (H2 := η 2) (H3 := η 3) f30 f29 f28 f27 f26 f25 f24 f23 f22 f21 f20 f19 f18 f17 f16 f15 f14 f13 f12 f11 f10 f9 f8 f7 f6 f5 f4 f3 f2 f1 f0
theorem q_214_18 {q0 : Nat} {n0 n1 n2 n3 n4 n5 n6 n7 n8 n9 : Int} {H0 H1 H2 : gH} (f0 : n0 ≤ 2000) (f1 : 0 ≤ n0) (f2 : n1 = 285) (f3 : n2 = 285) (f4 : (hLe T0 H0 H1 ∧ hFr s_214.2.2.2.2 H0 H1 ∧ hWt T0 H1) ∧ (Ab_214_7 n2 n1 n0 H0 H1 ∧ True) ∧ some q0 = some (mub_214_7 n2 n1 n0 H0 H1)) (f5 : n3 ≤ 255) (f6 : 0 ≤ n3) (f7 : (hLe T0 H1 H2 ∧ hFr s_208.2.2.2.2 H1 H2 ∧ ((0 : Int) = 0 → H2.length = H1.length) ∧ hWt T0 H2) ∧ postb_208 n3 n1 n0 H1 H2) (f8 : n4 ≤ 2000) (f9 : 0 ≤ n4) (f10 : n4 = hV H2 (n1).toNat 4) (f11 : n0 < n4) (f12 : n5 = 9) (f13 : n3 ≠ n5) (f14 : n6 = 10) (f15 : n3 ≠ n6) (f16 : n7 = 13) (f17 : n3 ≠ n7) (f18 : n8 = 32) (f19 : n3 = n8) (f20 : n9 = w32 (n0 + 1)) : 0 ≤ n9 := by
  have g4 := f4.2.1.1
  unfold Ab_214_7 at g4
  unfold postb_208 at f7
  have e2 : n4 = hV H0 285 4 := (by rw [f2] at f10; exact f10 : n4 = hV H2 285 4).trans (((f7.1.2.1.1 285 4 kF_208_285_4)).trans (f4.1.2.1.1 285 4 kF_214_285_4))
  have e3 : hV H1 285 4 = hV H0 285 4 := (f4.1.2.1.1 285 4 kF_214_285_4)
  have e4 : hV H2 285 4 = hV H0 285 4 := ((f7.1.2.1.1 285 4 kF_208_285_4)).trans (f4.1.2.1.1 285 4 kF_214_285_4)
  have e7 : hV H2 287 = hV H0 287 := (fRow f7.1.2.1 287 kR_208_287).trans (fRow f4.1.2.1 287 kR_214_287)
  have e8 : (0 : Int) ≤ hV H1 285 10 ∧ hV H1 285 10 ≤ 501 := f4.1.2.2 285 10 _ _ kW_285_10
  have e9 : (0 : Int) ≤ hV H0 285 4 ∧ hV H0 285 4 ≤ 2000 := bTo e3 (f4.1.2.2 285 4 _ _ kW_285_4)
  have y0 := g4
  have r0_0 := f7.2.1
  have r0_1 := f7.2.2
  try simp only [e3] at y0
  try simp only [e4, e7] at r0_0
  try simp only [e4] at r0_1
  clear g4
  clear f10 e3 e4 e7
  clear f4 f7
  subst e2
  first
  | (have ix0 : n9 = n0 + 1 := Eq.trans f20 (w32_iv (Iad (Iat f1 f0) (IC 1)) (by decide)); subst ix0; clear f20)
  | (have ix0 : n9 = n0 + 1 := Eq.trans f20 (w32_id (by (first | lia | omega)) (by (first | lia | omega))); subst ix0; clear f20)
  | (unfold w32 at f20; have ix0 : n9 = n0 + 1 := (by (first | lia | omega)); subst ix0)
  | skip
  try unfold w32 at f20
  (first | lia | omega)
def g_214_7_17 : vG := ([(10, [11, 2], [], 1), (40, [5, 10], [], 0), (0, [10], [], 32), (41, [5, 9], [], 0), (0, [9], [], 13), (41, [5, 8], [], 0), (0, [8], [], 10), (41, [5, 7], [], 0), (0, [7], [], 9), (42, [2, 6], [], 0), (20, [6, 1], [2], 4), (90, [6], [], 0), (91, [6], [], 2000), (1208, [5, 1, 2], [1, 2], 0), (90, [5], [], 0), (91, [5], [], 255), (5000, [0, 1, 2], [0, 1], 7), (0, [0], [], 285), (0, [1], [], 285), (90, [2], [], 0), (91, [2], [], 2000)], (90, [11], [], 0))
theorem c_214_7_17 {q0 : Nat} : vOkm T0 (eP e_214 L_214 A_214 mu_214 (some q0)) 1 g_214_7_17 := vOk_inI fun ρ η f0 f1 f2 f3 f4 f5 f6 f7 f8 f9 f10 f11 f12 f13 f14 f15 f16 f17 f18 f19 f20 => q_214_18 (q0 := q0) (n0 := ρ 2) (n1 := ρ 1) (n2 := ρ 0) (n3 := ρ 5) (n4 := ρ 6) (n5 := ρ 7) (n6 := ρ 8) (n7 := ρ 9) (n8 := ρ 10) (n9 := ρ 11) (H0 := η 0) (H1 := η 1) (H2 := η 2) f20 f19 f18 f17 f16 f15 f14 f13 f12 f11 f10 f9 f8 f7 f6 f5 f4 f3 f2 f1 f0
theorem q_214_19 {q0 : Nat} {n0 n1 n2 n3 n4 n5 n6 n7 n8 n9 : Int} {H0 H1 H2 : gH} (f0 : n0 ≤ 2000) (f1 : 0 ≤ n0) (f2 : n1 = 285) (f3 : n2 = 285) (f4 : (hLe T0 H0 H1 ∧ hFr s_214.2.2.2.2 H0 H1 ∧ hWt T0 H1) ∧ (Ab_214_7 n2 n1 n0 H0 H1 ∧ True) ∧ some q0 = some (mub_214_7 n2 n1 n0 H0 H1)) (f5 : n3 ≤ 255) (f6 : 0 ≤ n3) (f7 : (hLe T0 H1 H2 ∧ hFr s_208.2.2.2.2 H1 H2 ∧ ((0 : Int) = 0 → H2.length = H1.length) ∧ hWt T0 H2) ∧ postb_208 n3 n1 n0 H1 H2) (f8 : n4 ≤ 2000) (f9 : 0 ≤ n4) (f10 : n4 = hV H2 (n1).toNat 4) (f11 : n0 < n4) (f12 : n5 = 9) (f13 : n3 ≠ n5) (f14 : n6 = 10) (f15 : n3 ≠ n6) (f16 : n7 = 13) (f17 : n3 ≠ n7) (f18 : n8 = 32) (f19 : n3 = n8) (f20 : n9 = w32 (n0 + 1)) : n9 ≤ 2000 := by
  have g4 := f4.2.1.1
  unfold Ab_214_7 at g4
  unfold postb_208 at f7
  have e2 : n4 = hV H0 285 4 := (by rw [f2] at f10; exact f10 : n4 = hV H2 285 4).trans (((f7.1.2.1.1 285 4 kF_208_285_4)).trans (f4.1.2.1.1 285 4 kF_214_285_4))
  have e3 : hV H1 285 4 = hV H0 285 4 := (f4.1.2.1.1 285 4 kF_214_285_4)
  have e4 : hV H2 285 4 = hV H0 285 4 := ((f7.1.2.1.1 285 4 kF_208_285_4)).trans (f4.1.2.1.1 285 4 kF_214_285_4)
  have e7 : hV H2 287 = hV H0 287 := (fRow f7.1.2.1 287 kR_208_287).trans (fRow f4.1.2.1 287 kR_214_287)
  have e8 : (0 : Int) ≤ hV H1 285 10 ∧ hV H1 285 10 ≤ 501 := f4.1.2.2 285 10 _ _ kW_285_10
  have e9 : (0 : Int) ≤ hV H0 285 4 ∧ hV H0 285 4 ≤ 2000 := bTo e3 (f4.1.2.2 285 4 _ _ kW_285_4)
  have y0 := g4
  have r0_0 := f7.2.1
  have r0_1 := f7.2.2
  try simp only [e3] at y0
  try simp only [e4, e7] at r0_0
  try simp only [e4] at r0_1
  clear g4
  clear f10 e3 e4 e7
  clear f4 f7
  subst e2
  first
  | (have ix0 : n9 = n0 + 1 := Eq.trans f20 (w32_iv (Iad (Iat f1 f0) (IC 1)) (by decide)); subst ix0; clear f20)
  | (have ix0 : n9 = n0 + 1 := Eq.trans f20 (w32_id (by (first | lia | omega)) (by (first | lia | omega))); subst ix0; clear f20)
  | (unfold w32 at f20; have ix0 : n9 = n0 + 1 := (by (first | lia | omega)); subst ix0)
  | skip
  try unfold w32 at f20
  (first | lia | omega)
def g_214_7_18 : vG := ([(10, [11, 2], [], 1), (40, [5, 10], [], 0), (0, [10], [], 32), (41, [5, 9], [], 0), (0, [9], [], 13), (41, [5, 8], [], 0), (0, [8], [], 10), (41, [5, 7], [], 0), (0, [7], [], 9), (42, [2, 6], [], 0), (20, [6, 1], [2], 4), (90, [6], [], 0), (91, [6], [], 2000), (1208, [5, 1, 2], [1, 2], 0), (90, [5], [], 0), (91, [5], [], 255), (5000, [0, 1, 2], [0, 1], 7), (0, [0], [], 285), (0, [1], [], 285), (90, [2], [], 0), (91, [2], [], 2000)], (91, [11], [], 2000))
theorem c_214_7_18 {q0 : Nat} : vOkm T0 (eP e_214 L_214 A_214 mu_214 (some q0)) 1 g_214_7_18 := vOk_inI fun ρ η f0 f1 f2 f3 f4 f5 f6 f7 f8 f9 f10 f11 f12 f13 f14 f15 f16 f17 f18 f19 f20 => q_214_19 (q0 := q0) (n0 := ρ 2) (n1 := ρ 1) (n2 := ρ 0) (n3 := ρ 5) (n4 := ρ 6) (n5 := ρ 7) (n6 := ρ 8) (n7 := ρ 9) (n8 := ρ 10) (n9 := ρ 11) (H0 := η 0) (H1 := η 1) (H2 := η 2) f20 f19 f18 f17 f16 f15 f14 f13 f12 f11 f10 f9 f8 f7 f6 f5 f4 f3 f2 f1 f0
theorem q_214_20 {q0 : Nat} {n0 n1 n2 n3 n4 n5 n6 n7 n8 n9 n10 n11 : Int} {H0 H1 H2 : gH} (f0 : n0 ≤ 2000) (f1 : 0 ≤ n0) (f2 : n1 = 285) (f3 : n2 = 285) (f4 : (hLe T0 H0 H1 ∧ hFr s_214.2.2.2.2 H0 H1 ∧ hWt T0 H1) ∧ (Ab_214_7 n2 n1 n0 H0 H1 ∧ True) ∧ some q0 = some (mub_214_7 n2 n1 n0 H0 H1)) (f5 : n3 ≤ 501) (f6 : 0 ≤ n3) (f7 : n3 = hV H1 (n1).toNat 10) (f8 : n4 = 500) (f9 : n3 ≤ n4) (f10 : n5 ≤ 255) (f11 : 0 ≤ n5) (f12 : (hLe T0 H1 H2 ∧ hFr s_208.2.2.2.2 H1 H2 ∧ ((0 : Int) = 0 → H2.length = H1.length) ∧ hWt T0 H2) ∧ postb_208 n5 n1 n0 H1 H2) (f13 : n6 ≤ 2000) (f14 : 0 ≤ n6) (f15 : n6 = hV H2 (n1).toNat 4) (f16 : n0 < n6) (f17 : n7 = 9) (f18 : n5 ≠ n7) (f19 : n8 = 10) (f20 : n5 ≠ n8) (f21 : n9 = 13) (f22 : n5 ≠ n9) (f23 : n10 = 32) (f24 : n5 = n10) (f25 : n11 = w32 (n0 + 1)) : Ab_214_7 n2 n1 n11 H0 H2 ∧ ∀ q, some q0 = some q → mub_214_7 n2 n1 n11 H0 H2 < q := by
  have g4 := f4.2.1.1
  unfold Ab_214_7 at g4
  have g5 := Option.some.inj f4.2.2
  unfold mub_214_7 at g5
  unfold postb_208 at f12
  unfold Ab_214_7
  unfold mub_214_7
  have e0 : n3 = hV H1 285 10 := (by rw [f2] at f7; exact f7 : n3 = hV H1 285 10)
  have e3 : n6 = hV H0 285 4 := (by rw [f2] at f15; exact f15 : n6 = hV H2 285 4).trans (((f12.1.2.1.1 285 4 kF_208_285_4)).trans (f4.1.2.1.1 285 4 kF_214_285_4))
  have e4 : hV H1 285 4 = hV H0 285 4 := (f4.1.2.1.1 285 4 kF_214_285_4)
  have e6 : hV H2 285 10 = hV H1 285 10 := (f12.1.2.1.1 285 10 kF_208_285_10)
  have e7 : hV H2 285 4 = hV H0 285 4 := ((f12.1.2.1.1 285 4 kF_208_285_4)).trans (f4.1.2.1.1 285 4 kF_214_285_4)
  have e10 : hV H2 287 = hV H0 287 := (fRow f12.1.2.1 287 kR_208_287).trans (fRow f4.1.2.1 287 kR_214_287)
  have e11 : (0 : Int) ≤ hV H1 285 10 ∧ hV H1 285 10 ≤ 501 := f4.1.2.2 285 10 _ _ kW_285_10
  have e12 : (0 : Int) ≤ hV H0 285 4 ∧ hV H0 285 4 ≤ 2000 := bTo e4 (f4.1.2.2 285 4 _ _ kW_285_4)
  try simp only [e6, e7]
  have y0 := g4
  have r0_0 := f12.2.1
  have r0_1 := f12.2.2
  try simp only [e4] at y0
  try simp only [e7, e10] at r0_0
  try simp only [e7] at r0_1
  clear g4
  clear f7 f15 e4 e6 e7 e10
  clear f4 f12
  subst e0
  subst e3
  first
  | (have ix0 : n11 = n0 + 1 := Eq.trans f25 (w32_iv (Iad (Iat f1 f0) (IC 1)) (by decide)); subst ix0; clear f25)
  | (have ix0 : n11 = n0 + 1 := Eq.trans f25 (w32_id (by (first | lia | omega)) (by (first | lia | omega))); subst ix0; clear f25)
  | (unfold w32 at f25; have ix0 : n11 = n0 + 1 := (by (first | lia | omega)); subst ix0)
  | skip
  try unfold w32 at f25
  refine ⟨?_, fun q hq => ?_⟩
  · first | assumption | (first | lia | omega) | trivial
  · have g6 := Option.some.inj hq
    subst g6
    (first | lia | omega)
def g_214_7_19 : vG := ([(10, [11, 2], [], 1), (40, [5, 10], [], 0), (0, [10], [], 32), (41, [5, 9], [], 0), (0, [9], [], 13), (41, [5, 8], [], 0), (0, [8], [], 10), (41, [5, 7], [], 0), (0, [7], [], 9), (42, [2, 6], [], 0), (20, [6, 1], [2], 4), (90, [6], [], 0), (91, [6], [], 2000), (1208, [5, 1, 2], [1, 2], 0), (90, [5], [], 0), (91, [5], [], 255), (45, [3, 4], [], 0), (0, [4], [], 500), (20, [3, 1], [1], 10), (90, [3], [], 0), (91, [3], [], 501), (5000, [0, 1, 2], [0, 1], 7), (0, [0], [], 285), (0, [1], [], 285), (90, [2], [], 0), (91, [2], [], 2000)], (4000, [1, 11], [2], 7))
theorem c_214_7_19 {q0 : Nat} : vOkm T0 (eP e_214 L_214 A_214 mu_214 (some q0)) 1 g_214_7_19 := vOk_inI fun ρ η f0 f1 f2 f3 f4 f5 f6 f7 f8 f9 f10 f11 f12 f13 f14 f15 f16 f17 f18 f19 f20 f21 f22 f23 f24 f25 => q_214_20 (q0 := q0) (n0 := ρ 2) (n1 := ρ 1) (n2 := ρ 0) (n3 := ρ 3) (n4 := ρ 4) (n5 := ρ 5) (n6 := ρ 6) (n7 := ρ 7) (n8 := ρ 8) (n9 := ρ 9) (n10 := ρ 10) (n11 := ρ 11) (H0 := η 0) (H1 := η 1) (H2 := η 2) f25 f24 f23 f22 f21 f20 f19 f18 f17 f16 f15 f14 f13 f12 f11 f10 f9 f8 f7 f6 f5 f4 f3 f2 f1 f0
theorem q_214_21 {q0 : Nat} {n0 n1 n2 n3 n4 n5 n6 n7 n8 n9 n10 : Int} {H0 H1 H2 : gH} (f0 : n0 ≤ 2000) (f1 : 0 ≤ n0) (f2 : n1 = 285) (f3 : n2 = 285) (f4 : (hLe T0 H0 H1 ∧ hFr s_214.2.2.2.2 H0 H1 ∧ hWt T0 H1) ∧ (Ab_214_7 n2 n1 n0 H0 H1 ∧ True) ∧ some q0 = some (mub_214_7 n2 n1 n0 H0 H1)) (f5 : n3 ≤ 501) (f6 : 0 ≤ n3) (f7 : n3 = hV H1 (n1).toNat 10) (f8 : n4 = 500) (f9 : n3 ≤ n4) (f10 : n5 ≤ 255) (f11 : 0 ≤ n5) (f12 : (hLe T0 H1 H2 ∧ hFr s_208.2.2.2.2 H1 H2 ∧ ((0 : Int) = 0 → H2.length = H1.length) ∧ hWt T0 H2) ∧ postb_208 n5 n1 n0 H1 H2) (f13 : n6 ≤ 2000) (f14 : 0 ≤ n6) (f15 : n6 = hV H2 (n1).toNat 4) (f16 : n6 ≤ n0) (f17 : n7 = 0) (f18 : n8 ≤ 2000) (f19 : 0 ≤ n8) (f20 : n8 = hV H2 (n1).toNat 4) (f21 : n9 = 0) (f22 : n10 = 0) : preb_213 n1 n7 n8 n9 n10 H2 := by
  have g4 := f4.2.1.1
  unfold Ab_214_7 at g4
  unfold postb_208 at f12
  unfold preb_213
  have e0 : n3 = hV H1 285 10 := (by rw [f2] at f7; exact f7 : n3 = hV H1 285 10)
  have e3 : n6 = hV H0 285 4 := (by rw [f2] at f15; exact f15 : n6 = hV H2 285 4).trans (((f12.1.2.1.1 285 4 kF_208_285_4)).trans (f4.1.2.1.1 285 4 kF_214_285_4))
  have e4 : n8 = hV H0 285 4 := (by rw [f2] at f20; exact f20 : n8 = hV H2 285 4).trans (((f12.1.2.1.1 285 4 kF_208_285_4)).trans (f4.1.2.1.1 285 4 kF_214_285_4))
  have e5 : hV H1 285 4 = hV H0 285 4 := (f4.1.2.1.1 285 4 kF_214_285_4)
  have e7 : hV H2 285 10 = hV H1 285 10 := (f12.1.2.1.1 285 10 kF_208_285_10)
  have e8 : hV H2 285 4 = hV H0 285 4 := ((f12.1.2.1.1 285 4 kF_208_285_4)).trans (f4.1.2.1.1 285 4 kF_214_285_4)
  have e11 : hV H2 287 = hV H0 287 := (fRow f12.1.2.1 287 kR_208_287).trans (fRow f4.1.2.1 287 kR_214_287)
  have e12 : (0 : Int) ≤ hV H1 285 10 ∧ hV H1 285 10 ≤ 501 := f4.1.2.2 285 10 _ _ kW_285_10
  have e13 : (0 : Int) ≤ hV H0 285 4 ∧ hV H0 285 4 ≤ 2000 := bTo e5 (f4.1.2.2 285 4 _ _ kW_285_4)
  try simp only [e7]
  have y0 := g4
  have r0_0 := f12.2.1
  have r0_1 := f12.2.2
  try simp only [e5] at y0
  try simp only [e8, e11] at r0_0
  try simp only [e8] at r0_1
  clear g4
  clear f7 f15 f20 e5 e7 e8 e11
  clear f4 f12
  subst e0
  subst e3
  subst e4
  first | assumption | (first | lia | omega) | trivial
def g_214_7_20 : vG := ([(0, [10], [], 0), (0, [9], [], 0), (20, [8, 1], [2], 4), (90, [8], [], 0), (91, [8], [], 2000), (0, [7], [], 0), (43, [2, 6], [], 0), (20, [6, 1], [2], 4), (90, [6], [], 0), (91, [6], [], 2000), (1208, [5, 1, 2], [1, 2], 0), (90, [5], [], 0), (91, [5], [], 255), (45, [3, 4], [], 0), (0, [4], [], 500), (20, [3, 1], [1], 10), (90, [3], [], 0), (91, [3], [], 501), (5000, [0, 1, 2], [0, 1], 7), (0, [0], [], 285), (0, [1], [], 285), (90, [2], [], 0), (91, [2], [], 2000)], (2213, [1, 7, 8, 9, 10], [2], 0))
theorem c_214_7_20 {q0 : Nat} : vOkm T0 (eP e_214 L_214 A_214 mu_214 (some q0)) 1 g_214_7_20 := vOk_inI fun ρ η f0 f1 f2 f3 f4 f5 f6 f7 f8 f9 f10 f11 f12 f13 f14 f15 f16 f17 f18 f19 f20 f21 f22 => q_214_21 (q0 := q0) (n0 := ρ 2) (n1 := ρ 1) (n2 := ρ 0) (n3 := ρ 3) (n4 := ρ 4) (n5 := ρ 5) (n6 := ρ 6) (n7 := ρ 7) (n8 := ρ 8) (n9 := ρ 9) (n10 := ρ 10) (H0 := η 0) (H1 := η 1) (H2 := η 2) f22 f21 f20 f19 f18 f17 f16 f15 f14 f13 f12 f11 f10 f9 f8 f7 f6 f5 f4 f3 f2 f1 f0
def p_214_7 : List vG := [g_214_7_0,
  g_214_7_1,
  g_214_7_2,
  g_214_7_3,
  g_214_7_4,
  g_214_7_5,
  g_214_7_6,
  g_214_7_7,
  g_214_7_8,
  g_214_7_9,
  g_214_7_10,
  g_214_7_11,
  g_214_7_12,
  g_214_7_13,
  g_214_7_14,
  g_214_7_15,
  g_214_7_16,
  g_214_7_17,
  g_214_7_18,
  g_214_7_19,
  g_214_7_20]
theorem r_214_7 : vCovO true (eRc e_214 L_214 cs_214 2000 (7, [(0, (3, 12, 285, 0)), (1, (0, 0, 2000, 0))])) p_214_7 = true := by decide +kernel
theorem q_214_22 {q0 : Nat} {n0 n1 n2 n3 n4 n5 n6 : Int} {H0 H1 : gH} (f0 : n0 ≤ 2000) (f1 : 0 ≤ n0) (f2 : n1 ≤ 2147483647) (f3 : (-2147483648) ≤ n1) (f4 : n2 ≤ 2000) (f5 : 0 ≤ n2) (f6 : n3 = 285) (f7 : n4 = 285) (f8 : (hLe T0 H0 H1 ∧ hFr s_214.2.2.2.2 H0 H1 ∧ hWt T0 H1) ∧ (Ab_214_85 n4 n3 n2 n1 n0 n5 H0 H1 ∧ True) ∧ some q0 = some (mub_214_85 n4 n3 n2 n1 n0 n5 H0 H1)) (f9 : n6 = w32 (n2 + n0)) : preb_208 n3 n6 H1 := by
  have g4 := f8.2.1.1
  unfold Ab_214_85 at g4
  unfold preb_208
  have e1 : hV H1 285 4 = hV H0 285 4 := (f8.1.2.1.1 285 4 kF_214_285_4)
  have e2 : (0 : Int) ≤ hV H1 285 10 ∧ hV H1 285 10 ≤ 501 := f8.1.2.2 285 10 _ _ kW_285_10
  have e3 : (0 : Int) ≤ hV H0 285 4 ∧ hV H0 285 4 ≤ 2000 := bTo e1 (f8.1.2.2 285 4 _ _ kW_285_4)
  have y0 := g4.1
  have y1 := g4.2
  try simp only [e1] at y0
  clear g4
  clear e1
  clear f8
  first
  | (have ix0 : n6 = n2 + n0 := Eq.trans f9 (w32_iv (Iad (Iat f5 f4) (Iat f1 f0)) (by decide)); subst ix0; clear f9)
  | (have ix0 : n6 = n2 + n0 := Eq.trans f9 (w32_id (by (first | lia | omega)) (by (first | lia | omega))); subst ix0; clear f9)
  | (unfold w32 at f9; have ix0 : n6 = n2 + n0 := (by (first | lia | omega)); subst ix0)
  | skip
  try unfold w32 at f9
  first | assumption | (first | lia | omega) | trivial
def g_214_85_0 : vG := ([(1, [6, 2, 4], [], 0), (5000, [0, 1, 2, 3, 4, 5], [0, 1], 85), (0, [0], [], 285), (0, [1], [], 285), (90, [2], [], 0), (91, [2], [], 2000), (90, [3], [], -2147483648), (91, [3], [], 2147483647), (90, [4], [], 0), (91, [4], [], 2000)], (2208, [1, 6], [1], 0))
theorem c_214_85_0 {q0 : Nat} : vOkm T0 (eP e_214 L_214 A_214 mu_214 (some q0)) 1 g_214_85_0 := vOk_inI fun ρ η f0 f1 f2 f3 f4 f5 f6 f7 f8 f9 => q_214_22 (q0 := q0) (n0 := ρ 4) (n1 := ρ 3) (n2 := ρ 2) (n3 := ρ 1) (n4 := ρ 0) (n5 := ρ 5) (n6 := ρ 6) (H0 := η 0) (H1 := η 1) f9 f8 f7 f6 f5 f4 f3 f2 f1 f0
theorem q_214_23 {q0 : Nat} {n0 n1 n2 n3 n4 n5 n6 n7 n8 n9 n10 n11 n12 : Int} {H0 H1 H2 H3 : gH} (f0 : n0 ≤ 2000) (f1 : 0 ≤ n0) (f2 : n1 ≤ 2147483647) (f3 : (-2147483648) ≤ n1) (f4 : n2 ≤ 2000) (f5 : 0 ≤ n2) (f6 : n3 = 285) (f7 : n4 = 285) (f8 : (hLe T0 H0 H1 ∧ hFr s_214.2.2.2.2 H0 H1 ∧ hWt T0 H1) ∧ (Ab_214_85 n4 n3 n2 n1 n0 n5 H0 H1 ∧ True) ∧ some q0 = some (mub_214_85 n4 n3 n2 n1 n0 n5 H0 H1)) (f9 : n6 = w32 (n2 + n0)) (f10 : n7 ≤ 255) (f11 : 0 ≤ n7) (f12 : (hLe T0 H1 H2 ∧ hFr s_208.2.2.2.2 H1 H2 ∧ ((0 : Int) = 0 → H2.length = H1.length) ∧ hWt T0 H2) ∧ postb_208 n7 n3 n6 H1 H2) (f13 : n8 ≤ 1) (f14 : 0 ≤ n8) (f15 : (hLe T0 H2 H3 ∧ hFr s_210.2.2.2.2 H2 H3 ∧ ((0 : Int) = 0 → H3.length = H2.length) ∧ hWt T0 H3) ∧ postb_210 n8 n7 H2 H3) (f16 : n8 = 0) (f17 : n9 = 8) (f18 : n0 ≤ n9) (f19 : n10 = 1) (f20 : n11 = 7) (f21 : n11 < n0) (f22 : n12 = 0) : preb_213 n3 n10 n2 n12 n5 H3 := by
  have g4 := f8.2.1.1
  unfold Ab_214_85 at g4
  unfold postb_208 at f12
  unfold postb_210 at f15
  unfold preb_213
  have e1 : hV H1 285 4 = hV H0 285 4 := (f8.1.2.1.1 285 4 kF_214_285_4)
  have e3 : hV H2 285 4 = hV H0 285 4 := ((f12.1.2.1.1 285 4 kF_208_285_4)).trans (f8.1.2.1.1 285 4 kF_214_285_4)
  have e6 : hV H2 287 = hV H0 287 := (fRow f12.1.2.1 287 kR_208_287).trans (fRow f8.1.2.1 287 kR_214_287)
  have e9 : hV H3 285 10 = hV H1 285 10 := ((f15.1.2.1.1 285 10 kF_210_285_10)).trans (f12.1.2.1.1 285 10 kF_208_285_10)
  have e10 : (0 : Int) ≤ hV H1 285 10 ∧ hV H1 285 10 ≤ 501 := f8.1.2.2 285 10 _ _ kW_285_10
  have e11 : (0 : Int) ≤ hV H0 285 4 ∧ hV H0 285 4 ≤ 2000 := bTo e1 (f8.1.2.2 285 4 _ _ kW_285_4)
  try simp only [e9]
  have y0 := g4.1
  have y1 := g4.2
  have r0_0 := f12.2.1
  have r0_1 := f12.2.2
  have r1_0 := f15.2
  try simp only [e1] at y0
  try simp only [e3, e6] at r0_0
  try simp only [e3] at r0_1
  clear g4
  clear e1 e3 e6 e9
  clear f8 f12 f15
  unfold w32 at f9
  first | assumption | (first | lia | omega) | trivial
def g_214_85_1 : vG := ([(0, [12], [], 0), (44, [4, 11], [], 0), (0, [11], [], 7), (0, [10], [], 1), (45, [4, 9], [], 0), (0, [9], [], 8), (30, [8], [], 0), (1210, [8, 7], [2, 3], 0), (90, [8], [], 0), (91, [8], [], 1), (1208, [7, 1, 6], [1, 2], 0), (90, [7], [], 0), (91, [7], [], 255), (1, [6, 2, 4], [], 0), (5000, [0, 1, 2, 3, 4, 5], [0, 1], 85), (0, [0], [], 285), (0, [1], [], 285), (90, [2], [], 0), (91, [2], [], 2000), (90, [3], [], -2147483648), (91, [3], [], 2147483647), (90, [4], [], 0), (91, [4], [], 2000)], (2213, [1, 10, 2, 12, 5], [3], 0))
theorem c_214_85_1 {q0 : Nat} : vOkm T0 (eP e_214 L_214 A_214 mu_214 (some q0)) 1 g_214_85_1 := vOk_inI fun ρ η f0 f1 f2 f3 f4 f5 f6 f7 f8 f9 f10 f11 f12 f13 f14 f15 f16 f17 f18 f19 f20 f21 f22 => q_214_23 (q0 := q0) (n0 := ρ 4) (n1 := ρ 3) (n2 := ρ 2) (n3 := ρ 1) (n4 := ρ 0) (n5 := ρ 5) (n6 := ρ 6) (n7 := ρ 7) (n8 := ρ 8) (n9 := ρ 9) (n10 := ρ 10) (n11 := ρ 11) (n12 := ρ 12) (H0 := η 0) (H1 := η 1) (H2 := η 2) (H3 := η 3) f22 f21 f20 f19 f18 f17 f16 f15 f14 f13 f12 f11 f10 f9 f8 f7 f6 f5 f4 f3 f2 f1 f0
theorem q_214_24 {q0 : Nat} {n0 n1 n2 n3 n4 n5 n6 n7 n8 n9 n10 n11 n12 n13 : Int} {H0 H1 H2 H3 H4 : gH} (f0 : n0 ≤ 2000) (f1 : 0 ≤ n0) (f2 : n1 ≤ 2147483647) (f3 : (-2147483648) ≤ n1) (f4 : n2 ≤ 2000) (f5 : 0 ≤ n2) (f6 : n3 = 285) (f7 : n4 = 285) (f8 : (hLe T0 H0 H1 ∧ hFr s_214.2.2.2.2 H0 H1 ∧ hWt T0 H1) ∧ (Ab_214_85 n4 n3 n2 n1 n0 n5 H0 H1 ∧ True) ∧ some q0 = some (mub_214_85 n4 n3 n2 n1 n0 n5 H0 H1)) (f9 : n6 = w32 (n2 + n0)) (f10 : n7 ≤ 255) (f11 : 0 ≤ n7) (f12 : (hLe T0 H1 H2 ∧ hFr s_208.2.2.2.2 H1 H2 ∧ ((0 : Int) = 0 → H2.length = H1.length) ∧ hWt T0 H2) ∧ postb_208 n7 n3 n6 H1 H2) (f13 : n8 ≤ 1) (f14 : 0 ≤ n8) (f15 : (hLe T0 H2 H3 ∧ hFr s_210.2.2.2.2 H2 H3 ∧ ((0 : Int) = 0 → H3.length = H2.length) ∧ hWt T0 H3) ∧ postb_210 n8 n7 H2 H3) (f16 : n8 = 0) (f17 : n9 = 8) (f18 : n0 ≤ n9) (f19 : n10 = 1) (f20 : n11 = 7) (f21 : n11 < n0) (f22 : n12 = 0) (f23 : (hLe T0 H3 H4 ∧ hFr s_213.2.2.2.2 H3 H4 ∧ ((0 : Int) = 0 → H4.length = H3.length) ∧ hWt T0 H4) ∧ postb_213 n3 n10 n2 n12 n5 H3 H4) (f24 : n13 = w32 (n2 + n0)) : 0 ≤ n13 := by
  have g4 := f8.2.1.1
  unfold Ab_214_85 at g4
  have sm24 : n6 = n13 := f9.trans f24.symm
  subst sm24
  unfold postb_208 at f12
  unfold postb_210 at f15
  unfold postb_213 at f23
  have e1 : hV H1 285 4 = hV H0 285 4 := (f8.1.2.1.1 285 4 kF_214_285_4)
  have e3 : hV H2 285 4 = hV H0 285 4 := ((f12.1.2.1.1 285 4 kF_208_285_4)).trans (f8.1.2.1.1 285 4 kF_214_285_4)
  have e6 : hV H2 287 = hV H0 287 := (fRow f12.1.2.1 287 kR_208_287).trans (fRow f8.1.2.1 287 kR_214_287)
  have e9 : hV H3 285 10 = hV H1 285 10 := ((f15.1.2.1.1 285 10 kF_210_285_10)).trans (f12.1.2.1.1 285 10 kF_208_285_10)
  have e10 : (0 : Int) ≤ hV H1 285 10 ∧ hV H1 285 10 ≤ 501 := f8.1.2.2 285 10 _ _ kW_285_10
  have e11 : (0 : Int) ≤ hV H0 285 4 ∧ hV H0 285 4 ≤ 2000 := bTo e1 (f8.1.2.2 285 4 _ _ kW_285_4)
  have e14 : (0 : Int) ≤ hV H4 285 10 ∧ hV H4 285 10 ≤ 501 := f23.1.2.2.2 285 10 _ _ kW_285_10
  have y0 := g4.1
  have y1 := g4.2
  have r0_0 := f12.2.1
  have r0_1 := f12.2.2
  have r1_0 := f15.2
  have r2_0 := f23.2
  try simp only [e1] at y0
  try simp only [e3, e6] at r0_0
  try simp only [e3] at r0_1
  try simp only [e9] at r2_0
  clear g4
  clear e1 e3 e6 e9
  clear f8 f12 f15 f23
  first
  | (have ix0 : n6 = n2 + n0 := Eq.trans f9 (w32_id (by (first | lia | omega)) (by (first | lia | omega))); subst ix0; clear f9)
  | (unfold w32 at f9; have ix0 : n6 = n2 + n0 := (by (first | lia | omega)); subst ix0)
  | skip
  try unfold w32 at f9
  try unfold w32 at f24
  (first | lia | omega)
def g_214_85_2 : vG := ([(1, [13, 2, 4], [], 0), (1213, [1, 10, 2, 12, 5], [3, 4], 0), (0, [12], [], 0), (44, [4, 11], [], 0), (0, [11], [], 7), (0, [10], [], 1), (45, [4, 9], [], 0), (0, [9], [], 8), (30, [8], [], 0), (1210, [8, 7], [2, 3], 0), (90, [8], [], 0), (91, [8], [], 1), (1208, [7, 1, 6], [1, 2], 0), (90, [7], [], 0), (91, [7], [], 255), (1, [6, 2, 4], [], 0), (5000, [0, 1, 2, 3, 4, 5], [0, 1], 85), (0, [0], [], 285), (0, [1], [], 285), (90, [2], [], 0), (91, [2], [], 2000), (90, [3], [], -2147483648), (91, [3], [], 2147483647), (90, [4], [], 0), (91, [4], [], 2000)], (90, [13], [], 0))
theorem c_214_85_2 {q0 : Nat} : vOkm T0 (eP e_214 L_214 A_214 mu_214 (some q0)) 1 g_214_85_2 := vOk_inI fun ρ η f0 f1 f2 f3 f4 f5 f6 f7 f8 f9 f10 f11 f12 f13 f14 f15 f16 f17 f18 f19 f20 f21 f22 f23 f24 => q_214_24 (q0 := q0) (n0 := ρ 4) (n1 := ρ 3) (n2 := ρ 2) (n3 := ρ 1) (n4 := ρ 0) (n5 := ρ 5) (n6 := ρ 6) (n7 := ρ 7) (n8 := ρ 8) (n9 := ρ 9) (n10 := ρ 10) (n11 := ρ 11) (n12 := ρ 12) (n13 := ρ 13) (H0 := η 0) (H1 := η 1) (H2 := η 2) (H3 := η 3) (H4 := η 4) f24 f23 f22 f21 f20 f19 f18 f17 f16 f15 f14 f13 f12 f11 f10 f9 f8 f7 f6 f5 f4 f3 f2 f1 f0
theorem q_214_25 {q0 : Nat} {n0 n1 n2 n3 n4 n5 n6 n7 n8 n9 n10 n11 n12 n13 : Int} {H0 H1 H2 H3 H4 : gH} (f0 : n0 ≤ 2000) (f1 : 0 ≤ n0) (f2 : n1 ≤ 2147483647) (f3 : (-2147483648) ≤ n1) (f4 : n2 ≤ 2000) (f5 : 0 ≤ n2) (f6 : n3 = 285) (f7 : n4 = 285) (f8 : (hLe T0 H0 H1 ∧ hFr s_214.2.2.2.2 H0 H1 ∧ hWt T0 H1) ∧ (Ab_214_85 n4 n3 n2 n1 n0 n5 H0 H1 ∧ True) ∧ some q0 = some (mub_214_85 n4 n3 n2 n1 n0 n5 H0 H1)) (f9 : n6 = w32 (n2 + n0)) (f10 : n7 ≤ 255) (f11 : 0 ≤ n7) (f12 : (hLe T0 H1 H2 ∧ hFr s_208.2.2.2.2 H1 H2 ∧ ((0 : Int) = 0 → H2.length = H1.length) ∧ hWt T0 H2) ∧ postb_208 n7 n3 n6 H1 H2) (f13 : n8 ≤ 1) (f14 : 0 ≤ n8) (f15 : (hLe T0 H2 H3 ∧ hFr s_210.2.2.2.2 H2 H3 ∧ ((0 : Int) = 0 → H3.length = H2.length) ∧ hWt T0 H3) ∧ postb_210 n8 n7 H2 H3) (f16 : n8 = 0) (f17 : n9 = 8) (f18 : n0 ≤ n9) (f19 : n10 = 1) (f20 : n11 = 7) (f21 : n11 < n0) (f22 : n12 = 0) (f23 : (hLe T0 H3 H4 ∧ hFr s_213.2.2.2.2 H3 H4 ∧ ((0 : Int) = 0 → H4.length = H3.length) ∧ hWt T0 H4) ∧ postb_213 n3 n10 n2 n12 n5 H3 H4) (f24 : n13 = w32 (n2 + n0)) : n13 ≤ 2000 := by
  have g4 := f8.2.1.1
  unfold Ab_214_85 at g4
  have sm24 : n6 = n13 := f9.trans f24.symm
  subst sm24
  unfold postb_208 at f12
  unfold postb_210 at f15
  unfold postb_213 at f23
  have e1 : hV H1 285 4 = hV H0 285 4 := (f8.1.2.1.1 285 4 kF_214_285_4)
  have e3 : hV H2 285 4 = hV H0 285 4 := ((f12.1.2.1.1 285 4 kF_208_285_4)).trans (f8.1.2.1.1 285 4 kF_214_285_4)
  have e6 : hV H2 287 = hV H0 287 := (fRow f12.1.2.1 287 kR_208_287).trans (fRow f8.1.2.1 287 kR_214_287)
  have e9 : hV H3 285 10 = hV H1 285 10 := ((f15.1.2.1.1 285 10 kF_210_285_10)).trans (f12.1.2.1.1 285 10 kF_208_285_10)
  have e10 : (0 : Int) ≤ hV H1 285 10 ∧ hV H1 285 10 ≤ 501 := f8.1.2.2 285 10 _ _ kW_285_10
  have e11 : (0 : Int) ≤ hV H0 285 4 ∧ hV H0 285 4 ≤ 2000 := bTo e1 (f8.1.2.2 285 4 _ _ kW_285_4)
  have e14 : (0 : Int) ≤ hV H4 285 10 ∧ hV H4 285 10 ≤ 501 := f23.1.2.2.2 285 10 _ _ kW_285_10
  have y0 := g4.1
  have y1 := g4.2
  have r0_0 := f12.2.1
  have r0_1 := f12.2.2
  have r1_0 := f15.2
  have r2_0 := f23.2
  try simp only [e1] at y0
  try simp only [e3, e6] at r0_0
  try simp only [e3] at r0_1
  try simp only [e9] at r2_0
  clear g4
  clear e1 e3 e6 e9
  clear f8 f12 f15 f23
  first
  | (have ix0 : n6 = n2 + n0 := Eq.trans f9 (w32_id (by (first | lia | omega)) (by (first | lia | omega))); subst ix0; clear f9)
  | (unfold w32 at f9; have ix0 : n6 = n2 + n0 := (by (first | lia | omega)); subst ix0)
  | skip
  try unfold w32 at f9
  try unfold w32 at f24
  (first | lia | omega)
def g_214_85_3 : vG := ([(1, [13, 2, 4], [], 0), (1213, [1, 10, 2, 12, 5], [3, 4], 0), (0, [12], [], 0), (44, [4, 11], [], 0), (0, [11], [], 7), (0, [10], [], 1), (45, [4, 9], [], 0), (0, [9], [], 8), (30, [8], [], 0), (1210, [8, 7], [2, 3], 0), (90, [8], [], 0), (91, [8], [], 1), (1208, [7, 1, 6], [1, 2], 0), (90, [7], [], 0), (91, [7], [], 255), (1, [6, 2, 4], [], 0), (5000, [0, 1, 2, 3, 4, 5], [0, 1], 85), (0, [0], [], 285), (0, [1], [], 285), (90, [2], [], 0), (91, [2], [], 2000), (90, [3], [], -2147483648), (91, [3], [], 2147483647), (90, [4], [], 0), (91, [4], [], 2000)], (91, [13], [], 2000))
theorem c_214_85_3 {q0 : Nat} : vOkm T0 (eP e_214 L_214 A_214 mu_214 (some q0)) 1 g_214_85_3 := vOk_inI fun ρ η f0 f1 f2 f3 f4 f5 f6 f7 f8 f9 f10 f11 f12 f13 f14 f15 f16 f17 f18 f19 f20 f21 f22 f23 f24 => q_214_25 (q0 := q0) (n0 := ρ 4) (n1 := ρ 3) (n2 := ρ 2) (n3 := ρ 1) (n4 := ρ 0) (n5 := ρ 5) (n6 := ρ 6) (n7 := ρ 7) (n8 := ρ 8) (n9 := ρ 9) (n10 := ρ 10) (n11 := ρ 11) (n12 := ρ 12) (n13 := ρ 13) (H0 := η 0) (H1 := η 1) (H2 := η 2) (H3 := η 3) (H4 := η 4) f24 f23 f22 f21 f20 f19 f18 f17 f16 f15 f14 f13 f12 f11 f10 f9 f8 f7 f6 f5 f4 f3 f2 f1 f0
theorem kF_213_285_4 : vFree s_213.2.2.2.2 285 4 = true := by decide +kernel
theorem q_214_26 {q0 : Nat} {n0 n1 n2 n3 n4 n5 n6 n7 n8 n9 n10 n11 n12 n13 : Int} {H0 H1 H2 H3 H4 : gH} (f0 : n0 ≤ 2000) (f1 : 0 ≤ n0) (f2 : n1 ≤ 2147483647) (f3 : (-2147483648) ≤ n1) (f4 : n2 ≤ 2000) (f5 : 0 ≤ n2) (f6 : n3 = 285) (f7 : n4 = 285) (f8 : (hLe T0 H0 H1 ∧ hFr s_214.2.2.2.2 H0 H1 ∧ hWt T0 H1) ∧ (Ab_214_85 n4 n3 n2 n1 n0 n5 H0 H1 ∧ True) ∧ some q0 = some (mub_214_85 n4 n3 n2 n1 n0 n5 H0 H1)) (f9 : n6 = w32 (n2 + n0)) (f10 : n7 ≤ 255) (f11 : 0 ≤ n7) (f12 : (hLe T0 H1 H2 ∧ hFr s_208.2.2.2.2 H1 H2 ∧ ((0 : Int) = 0 → H2.length = H1.length) ∧ hWt T0 H2) ∧ postb_208 n7 n3 n6 H1 H2) (f13 : n8 ≤ 1) (f14 : 0 ≤ n8) (f15 : (hLe T0 H2 H3 ∧ hFr s_210.2.2.2.2 H2 H3 ∧ ((0 : Int) = 0 → H3.length = H2.length) ∧ hWt T0 H3) ∧ postb_210 n8 n7 H2 H3) (f16 : n8 = 0) (f17 : n9 = 8) (f18 : n0 ≤ n9) (f19 : n10 = 1) (f20 : n11 = 7) (f21 : n11 < n0) (f22 : n12 = 0) (f23 : (hLe T0 H3 H4 ∧ hFr s_213.2.2.2.2 H3 H4 ∧ ((0 : Int) = 0 → H4.length = H3.length) ∧ hWt T0 H4) ∧ postb_213 n3 n10 n2 n12 n5 H3 H4) (f24 : n13 = w32 (n2 + n0)) : Ab_214_7 n4 n3 n13 H0 H4 ∧ ∀ q, some q0 = some q → mub_214_7 n4 n3 n13 H0 H4 < q := by
  have g4 := f8.2.1.1
  unfold Ab_214_85 at g4
  have g5 := Option.some.inj f8.2.2
  unfold mub_214_85 at g5
  have sm24 : n6 = n13 := f9.trans f24.symm
  subst sm24
  unfold postb_208 at f12
  unfold postb_210 at f15
  unfold postb_213 at f23
  unfold Ab_214_7
  unfold mub_214_7
  have e1 : hV H1 285 4 = hV H0 285 4 := (f8.1.2.1.1 285 4 kF_214_285_4)
  have e3 : hV H2 285 4 = hV H0 285 4 := ((f12.1.2.1.1 285 4 kF_208_285_4)).trans (f8.1.2.1.1 285 4 kF_214_285_4)
  have e6 : hV H2 287 = hV H0 287 := (fRow f12.1.2.1 287 kR_208_287).trans (fRow f8.1.2.1 287 kR_214_287)
  have e9 : hV H3 285 10 = hV H1 285 10 := ((f15.1.2.1.1 285 10 kF_210_285_10)).trans (f12.1.2.1.1 285 10 kF_208_285_10)
  have e12 : hV H4 285 4 = hV H0 285 4 := ((f23.1.2.1.1 285 4 kF_213_285_4)).trans (((f15.1.2.1.1 285 4 kF_210_285_4)).trans (((f12.1.2.1.1 285 4 kF_208_285_4)).trans (f8.1.2.1.1 285 4 kF_214_285_4)))
  have e13 : (0 : Int) ≤ hV H1 285 10 ∧ hV H1 285 10 ≤ 501 := f8.1.2.2 285 10 _ _ kW_285_10
  have e14 : (0 : Int) ≤ hV H0 285 4 ∧ hV H0 285 4 ≤ 2000 := bTo e1 (f8.1.2.2 285 4 _ _ kW_285_4)
  have e17 : (0 : Int) ≤ hV H4 285 10 ∧ hV H4 285 10 ≤ 501 := f23.1.2.2.2 285 10 _ _ kW_285_10
  try simp only [e12]
  have y0 := g4.1
  have y1 := g4.2
  have r0_0 := f12.2.1
  have r0_1 := f12.2.2
  have r1_0 := f15.2
  have r2_0 := f23.2
  try simp only [e1] at y0
  try simp only [e3, e6] at r0_0
  try simp only [e3] at r0_1
  try simp only [e9] at r2_0
  clear g4
  clear e1 e3 e6 e9 e12
  clear f8 f12 f15 f23
  first
  | (have ix0 : n6 = n2 + n0 := Eq.trans f9 (w32_id (by (first | lia | omega)) (by (first | lia | omega))); subst ix0; clear f9)
  | (unfold w32 at f9; have ix0 : n6 = n2 + n0 := (by (first | lia | omega)); subst ix0)
  | skip
  try unfold w32 at f9
  try unfold w32 at f24
  refine ⟨?_, fun q hq => ?_⟩
  · first | assumption | (first | lia | omega) | trivial
  · have g6 := Option.some.inj hq
    subst g6
    (first | lia | omega)
def g_214_85_4 : vG := ([(1, [13, 2, 4], [], 0), (1213, [1, 10, 2, 12, 5], [3, 4], 0), (0, [12], [], 0), (44, [4, 11], [], 0), (0, [11], [], 7), (0, [10], [], 1), (45, [4, 9], [], 0), (0, [9], [], 8), (30, [8], [], 0), (1210, [8, 7], [2, 3], 0), (90, [8], [], 0), (91, [8], [], 1), (1208, [7, 1, 6], [1, 2], 0), (90, [7], [], 0), (91, [7], [], 255), (1, [6, 2, 4], [], 0), (5000, [0, 1, 2, 3, 4, 5], [0, 1], 85), (0, [0], [], 285), (0, [1], [], 285), (90, [2], [], 0), (91, [2], [], 2000), (90, [3], [], -2147483648), (91, [3], [], 2147483647), (90, [4], [], 0), (91, [4], [], 2000)], (4000, [1, 13], [4], 7))
theorem c_214_85_4 {q0 : Nat} : vOkm T0 (eP e_214 L_214 A_214 mu_214 (some q0)) 1 g_214_85_4 := vOk_inI fun ρ η f0 f1 f2 f3 f4 f5 f6 f7 f8 f9 f10 f11 f12 f13 f14 f15 f16 f17 f18 f19 f20 f21 f22 f23 f24 => q_214_26 (q0 := q0) (n0 := ρ 4) (n1 := ρ 3) (n2 := ρ 2) (n3 := ρ 1) (n4 := ρ 0) (n5 := ρ 5) (n6 := ρ 6) (n7 := ρ 7) (n8 := ρ 8) (n9 := ρ 9) (n10 := ρ 10) (n11 := ρ 11) (n12 := ρ 12) (n13 := ρ 13) (H0 := η 0) (H1 := η 1) (H2 := η 2) (H3 := η 3) (H4 := η 4) f24 f23 f22 f21 f20 f19 f18 f17 f16 f15 f14 f13 f12 f11 f10 f9 f8 f7 f6 f5 f4 f3 f2 f1 f0
theorem q_214_27 {q0 : Nat} {n0 n1 n2 n3 n4 n5 n6 n7 n8 n9 n10 n11 n12 : Int} {H0 H1 H2 H3 : gH} (f0 : n0 ≤ 2000) (f1 : 0 ≤ n0) (f2 : n1 ≤ 2147483647) (f3 : (-2147483648) ≤ n1) (f4 : n2 ≤ 2000) (f5 : 0 ≤ n2) (f6 : n3 = 285) (f7 : n4 = 285) (f8 : (hLe T0 H0 H1 ∧ hFr s_214.2.2.2.2 H0 H1 ∧ hWt T0 H1) ∧ (Ab_214_85 n4 n3 n2 n1 n0 n5 H0 H1 ∧ True) ∧ some q0 = some (mub_214_85 n4 n3 n2 n1 n0 n5 H0 H1)) (f9 : n6 = w32 (n2 + n0)) (f10 : n7 ≤ 255) (f11 : 0 ≤ n7) (f12 : (hLe T0 H1 H2 ∧ hFr s_208.2.2.2.2 H1 H2 ∧ ((0 : Int) = 0 → H2.length = H1.length) ∧ hWt T0 H2) ∧ postb_208 n7 n3 n6 H1 H2) (f13 : n8 ≤ 1) (f14 : 0 ≤ n8) (f15 : (hLe T0 H2 H3 ∧ hFr s_210.2.2.2.2 H2 H3 ∧ ((0 : Int) = 0 → H3.length = H2.length) ∧ hWt T0 H3) ∧ postb_210 n8 n7 H2 H3) (f16 : n8 = 0) (f17 : n9 = 8) (f18 : n0 ≤ n9) (f19 : n10 = 1) (f20 : n11 = 7) (f21 : n0 ≤ n11) (f22 : n12 = 0) : Ab_214_146 n4 n3 n2 n1 n0 n5 n10 n12 H0 H3 ∧ ∀ q, some q0 = some q → mub_214_146 n4 n3 n2 n1 n0 n5 n10 n12 H0 H3 < q := by
  have g4 := f8.2.1.1
  unfold Ab_214_85 at g4
  have g5 := Option.some.inj f8.2.2
  unfold mub_214_85 at g5
  unfold postb_208 at f12
  unfold postb_210 at f15
  unfold Ab_214_146
  unfold mub_214_146
  have e1 : hV H1 285 4 = hV H0 285 4 := (f8.1.2.1.1 285 4 kF_214_285_4)
  have e3 : hV H2 285 4 = hV H0 285 4 := ((f12.1.2.1.1 285 4 kF_208_285_4)).trans (f8.1.2.1.1 285 4 kF_214_285_4)
  have e6 : hV H2 287 = hV H0 287 := (fRow f12.1.2.1 287 kR_208_287).trans (fRow f8.1.2.1 287 kR_214_287)
  have e9 : hV H3 285 10 = hV H1 285 10 := ((f15.1.2.1.1 285 10 kF_210_285_10)).trans (f12.1.2.1.1 285 10 kF_208_285_10)
  have e11 : hV H3 285 4 = hV H0 285 4 := ((f15.1.2.1.1 285 4 kF_210_285_4)).trans (((f12.1.2.1.1 285 4 kF_208_285_4)).trans (f8.1.2.1.1 285 4 kF_214_285_4))
  have e12 : (0 : Int) ≤ hV H1 285 10 ∧ hV H1 285 10 ≤ 501 := f8.1.2.2 285 10 _ _ kW_285_10
  have e13 : (0 : Int) ≤ hV H0 285 4 ∧ hV H0 285 4 ≤ 2000 := bTo e1 (f8.1.2.2 285 4 _ _ kW_285_4)
  try simp only [e9, e11]
  have y0 := g4.1
  have y1 := g4.2
  have r0_0 := f12.2.1
  have r0_1 := f12.2.2
  have r1_0 := f15.2
  try simp only [e1] at y0
  try simp only [e3, e6] at r0_0
  try simp only [e3] at r0_1
  clear g4
  clear e1 e3 e6 e9 e11
  clear f8 f12 f15
  unfold w32 at f9
  refine ⟨?_, fun q hq => ?_⟩
  · refine ⟨?_, ?_⟩ <;> first | assumption | (first | lia | omega) | trivial
  · have g6 := Option.some.inj hq
    subst g6
    (first | lia | omega)
def g_214_85_5 : vG := ([(0, [12], [], 0), (45, [4, 11], [], 0), (0, [11], [], 7), (0, [10], [], 1), (45, [4, 9], [], 0), (0, [9], [], 8), (30, [8], [], 0), (1210, [8, 7], [2, 3], 0), (90, [8], [], 0), (91, [8], [], 1), (1208, [7, 1, 6], [1, 2], 0), (90, [7], [], 0), (91, [7], [], 255), (1, [6, 2, 4], [], 0), (5000, [0, 1, 2, 3, 4, 5], [0, 1], 85), (0, [0], [], 285), (0, [1], [], 285), (90, [2], [], 0), (91, [2], [], 2000), (90, [3], [], -2147483648), (91, [3], [], 2147483647), (90, [4], [], 0), (91, [4], [], 2000)], (4000, [1, 2, 3, 4, 5, 10, 12], [3], 146))
theorem c_214_85_5 {q0 : Nat} : vOkm T0 (eP e_214 L_214 A_214 mu_214 (some q0)) 1 g_214_85_5 := vOk_inI fun ρ η f0 f1 f2 f3 f4 f5 f6 f7 f8 f9 f10 f11 f12 f13 f14 f15 f16 f17 f18 f19 f20 f21 f22 => q_214_27 (q0 := q0) (n0 := ρ 4) (n1 := ρ 3) (n2 := ρ 2) (n3 := ρ 1) (n4 := ρ 0) (n5 := ρ 5) (n6 := ρ 6) (n7 := ρ 7) (n8 := ρ 8) (n9 := ρ 9) (n10 := ρ 10) (n11 := ρ 11) (n12 := ρ 12) (H0 := η 0) (H1 := η 1) (H2 := η 2) (H3 := η 3) f22 f21 f20 f19 f18 f17 f16 f15 f14 f13 f12 f11 f10 f9 f8 f7 f6 f5 f4 f3 f2 f1 f0
theorem q_214_28 {q0 : Nat} {n0 n1 n2 n3 n4 n5 n6 n7 n8 n9 n10 n11 n12 : Int} {H0 H1 H2 H3 : gH} (f0 : n0 ≤ 2000) (f1 : 0 ≤ n0) (f2 : n1 ≤ 2147483647) (f3 : (-2147483648) ≤ n1) (f4 : n2 ≤ 2000) (f5 : 0 ≤ n2) (f6 : n3 = 285) (f7 : n4 = 285) (f8 : (hLe T0 H0 H1 ∧ hFr s_214.2.2.2.2 H0 H1 ∧ hWt T0 H1) ∧ (Ab_214_85 n4 n3 n2 n1 n0 n5 H0 H1 ∧ True) ∧ some q0 = some (mub_214_85 n4 n3 n2 n1 n0 n5 H0 H1)) (f9 : n6 = w32 (n2 + n0)) (f10 : n7 ≤ 255) (f11 : 0 ≤ n7) (f12 : (hLe T0 H1 H2 ∧ hFr s_208.2.2.2.2 H1 H2 ∧ ((0 : Int) = 0 → H2.length = H1.length) ∧ hWt T0 H2) ∧ postb_208 n7 n3 n6 H1 H2) (f13 : n8 ≤ 1) (f14 : 0 ≤ n8) (f15 : (hLe T0 H2 H3 ∧ hFr s_210.2.2.2.2 H2 H3 ∧ ((0 : Int) = 0 → H3.length = H2.length) ∧ hWt T0 H3) ∧ postb_210 n8 n7 H2 H3) (f16 : n8 = 0) (f17 : n9 = 8) (f18 : n9 < n0) (f19 : n10 = 3) (f20 : n11 = 7) (f21 : n11 < n0) (f22 : n12 = 0) : preb_213 n3 n10 n2 n12 n5 H3 := by
  have g4 := f8.2.1.1
  unfold Ab_214_85 at g4
  unfold postb_208 at f12
  unfold postb_210 at f15
  unfold preb_213
  have e1 : hV H1 285 4 = hV H0 285 4 := (f8.1.2.1.1 285 4 kF_214_285_4)
  have e3 : hV H2 285 4 = hV H0 285 4 := ((f12.1.2.1.1 285 4 kF_208_285_4)).trans (f8.1.2.1.1 285 4 kF_214_285_4)
  have e6 : hV H2 287 = hV H0 287 := (fRow f12.1.2.1 287 kR_208_287).trans (fRow f8.1.2.1 287 kR_214_287)
  have e9 : hV H3 285 10 = hV H1 285 10 := ((f15.1.2.1.1 285 10 kF_210_285_10)).trans (f12.1.2.1.1 285 10 kF_208_285_10)
  have e10 : (0 : Int) ≤ hV H1 285 10 ∧ hV H1 285 10 ≤ 501 := f8.1.2.2 285 10 _ _ kW_285_10
  have e11 : (0 : Int) ≤ hV H0 285 4 ∧ hV H0 285 4 ≤ 2000 := bTo e1 (f8.1.2.2 285 4 _ _ kW_285_4)
  try simp only [e9]
  have y0 := g4.1
  have y1 := g4.2
  have r0_0 := f12.2.1
  have r0_1 := f12.2.2
  have r1_0 := f15.2
  try simp only [e1] at y0
  try simp only [e3, e6] at r0_0
  try simp only [e3] at r0_1
  clear g4
  clear e1 e3 e6 e9
  clear f8 f12 f15
  unfold w32 at f9
  first | assumption | (first | lia | omega) | trivial
def g_214_85_6 : vG := ([(0, [12], [], 0), (44, [4, 11], [], 0), (0, [11], [], 7), (0, [10], [], 3), (44, [4, 9], [], 0), (0, [9], [], 8), (30, [8], [], 0), (1210, [8, 7], [2, 3], 0), (90, [8], [], 0), (91, [8], [], 1), (1208, [7, 1, 6], [1, 2], 0), (90, [7], [], 0), (91, [7], [], 255), (1, [6, 2, 4], [], 0), (5000, [0, 1, 2, 3, 4, 5], [0, 1], 85), (0, [0], [], 285), (0, [1], [], 285), (90, [2], [], 0), (91, [2], [], 2000), (90, [3], [], -2147483648), (91, [3], [], 2147483647), (90, [4], [], 0), (91, [4], [], 2000)], (2213, [1, 10, 2, 12, 5], [3], 0))
theorem c_214_85_6 {q0 : Nat} : vOkm T0 (eP e_214 L_214 A_214 mu_214 (some q0)) 1 g_214_85_6 := vOk_inI fun ρ η f0 f1 f2 f3 f4 f5 f6 f7 f8 f9 f10 f11 f12 f13 f14 f15 f16 f17 f18 f19 f20 f21 f22 => q_214_28 (q0 := q0) (n0 := ρ 4) (n1 := ρ 3) (n2 := ρ 2) (n3 := ρ 1) (n4 := ρ 0) (n5 := ρ 5) (n6 := ρ 6) (n7 := ρ 7) (n8 := ρ 8) (n9 := ρ 9) (n10 := ρ 10) (n11 := ρ 11) (n12 := ρ 12) (H0 := η 0) (H1 := η 1) (H2 := η 2) (H3 := η 3) f22 f21 f20 f19 f18 f17 f16 f15 f14 f13 f12 f11 f10 f9 f8 f7 f6 f5 f4 f3 f2 f1 f0
theorem q_214_29 {q0 : Nat} {n0 n1 n2 n3 n4 n5 n6 n7 n8 n9 n10 n11 n12 n13 : Int} {H0 H1 H2 H3 H4 : gH} (f0 : n0 ≤ 2000) (f1 : 0 ≤ n0) (f2 : n1 ≤ 2147483647) (f3 : (-2147483648) ≤ n1) (f4 : n2 ≤ 2000) (f5 : 0 ≤ n2) (f6 : n3 = 285) (f7 : n4 = 285) (f8 : (hLe T0 H0 H1 ∧ hFr s_214.2.2.2.2 H0 H1 ∧ hWt T0 H1) ∧ (Ab_214_85 n4 n3 n2 n1 n0 n5 H0 H1 ∧ True) ∧ some q0 = some (mub_214_85 n4 n3 n2 n1 n0 n5 H0 H1)) (f9 : n6 = w32 (n2 + n0)) (f10 : n7 ≤ 255) (f11 : 0 ≤ n7) (f12 : (hLe T0 H1 H2 ∧ hFr s_208.2.2.2.2 H1 H2 ∧ ((0 : Int) = 0 → H2.length = H1.length) ∧ hWt T0 H2) ∧ postb_208 n7 n3 n6 H1 H2) (f13 : n8 ≤ 1) (f14 : 0 ≤ n8) (f15 : (hLe T0 H2 H3 ∧ hFr s_210.2.2.2.2 H2 H3 ∧ ((0 : Int) = 0 → H3.length = H2.length) ∧ hWt T0 H3) ∧ postb_210 n8 n7 H2 H3) (f16 : n8 = 0) (f17 : n9 = 8) (f18 : n9 < n0) (f19 : n10 = 3) (f20 : n11 = 7) (f21 : n11 < n0) (f22 : n12 = 0) (f23 : (hLe T0 H3 H4 ∧ hFr s_213.2.2.2.2 H3 H4 ∧ ((0 : Int) = 0 → H4.length = H3.length) ∧ hWt T0 H4) ∧ postb_213 n3 n10 n2 n12 n5 H3 H4) (f24 : n13 = w32 (n2 + n0)) : 0 ≤ n13 := by
  have g4 := f8.2.1.1
  unfold Ab_214_85 at g4
  have sm24 : n6 = n13 := f9.trans f24.symm
  subst sm24
  unfold postb_208 at f12
  unfold postb_210 at f15
  unfold postb_213 at f23
  have e1 : hV H1 285 4 = hV H0 285 4 := (f8.1.2.1.1 285 4 kF_214_285_4)
  have e3 : hV H2 285 4 = hV H0 285 4 := ((f12.1.2.1.1 285 4 kF_208_285_4)).trans (f8.1.2.1.1 285 4 kF_214_285_4)
  have e6 : hV H2 287 = hV H0 287 := (fRow f12.1.2.1 287 kR_208_287).trans (fRow f8.1.2.1 287 kR_214_287)
  have e9 : hV H3 285 10 = hV H1 285 10 := ((f15.1.2.1.1 285 10 kF_210_285_10)).trans (f12.1.2.1.1 285 10 kF_208_285_10)
  have e10 : (0 : Int) ≤ hV H1 285 10 ∧ hV H1 285 10 ≤ 501 := f8.1.2.2 285 10 _ _ kW_285_10
  have e11 : (0 : Int) ≤ hV H0 285 4 ∧ hV H0 285 4 ≤ 2000 := bTo e1 (f8.1.2.2 285 4 _ _ kW_285_4)
  have e14 : (0 : Int) ≤ hV H4 285 10 ∧ hV H4 285 10 ≤ 501 := f23.1.2.2.2 285 10 _ _ kW_285_10
  have y0 := g4.1
  have y1 := g4.2
  have r0_0 := f12.2.1
  have r0_1 := f12.2.2
  have r1_0 := f15.2
  have r2_0 := f23.2
  try simp only [e1] at y0
  try simp only [e3, e6] at r0_0
  try simp only [e3] at r0_1
  try simp only [e9] at r2_0
  clear g4
  clear e1 e3 e6 e9
  clear f8 f12 f15 f23
  first
  | (have ix0 : n6 = n2 + n0 := Eq.trans f9 (w32_id (by (first | lia | omega)) (by (first | lia | omega))); subst ix0; clear f9)
  | (unfold w32 at f9; have ix0 : n6 = n2 + n0 := (by (first | lia | omega)); subst ix0)
  | skip
  try unfold w32 at f9
  try unfold w32 at f24
  (first | lia | omega)
def g_214_85_7 : vG := ([(1, [13, 2, 4], [], 0), (1213, [1, 10, 2, 12, 5], [3, 4], 0), (0, [12], [], 0), (44, [4, 11], [], 0), (0, [11], [], 7), (0, [10], [], 3), (44, [4, 9], [], 0), (0, [9], [], 8), (30, [8], [], 0), (1210, [8, 7], [2, 3], 0), (90, [8], [], 0), (91, [8], [], 1), (1208, [7, 1, 6], [1, 2], 0), (90, [7], [], 0), (91, [7], [], 255), (1, [6, 2, 4], [], 0), (5000, [0, 1, 2, 3, 4, 5], [0, 1], 85), (0, [0], [], 285), (0, [1], [], 285), (90, [2], [], 0), (91, [2], [], 2000), (90, [3], [], -2147483648), (91, [3], [], 2147483647), (90, [4], [], 0), (91, [4], [], 2000)], (90, [13], [], 0))
theorem c_214_85_7 {q0 : Nat} : vOkm T0 (eP e_214 L_214 A_214 mu_214 (some q0)) 1 g_214_85_7 := vOk_inI fun ρ η f0 f1 f2 f3 f4 f5 f6 f7 f8 f9 f10 f11 f12 f13 f14 f15 f16 f17 f18 f19 f20 f21 f22 f23 f24 => q_214_29 (q0 := q0) (n0 := ρ 4) (n1 := ρ 3) (n2 := ρ 2) (n3 := ρ 1) (n4 := ρ 0) (n5 := ρ 5) (n6 := ρ 6) (n7 := ρ 7) (n8 := ρ 8) (n9 := ρ 9) (n10 := ρ 10) (n11 := ρ 11) (n12 := ρ 12) (n13 := ρ 13) (H0 := η 0) (H1 := η 1) (H2 := η 2) (H3 := η 3) (H4 := η 4) f24 f23 f22 f21 f20 f19 f18 f17 f16 f15 f14 f13 f12 f11 f10 f9 f8 f7 f6 f5 f4 f3 f2 f1 f0
theorem q_214_30 {q0 : Nat} {n0 n1 n2 n3 n4 n5 n6 n7 n8 n9 n10 n11 n12 n13 : Int} {H0 H1 H2 H3 H4 : gH} (f0 : n0 ≤ 2000) (f1 : 0 ≤ n0) (f2 : n1 ≤ 2147483647) (f3 : (-2147483648) ≤ n1) (f4 : n2 ≤ 2000) (f5 : 0 ≤ n2) (f6 : n3 = 285) (f7 : n4 = 285) (f8 : (hLe T0 H0 H1 ∧ hFr s_214.2.2.2.2 H0 H1 ∧ hWt T0 H1) ∧ (Ab_214_85 n4 n3 n2 n1 n0 n5 H0 H1 ∧ True) ∧ some q0 = some (mub_214_85 n4 n3 n2 n1 n0 n5 H0 H1)) (f9 : n6 = w32 (n2 + n0)) (f10 : n7 ≤ 255) (f11 : 0 ≤ n7) (f12 : (hLe T0 H1 H2 ∧ hFr s_208.2.2.2.2 H1 H2 ∧ ((0 : Int) = 0 → H2.length = H1.length) ∧ hWt T0 H2) ∧ postb_208 n7 n3 n6 H1 H2) (f13 : n8 ≤ 1) (f14 : 0 ≤ n8) (f15 : (hLe T0 H2 H3 ∧ hFr s_210.2.2.2.2 H2 H3 ∧ ((0 : Int) = 0 → H3.length = H2.length) ∧ hWt T0 H3) ∧ postb_210 n8 n7 H2 H3) (f16 : n8 = 0) (f17 : n9 = 8) (f18 : n9 < n0) (f19 : n10 = 3) (f20 : n11 = 7) (f21 : n11 < n0) (f22 : n12 = 0) (f23 : (hLe T0 H3 H4 ∧ hFr s_213.2.2.2.2 H3 H4 ∧ ((0 : Int) = 0 → H4.length = H3.length) ∧ hWt T0 H4) ∧ postb_213 n3 n10 n2 n12 n5 H3 H4) (f24 : n13 = w32 (n2 + n0)) : n13 ≤ 2000 := by
  have g4 := f8.2.1.1
  unfold Ab_214_85 at g4
  have sm24 : n6 = n13 := f9.trans f24.symm
  subst sm24
  unfold postb_208 at f12
  unfold postb_210 at f15
  unfold postb_213 at f23
  have e1 : hV H1 285 4 = hV H0 285 4 := (f8.1.2.1.1 285 4 kF_214_285_4)
  have e3 : hV H2 285 4 = hV H0 285 4 := ((f12.1.2.1.1 285 4 kF_208_285_4)).trans (f8.1.2.1.1 285 4 kF_214_285_4)
  have e6 : hV H2 287 = hV H0 287 := (fRow f12.1.2.1 287 kR_208_287).trans (fRow f8.1.2.1 287 kR_214_287)
  have e9 : hV H3 285 10 = hV H1 285 10 := ((f15.1.2.1.1 285 10 kF_210_285_10)).trans (f12.1.2.1.1 285 10 kF_208_285_10)
  have e10 : (0 : Int) ≤ hV H1 285 10 ∧ hV H1 285 10 ≤ 501 := f8.1.2.2 285 10 _ _ kW_285_10
  have e11 : (0 : Int) ≤ hV H0 285 4 ∧ hV H0 285 4 ≤ 2000 := bTo e1 (f8.1.2.2 285 4 _ _ kW_285_4)
  have e14 : (0 : Int) ≤ hV H4 285 10 ∧ hV H4 285 10 ≤ 501 := f23.1.2.2.2 285 10 _ _ kW_285_10
  have y0 := g4.1
  have y1 := g4.2
  have r0_0 := f12.2.1
  have r0_1 := f12.2.2
  have r1_0 := f15.2
  have r2_0 := f23.2
  try simp only [e1] at y0
  try simp only [e3, e6] at r0_0
  try simp only [e3] at r0_1
  try simp only [e9] at r2_0
  clear g4
  clear e1 e3 e6 e9
  clear f8 f12 f15 f23
  first
  | (have ix0 : n6 = n2 + n0 := Eq.trans f9 (w32_id (by (first | lia | omega)) (by (first | lia | omega))); subst ix0; clear f9)
  | (unfold w32 at f9; have ix0 : n6 = n2 + n0 := (by (first | lia | omega)); subst ix0)
  | skip
  try unfold w32 at f9
  try unfold w32 at f24
  (first | lia | omega)
def g_214_85_8 : vG := ([(1, [13, 2, 4], [], 0), (1213, [1, 10, 2, 12, 5], [3, 4], 0), (0, [12], [], 0), (44, [4, 11], [], 0), (0, [11], [], 7), (0, [10], [], 3), (44, [4, 9], [], 0), (0, [9], [], 8), (30, [8], [], 0), (1210, [8, 7], [2, 3], 0), (90, [8], [], 0), (91, [8], [], 1), (1208, [7, 1, 6], [1, 2], 0), (90, [7], [], 0), (91, [7], [], 255), (1, [6, 2, 4], [], 0), (5000, [0, 1, 2, 3, 4, 5], [0, 1], 85), (0, [0], [], 285), (0, [1], [], 285), (90, [2], [], 0), (91, [2], [], 2000), (90, [3], [], -2147483648), (91, [3], [], 2147483647), (90, [4], [], 0), (91, [4], [], 2000)], (91, [13], [], 2000))
theorem c_214_85_8 {q0 : Nat} : vOkm T0 (eP e_214 L_214 A_214 mu_214 (some q0)) 1 g_214_85_8 := vOk_inI fun ρ η f0 f1 f2 f3 f4 f5 f6 f7 f8 f9 f10 f11 f12 f13 f14 f15 f16 f17 f18 f19 f20 f21 f22 f23 f24 => q_214_30 (q0 := q0) (n0 := ρ 4) (n1 := ρ 3) (n2 := ρ 2) (n3 := ρ 1) (n4 := ρ 0) (n5 := ρ 5) (n6 := ρ 6) (n7 := ρ 7) (n8 := ρ 8) (n9 := ρ 9) (n10 := ρ 10) (n11 := ρ 11) (n12 := ρ 12) (n13 := ρ 13) (H0 := η 0) (H1 := η 1) (H2 := η 2) (H3 := η 3) (H4 := η 4) f24 f23 f22 f21 f20 f19 f18 f17 f16 f15 f14 f13 f12 f11 f10 f9 f8 f7 f6 f5 f4 f3 f2 f1 f0
theorem q_214_31 {q0 : Nat} {n0 n1 n2 n3 n4 n5 n6 n7 n8 n9 n10 n11 n12 n13 : Int} {H0 H1 H2 H3 H4 : gH} (f0 : n0 ≤ 2000) (f1 : 0 ≤ n0) (f2 : n1 ≤ 2147483647) (f3 : (-2147483648) ≤ n1) (f4 : n2 ≤ 2000) (f5 : 0 ≤ n2) (f6 : n3 = 285) (f7 : n4 = 285) (f8 : (hLe T0 H0 H1 ∧ hFr s_214.2.2.2.2 H0 H1 ∧ hWt T0 H1) ∧ (Ab_214_85 n4 n3 n2 n1 n0 n5 H0 H1 ∧ True) ∧ some q0 = some (mub_214_85 n4 n3 n2 n1 n0 n5 H0 H1)) (f9 : n6 = w32 (n2 + n0)) (f10 : n7 ≤ 255) (f11 : 0 ≤ n7) (f12 : (hLe T0 H1 H2 ∧ hFr s_208.2.2.2.2 H1 H2 ∧ ((0 : Int) = 0 → H2.length = H1.length) ∧ hWt T0 H2) ∧ postb_208 n7 n3 n6 H1 H2) (f13 : n8 ≤ 1) (f14 : 0 ≤ n8) (f15 : (hLe T0 H2 H3 ∧ hFr s_210.2.2.2.2 H2 H3 ∧ ((0 : Int) = 0 → H3.length = H2.length) ∧ hWt T0 H3) ∧ postb_210 n8 n7 H2 H3) (f16 : n8 = 0) (f17 : n9 = 8) (f18 : n9 < n0) (f19 : n10 = 3) (f20 : n11 = 7) (f21 : n11 < n0) (f22 : n12 = 0) (f23 : (hLe T0 H3 H4 ∧ hFr s_213.2.2.2.2 H3 H4 ∧ ((0 : Int) = 0 → H4.length = H3.length) ∧ hWt T0 H4) ∧ postb_213 n3 n10 n2 n12 n5 H3 H4) (f24 : n13 = w32 (n2 + n0)) : Ab_214_7 n4 n3 n13 H0 H4 ∧ ∀ q, some q0 = some q → mub_214_7 n4 n3 n13 H0 H4 < q := by
  have g4 := f8.2.1.1
  unfold Ab_214_85 at g4
  have g5 := Option.some.inj f8.2.2
  unfold mub_214_85 at g5
  have sm24 : n6 = n13 := f9.trans f24.symm
  subst sm24
  unfold postb_208 at f12
  unfold postb_210 at f15
  unfold postb_213 at f23
  unfold Ab_214_7
  unfold mub_214_7
  have e1 : hV H1 285 4 = hV H0 285 4 := (f8.1.2.1.1 285 4 kF_214_285_4)
  have e3 : hV H2 285 4 = hV H0 285 4 := ((f12.1.2.1.1 285 4 kF_208_285_4)).trans (f8.1.2.1.1 285 4 kF_214_285_4)
  have e6 : hV H2 287 = hV H0 287 := (fRow f12.1.2.1 287 kR_208_287).trans (fRow f8.1.2.1 287 kR_214_287)
  have e9 : hV H3 285 10 = hV H1 285 10 := ((f15.1.2.1.1 285 10 kF_210_285_10)).trans (f12.1.2.1.1 285 10 kF_208_285_10)
  have e12 : hV H4 285 4 = hV H0 285 4 := ((f23.1.2.1.1 285 4 kF_213_285_4)).trans (((f15.1.2.1.1 285 4 kF_210_285_4)).trans (((f12.1.2.1.1 285 4 kF_208_285_4)).trans (f8.1.2.1.1 285 4 kF_214_285_4)))
  have e13 : (0 : Int) ≤ hV H1 285 10 ∧ hV H1 285 10 ≤ 501 := f8.1.2.2 285 10 _ _ kW_285_10
  have e14 : (0 : Int) ≤ hV H0 285 4 ∧ hV H0 285 4 ≤ 2000 := bTo e1 (f8.1.2.2 285 4 _ _ kW_285_4)
  have e17 : (0 : Int) ≤ hV H4 285 10 ∧ hV H4 285 10 ≤ 501 := f23.1.2.2.2 285 10 _ _ kW_285_10
  try simp only [e12]
  have y0 := g4.1
  have y1 := g4.2
  have r0_0 := f12.2.1
  have r0_1 := f12.2.2
  have r1_0 := f15.2
  have r2_0 := f23.2
  try simp only [e1] at y0
  try simp only [e3, e6] at r0_0
  try simp only [e3] at r0_1
  try simp only [e9] at r2_0
  clear g4
  clear e1 e3 e6 e9 e12
  clear f8 f12 f15 f23
  first
  | (have ix0 : n6 = n2 + n0 := Eq.trans f9 (w32_id (by (first | lia | omega)) (by (first | lia | omega))); subst ix0; clear f9)
  | (unfold w32 at f9; have ix0 : n6 = n2 + n0 := (by (first | lia | omega)); subst ix0)
  | skip
  try unfold w32 at f9
  try unfold w32 at f24
  refine ⟨?_, fun q hq => ?_⟩
  · first | assumption | (first | lia | omega) | trivial
  · have g6 := Option.some.inj hq
    subst g6
    (first | lia | omega)
def g_214_85_9 : vG := ([(1, [13, 2, 4], [], 0), (1213, [1, 10, 2, 12, 5], [3, 4], 0), (0, [12], [], 0), (44, [4, 11], [], 0), (0, [11], [], 7), (0, [10], [], 3), (44, [4, 9], [], 0), (0, [9], [], 8), (30, [8], [], 0), (1210, [8, 7], [2, 3], 0), (90, [8], [], 0), (91, [8], [], 1), (1208, [7, 1, 6], [1, 2], 0), (90, [7], [], 0), (91, [7], [], 255), (1, [6, 2, 4], [], 0), (5000, [0, 1, 2, 3, 4, 5], [0, 1], 85), (0, [0], [], 285), (0, [1], [], 285), (90, [2], [], 0), (91, [2], [], 2000), (90, [3], [], -2147483648), (91, [3], [], 2147483647), (90, [4], [], 0), (91, [4], [], 2000)], (4000, [1, 13], [4], 7))
theorem c_214_85_9 {q0 : Nat} : vOkm T0 (eP e_214 L_214 A_214 mu_214 (some q0)) 1 g_214_85_9 := vOk_inI fun ρ η f0 f1 f2 f3 f4 f5 f6 f7 f8 f9 f10 f11 f12 f13 f14 f15 f16 f17 f18 f19 f20 f21 f22 f23 f24 => q_214_31 (q0 := q0) (n0 := ρ 4) (n1 := ρ 3) (n2 := ρ 2) (n3 := ρ 1) (n4 := ρ 0) (n5 := ρ 5) (n6 := ρ 6) (n7 := ρ 7) (n8 := ρ 8) (n9 := ρ 9) (n10 := ρ 10) (n11 := ρ 11) (n12 := ρ 12) (n13 := ρ 13) (H0 := η 0) (H1 := η 1) (H2 := η 2) (H3 := η 3) (H4 := η 4) f24 f23 f22 f21 f20 f19 f18 f17 f16 f15 f14 f13 f12 f11 f10 f9 f8 f7 f6 f5 f4 f3 f2 f1 f0
theorem q_214_32 {q0 : Nat} {n0 n1 n2 n3 n4 n5 n6 n7 n8 n9 n10 n11 n12 : Int} {H0 H1 H2 H3 : gH} (f0 : n0 ≤ 2000) (f1 : 0 ≤ n0) (f2 : n1 ≤ 2147483647) (f3 : (-2147483648) ≤ n1) (f4 : n2 ≤ 2000) (f5 : 0 ≤ n2) (f6 : n3 = 285) (f7 : n4 = 285) (f8 : (hLe T0 H0 H1 ∧ hFr s_214.2.2.2.2 H0 H1 ∧ hWt T0 H1) ∧ (Ab_214_85 n4 n3 n2 n1 n0 n5 H0 H1 ∧ True) ∧ some q0 = some (mub_214_85 n4 n3 n2 n1 n0 n5 H0 H1)) (f9 : n6 = w32 (n2 + n0)) (f10 : n7 ≤ 255) (f11 : 0 ≤ n7) (f12 : (hLe T0 H1 H2 ∧ hFr s_208.2.2.2.2 H1 H2 ∧ ((0 : Int) = 0 → H2.length = H1.length) ∧ hWt T0 H2) ∧ postb_208 n7 n3 n6 H1 H2) (f13 : n8 ≤ 1) (f14 : 0 ≤ n8) (f15 : (hLe T0 H2 H3 ∧ hFr s_210.2.2.2.2 H2 H3 ∧ ((0 : Int) = 0 → H3.length = H2.length) ∧ hWt T0 H3) ∧ postb_210 n8 n7 H2 H3) (f16 : n8 = 0) (f17 : n9 = 8) (f18 : n9 < n0) (f19 : n10 = 3) (f20 : n11 = 7) (f21 : n0 ≤ n11) (f22 : n12 = 0) : Ab_214_146 n4 n3 n2 n1 n0 n5 n10 n12 H0 H3 ∧ ∀ q, some q0 = some q → mub_214_146 n4 n3 n2 n1 n0 n5 n10 n12 H0 H3 < q := by
  have g4 := f8.2.1.1
  unfold Ab_214_85 at g4
  have g5 := Option.some.inj f8.2.2
  unfold mub_214_85 at g5
  unfold postb_208 at f12
  unfold postb_210 at f15
  unfold Ab_214_146
  unfold mub_214_146
  have e1 : hV H1 285 4 = hV H0 285 4 := (f8.1.2.1.1 285 4 kF_214_285_4)
  have e3 : hV H2 285 4 = hV H0 285 4 := ((f12.1.2.1.1 285 4 kF_208_285_4)).trans (f8.1.2.1.1 285 4 kF_214_285_4)
  have e6 : hV H2 287 = hV H0 287 := (fRow f12.1.2.1 287 kR_208_287).trans (fRow f8.1.2.1 287 kR_214_287)
  have e9 : hV H3 285 10 = hV H1 285 10 := ((f15.1.2.1.1 285 10 kF_210_285_10)).trans (f12.1.2.1.1 285 10 kF_208_285_10)
  have e11 : hV H3 285 4 = hV H0 285 4 := ((f15.1.2.1.1 285 4 kF_210_285_4)).trans (((f12.1.2.1.1 285 4 kF_208_285_4)).trans (f8.1.2.1.1 285 4 kF_214_285_4))
  have e12 : (0 : Int) ≤ hV H1 285 10 ∧ hV H1 285 10 ≤ 501 := f8.1.2.2 285 10 _ _ kW_285_10
  have e13 : (0 : Int) ≤ hV H0 285 4 ∧ hV H0 285 4 ≤ 2000 := bTo e1 (f8.1.2.2 285 4 _ _ kW_285_4)
  try simp only [e9, e11]
  have y0 := g4.1
  have y1 := g4.2
  have r0_0 := f12.2.1
  have r0_1 := f12.2.2
  have r1_0 := f15.2
  try simp only [e1] at y0
  try simp only [e3, e6] at r0_0
  try simp only [e3] at r0_1
  clear g4
  clear e1 e3 e6 e9 e11
  clear f8 f12 f15
  unfold w32 at f9
  refine ⟨?_, fun q hq => ?_⟩
  · refine ⟨?_, ?_⟩ <;> first | assumption | (first | lia | omega) | trivial
  · have g6 := Option.some.inj hq
    subst g6
    (first | lia | omega)
def g_214_85_10 : vG := ([(0, [12], [], 0), (45, [4, 11], [], 0), (0, [11], [], 7), (0, [10], [], 3), (44, [4, 9], [], 0), (0, [9], [], 8), (30, [8], [], 0), (1210, [8, 7], [2, 3], 0), (90, [8], [], 0), (91, [8], [], 1), (1208, [7, 1, 6], [1, 2], 0), (90, [7], [], 0), (91, [7], [], 255), (1, [6, 2, 4], [], 0), (5000, [0, 1, 2, 3, 4, 5], [0, 1], 85), (0, [0], [], 285), (0, [1], [], 285), (90, [2], [], 0), (91, [2], [], 2000), (90, [3], [], -2147483648), (91, [3], [], 2147483647), (90, [4], [], 0), (91, [4], [], 2000)], (4000, [1, 2, 3, 4, 5, 10, 12], [3], 146))
theorem c_214_85_10 {q0 : Nat} : vOkm T0 (eP e_214 L_214 A_214 mu_214 (some q0)) 1 g_214_85_10 := vOk_inI fun ρ η f0 f1 f2 f3 f4 f5 f6 f7 f8 f9 f10 f11 f12 f13 f14 f15 f16 f17 f18 f19 f20 f21 f22 => q_214_32 (q0 := q0) (n0 := ρ 4) (n1 := ρ 3) (n2 := ρ 2) (n3 := ρ 1) (n4 := ρ 0) (n5 := ρ 5) (n6 := ρ 6) (n7 := ρ 7) (n8 := ρ 8) (n9 := ρ 9) (n10 := ρ 10) (n11 := ρ 11) (n12 := ρ 12) (H0 := η 0) (H1 := η 1) (H2 := η 2) (H3 := η 3) f22 f21 f20 f19 f18 f17 f16 f15 f14 f13 f12 f11 f10 f9 f8 f7 f6 f5 f4 f3 f2 f1 f0
theorem q_214_33 {q0 : Nat} {n0 n1 n2 n3 n4 n5 n6 n7 n8 n9 n10 : Int} {H0 H1 H2 H3 : gH} (f0 : n0 ≤ 2000) (f1 : 0 ≤ n0) (f2 : n1 ≤ 2147483647) (f3 : (-2147483648) ≤ n1) (f4 : n2 ≤ 2000) (f5 : 0 ≤ n2) (f6 : n3 = 285) (f7 : n4 = 285) (f8 : (hLe T0 H0 H1 ∧ hFr s_214.2.2.2.2 H0 H1 ∧ hWt T0 H1) ∧ (Ab_214_85 n4 n3 n2 n1 n0 n5 H0 H1 ∧ True) ∧ some q0 = some (mub_214_85 n4 n3 n2 n1 n0 n5 H0 H1)) (f9 : n6 = w32 (n2 + n0)) (f10 : n7 ≤ 255) (f11 : 0 ≤ n7) (f12 : (hLe T0 H1 H2 ∧ hFr s_208.2.2.2.2 H1 H2 ∧ ((0 : Int) = 0 → H2.length = H1.length) ∧ hWt T0 H2) ∧ postb_208 n7 n3 n6 H1 H2) (f13 : n8 ≤ 1) (f14 : 0 ≤ n8) (f15 : (hLe T0 H2 H3 ∧ hFr s_210.2.2.2.2 H2 H3 ∧ ((0 : Int) = 0 → H3.length = H2.length) ∧ hWt T0 H3) ∧ postb_210 n8 n7 H2 H3) (f16 : n8 ≠ 0) (f17 : n9 = 8) (f18 : n9 ≤ n0) (f19 : n10 = w32 (n0 + 1)) : 0 ≤ n10 := by
  have g4 := f8.2.1.1
  unfold Ab_214_85 at g4
  unfold postb_208 at f12
  unfold postb_210 at f15
  have e1 : hV H1 285 4 = hV H0 285 4 := (f8.1.2.1.1 285 4 kF_214_285_4)
  have e3 : hV H2 285 4 = hV H0 285 4 := ((f12.1.2.1.1 285 4 kF_208_285_4)).trans (f8.1.2.1.1 285 4 kF_214_285_4)
  have e6 : hV H2 287 = hV H0 287 := (fRow f12.1.2.1 287 kR_208_287).trans (fRow f8.1.2.1 287 kR_214_287)
  have e7 : (0 : Int) ≤ hV H1 285 10 ∧ hV H1 285 10 ≤ 501 := f8.1.2.2 285 10 _ _ kW_285_10
  have e8 : (0 : Int) ≤ hV H0 285 4 ∧ hV H0 285 4 ≤ 2000 := bTo e1 (f8.1.2.2 285 4 _ _ kW_285_4)
  have y0 := g4.1
  have y1 := g4.2
  have r0_0 := f12.2.1
  have r0_1 := f12.2.2
  have r1_0 := f15.2
  try simp only [e1] at y0
  try simp only [e3, e6] at r0_0
  try simp only [e3] at r0_1
  clear g4
  clear e1 e3 e6
  clear f8 f12 f15
  first
  | (have ix0 : n10 = n0 + 1 := Eq.trans f19 (w32_iv (Iad (Iat f1 f0) (IC 1)) (by decide)); subst ix0; clear f19)
  | (have ix0 : n10 = n0 + 1 := Eq.trans f19 (w32_id (by (first | lia | omega)) (by (first | lia | omega))); subst ix0; clear f19)
  | (unfold w32 at f19; have ix0 : n10 = n0 + 1 := (by (first | lia | omega)); subst ix0)
  | skip
  try unfold w32 at f9
  try unfold w32 at f19
  (first | lia | omega)
def g_214_85_11 : vG := ([(10, [10, 4], [], 1), (43, [4, 9], [], 0), (0, [9], [], 8), (31, [8], [], 0), (1210, [8, 7], [2, 3], 0), (90, [8], [], 0), (91, [8], [], 1), (1208, [7, 1, 6], [1, 2], 0), (90, [7], [], 0), (91, [7], [], 255), (1, [6, 2, 4], [], 0), (5000, [0, 1, 2, 3, 4, 5], [0, 1], 85), (0, [0], [], 285), (0, [1], [], 285), (90, [2], [], 0), (91, [2], [], 2000), (90, [3], [], -2147483648), (91, [3], [], 2147483647), (90, [4], [], 0), (91, [4], [], 2000)], (90, [10], [], 0))
theorem c_214_85_11 {q0 : Nat} : vOkm T0 (eP e_214 L_214 A_214 mu_214 (some q0)) 1 g_214_85_11 := vOk_inI fun ρ η f0 f1 f2 f3 f4 f5 f6 f7 f8 f9 f10 f11 f12 f13 f14 f15 f16 f17 f18 f19 => q_214_33 (q0 := q0) (n0 := ρ 4) (n1 := ρ 3) (n2 := ρ 2) (n3 := ρ 1) (n4 := ρ 0) (n5 := ρ 5) (n6 := ρ 6) (n7 := ρ 7) (n8 := ρ 8) (n9 := ρ 9) (n10 := ρ 10) (H0 := η 0) (H1 := η 1) (H2 := η 2) (H3 := η 3) f19 f18 f17 f16 f15 f14 f13 f12 f11 f10 f9 f8 f7 f6 f5 f4 f3 f2 f1 f0
theorem q_214_34 {q0 : Nat} {n0 n1 n2 n3 n4 n5 n6 n7 n8 n9 n10 : Int} {H0 H1 H2 H3 : gH} (f0 : n0 ≤ 2000) (f1 : 0 ≤ n0) (f2 : n1 ≤ 2147483647) (f3 : (-2147483648) ≤ n1) (f4 : n2 ≤ 2000) (f5 : 0 ≤ n2) (f6 : n3 = 285) (f7 : n4 = 285) (f8 : (hLe T0 H0 H1 ∧ hFr s_214.2.2.2.2 H0 H1 ∧ hWt T0 H1) ∧ (Ab_214_85 n4 n3 n2 n1 n0 n5 H0 H1 ∧ True) ∧ some q0 = some (mub_214_85 n4 n3 n2 n1 n0 n5 H0 H1)) (f9 : n6 = w32 (n2 + n0)) (f10 : n7 ≤ 255) (f11 : 0 ≤ n7) (f12 : (hLe T0 H1 H2 ∧ hFr s_208.2.2.2.2 H1 H2 ∧ ((0 : Int) = 0 → H2.length = H1.length) ∧ hWt T0 H2) ∧ postb_208 n7 n3 n6 H1 H2) (f13 : n8 ≤ 1) (f14 : 0 ≤ n8) (f15 : (hLe T0 H2 H3 ∧ hFr s_210.2.2.2.2 H2 H3 ∧ ((0 : Int) = 0 → H3.length = H2.length) ∧ hWt T0 H3) ∧ postb_210 n8 n7 H2 H3) (f16 : n8 ≠ 0) (f17 : n9 = 8) (f18 : n9 ≤ n0) (f19 : n10 = w32 (n0 + 1)) : n10 ≤ 2000 := by
  have g4 := f8.2.1.1
  unfold Ab_214_85 at g4
  unfold postb_208 at f12
  unfold postb_210 at f15
  have e1 : hV H1 285 4 = hV H0 285 4 := (f8.1.2.1.1 285 4 kF_214_285_4)
  have e3 : hV H2 285 4 = hV H0 285 4 := ((f12.1.2.1.1 285 4 kF_208_285_4)).trans (f8.1.2.1.1 285 4 kF_214_285_4)
  have e6 : hV H2 287 = hV H0 287 := (fRow f12.1.2.1 287 kR_208_287).trans (fRow f8.1.2.1 287 kR_214_287)
  have e7 : (0 : Int) ≤ hV H1 285 10 ∧ hV H1 285 10 ≤ 501 := f8.1.2.2 285 10 _ _ kW_285_10
  have e8 : (0 : Int) ≤ hV H0 285 4 ∧ hV H0 285 4 ≤ 2000 := bTo e1 (f8.1.2.2 285 4 _ _ kW_285_4)
  have y0 := g4.1
  have y1 := g4.2
  have r0_0 := f12.2.1
  have r0_1 := f12.2.2
  have r1_0 := f15.2
  try simp only [e1] at y0
  try simp only [e3, e6] at r0_0
  try simp only [e3] at r0_1
  clear g4
  clear e1 e3 e6
  clear f8 f12 f15
  first
  | (have ix0 : n10 = n0 + 1 := Eq.trans f19 (w32_iv (Iad (Iat f1 f0) (IC 1)) (by decide)); subst ix0; clear f19)
  | (have ix0 : n10 = n0 + 1 := Eq.trans f19 (w32_id (by (first | lia | omega)) (by (first | lia | omega))); subst ix0; clear f19)
  | (unfold w32 at f19; have ix0 : n10 = n0 + 1 := (by (first | lia | omega)); subst ix0)
  | skip
  try unfold w32 at f9
  try unfold w32 at f19
  (first | lia | omega)
def g_214_85_12 : vG := ([(10, [10, 4], [], 1), (43, [4, 9], [], 0), (0, [9], [], 8), (31, [8], [], 0), (1210, [8, 7], [2, 3], 0), (90, [8], [], 0), (91, [8], [], 1), (1208, [7, 1, 6], [1, 2], 0), (90, [7], [], 0), (91, [7], [], 255), (1, [6, 2, 4], [], 0), (5000, [0, 1, 2, 3, 4, 5], [0, 1], 85), (0, [0], [], 285), (0, [1], [], 285), (90, [2], [], 0), (91, [2], [], 2000), (90, [3], [], -2147483648), (91, [3], [], 2147483647), (90, [4], [], 0), (91, [4], [], 2000)], (91, [10], [], 2000))
theorem c_214_85_12 {q0 : Nat} : vOkm T0 (eP e_214 L_214 A_214 mu_214 (some q0)) 1 g_214_85_12 := vOk_inI fun ρ η f0 f1 f2 f3 f4 f5 f6 f7 f8 f9 f10 f11 f12 f13 f14 f15 f16 f17 f18 f19 => q_214_34 (q0 := q0) (n0 := ρ 4) (n1 := ρ 3) (n2 := ρ 2) (n3 := ρ 1) (n4 := ρ 0) (n5 := ρ 5) (n6 := ρ 6) (n7 := ρ 7) (n8 := ρ 8) (n9 := ρ 9) (n10 := ρ 10) (H0 := η 0) (H1 := η 1) (H2 := η 2) (H3 := η 3) f19 f18 f17 f16 f15 f14 f13 f12 f11 f10 f9 f8 f7 f6 f5 f4 f3 f2 f1 f0
theorem q_214_35 {q0 : Nat} {n0 n1 n2 n3 n4 n5 n6 n7 n8 n9 n10 : Int} {H0 H1 H2 H3 : gH} (f0 : n0 ≤ 2000) (f1 : 0 ≤ n0) (f2 : n1 ≤ 2147483647) (f3 : (-2147483648) ≤ n1) (f4 : n2 ≤ 2000) (f5 : 0 ≤ n2) (f6 : n3 = 285) (f7 : n4 = 285) (f8 : (hLe T0 H0 H1 ∧ hFr s_214.2.2.2.2 H0 H1 ∧ hWt T0 H1) ∧ (Ab_214_85 n4 n3 n2 n1 n0 n5 H0 H1 ∧ True) ∧ some q0 = some (mub_214_85 n4 n3 n2 n1 n0 n5 H0 H1)) (f9 : n6 = w32 (n2 + n0)) (f10 : n7 ≤ 255) (f11 : 0 ≤ n7) (f12 : (hLe T0 H1 H2 ∧ hFr s_208.2.2.2.2 H1 H2 ∧ ((0 : Int) = 0 → H2.length = H1.length) ∧ hWt T0 H2) ∧ postb_208 n7 n3 n6 H1 H2) (f13 : n8 ≤ 1) (f14 : 0 ≤ n8) (f15 : (hLe T0 H2 H3 ∧ hFr s_210.2.2.2.2 H2 H3 ∧ ((0 : Int) = 0 → H3.length = H2.length) ∧ hWt T0 H3) ∧ postb_210 n8 n7 H2 H3) (f16 : n8 ≠ 0) (f17 : n9 = 8) (f18 : n9 ≤ n0) (f19 : n10 = w32 (n0 + 1)) : Ab_214_85 n4 n3 n2 n1 n10 n5 H0 H3 ∧ ∀ q, some q0 = some q → mub_214_85 n4 n3 n2 n1 n10 n5 H0 H3 < q := by
  have g4 := f8.2.1.1
  unfold Ab_214_85 at g4
  have g5 := Option.some.inj f8.2.2
  unfold mub_214_85 at g5
  unfold postb_208 at f12
  unfold postb_210 at f15
  unfold Ab_214_85
  unfold mub_214_85
  have e1 : hV H1 285 4 = hV H0 285 4 := (f8.1.2.1.1 285 4 kF_214_285_4)
  have e3 : hV H2 285 4 = hV H0 285 4 := ((f12.1.2.1.1 285 4 kF_208_285_4)).trans (f8.1.2.1.1 285 4 kF_214_285_4)
  have e6 : hV H2 287 = hV H0 287 := (fRow f12.1.2.1 287 kR_208_287).trans (fRow f8.1.2.1 287 kR_214_287)
  have e9 : hV H3 285 10 = hV H1 285 10 := ((f15.1.2.1.1 285 10 kF_210_285_10)).trans (f12.1.2.1.1 285 10 kF_208_285_10)
  have e11 : hV H3 285 4 = hV H0 285 4 := ((f15.1.2.1.1 285 4 kF_210_285_4)).trans (((f12.1.2.1.1 285 4 kF_208_285_4)).trans (f8.1.2.1.1 285 4 kF_214_285_4))
  have e12 : (0 : Int) ≤ hV H1 285 10 ∧ hV H1 285 10 ≤ 501 := f8.1.2.2 285 10 _ _ kW_285_10
  have e13 : (0 : Int) ≤ hV H0 285 4 ∧ hV H0 285 4 ≤ 2000 := bTo e1 (f8.1.2.2 285 4 _ _ kW_285_4)
  try simp only [e9, e11]
  have y0 := g4.1
  have y1 := g4.2
  have r0_0 := f12.2.1
  have r0_1 := f12.2.2
  have r1_0 := f15.2
  try simp only [e1] at y0
  try simp only [e3, e6] at r0_0
  try simp only [e3] at r0_1
  clear g4
  clear e1 e3 e6 e9 e11
  clear f8 f12 f15
  first
  | (have ix0 : n10 = n0 + 1 := Eq.trans f19 (w32_iv (Iad (Iat f1 f0) (IC 1)) (by decide)); subst ix0; clear f19)
  | (have ix0 : n10 = n0 + 1 := Eq.trans f19 (w32_id (by (first | lia | omega)) (by (first | lia | omega))); subst ix0; clear f19)
  | (unfold w32 at f19; have ix0 : n10 = n0 + 1 := (by (first | lia | omega)); subst ix0)
  | skip
  try unfold w32 at f9
  try unfold w32 at f19
  refine ⟨?_, fun q hq => ?_⟩
  · refine ⟨?_, ?_⟩ <;> first | assumption | (first | lia | omega) | trivial
  · have g6 := Option.some.inj hq
    subst g6
    (first | lia | omega)
def g_214_85_13 : vG := ([(10, [10, 4], [], 1), (43, [4, 9], [], 0), (0, [9], [], 8), (31, [8], [], 0), (1210, [8, 7], [2, 3], 0), (90, [8], [], 0), (91, [8], [], 1), (1208, [7, 1, 6], [1, 2], 0), (90, [7], [], 0), (91, [7], [], 255), (1, [6, 2, 4], [], 0), (5000, [0, 1, 2, 3, 4, 5], [0, 1], 85), (0, [0], [], 285), (0, [1], [], 285), (90, [2], [], 0), (91, [2], [], 2000), (90, [3], [], -2147483648), (91, [3], [], 2147483647), (90, [4], [], 0), (91, [4], [], 2000)], (4000, [1, 2, 3, 10, 5], [3], 85))
theorem c_214_85_13 {q0 : Nat} : vOkm T0 (eP e_214 L_214 A_214 mu_214 (some q0)) 1 g_214_85_13 := vOk_inI fun ρ η f0 f1 f2 f3 f4 f5 f6 f7 f8 f9 f10 f11 f12 f13 f14 f15 f16 f17 f18 f19 => q_214_35 (q0 := q0) (n0 := ρ 4) (n1 := ρ 3) (n2 := ρ 2) (n3 := ρ 1) (n4 := ρ 0) (n5 := ρ 5) (n6 := ρ 6) (n7 := ρ 7) (n8 := ρ 8) (n9 := ρ 9) (n10 := ρ 10) (H0 := η 0) (H1 := η 1) (H2 := η 2) (H3 := η 3) f19 f18 f17 f16 f15 f14 f13 f12 f11 f10 f9 f8 f7 f6 f5 f4 f3 f2 f1 f0
theorem q_214_36 {q0 : Nat} {n0 n1 n2 n3 n4 n5 n6 n7 n8 n9 n10 : Int} {H0 H1 H2 H3 : gH} (f0 : n0 ≤ 2000) (f1 : 0 ≤ n0) (f2 : n1 ≤ 2147483647) (f3 : (-2147483648) ≤ n1) (f4 : n2 ≤ 2000) (f5 : 0 ≤ n2) (f6 : n3 = 285) (f7 : n4 = 285) (f8 : (hLe T0 H0 H1 ∧ hFr s_214.2.2.2.2 H0 H1 ∧ hWt T0 H1) ∧ (Ab_214_85 n4 n3 n2 n1 n0 n5 H0 H1 ∧ True) ∧ some q0 = some (mub_214_85 n4 n3 n2 n1 n0 n5 H0 H1)) (f9 : n6 = w32 (n2 + n0)) (f10 : n7 ≤ 255) (f11 : 0 ≤ n7) (f12 : (hLe T0 H1 H2 ∧ hFr s_208.2.2.2.2 H1 H2 ∧ ((0 : Int) = 0 → H2.length = H1.length) ∧ hWt T0 H2) ∧ postb_208 n7 n3 n6 H1 H2) (f13 : n8 ≤ 1) (f14 : 0 ≤ n8) (f15 : (hLe T0 H2 H3 ∧ hFr s_210.2.2.2.2 H2 H3 ∧ ((0 : Int) = 0 → H3.length = H2.length) ∧ hWt T0 H3) ∧ postb_210 n8 n7 H2 H3) (f16 : n8 ≠ 0) (f17 : n9 = 8) (f18 : n0 < n9) (f19 : n10 = w32 (n2 + n0)) : preb_208 n3 n10 H3 := by
  have g4 := f8.2.1.1
  unfold Ab_214_85 at g4
  have sm19 : n6 = n10 := f9.trans f19.symm
  subst sm19
  unfold postb_208 at f12
  unfold postb_210 at f15
  unfold preb_208
  have e1 : hV H1 285 4 = hV H0 285 4 := (f8.1.2.1.1 285 4 kF_214_285_4)
  have e3 : hV H2 285 4 = hV H0 285 4 := ((f12.1.2.1.1 285 4 kF_208_285_4)).trans (f8.1.2.1.1 285 4 kF_214_285_4)
  have e6 : hV H2 287 = hV H0 287 := (fRow f12.1.2.1 287 kR_208_287).trans (fRow f8.1.2.1 287 kR_214_287)
  have e7 : (0 : Int) ≤ hV H1 285 10 ∧ hV H1 285 10 ≤ 501 := f8.1.2.2 285 10 _ _ kW_285_10
  have e8 : (0 : Int) ≤ hV H0 285 4 ∧ hV H0 285 4 ≤ 2000 := bTo e1 (f8.1.2.2 285 4 _ _ kW_285_4)
  have y0 := g4.1
  have y1 := g4.2
  have r0_0 := f12.2.1
  have r0_1 := f12.2.2
  have r1_0 := f15.2
  try simp only [e1] at y0
  try simp only [e3, e6] at r0_0
  try simp only [e3] at r0_1
  clear g4
  clear e1 e3 e6
  clear f8 f12 f15
  first
  | (have ix0 : n6 = n2 + n0 := Eq.trans f9 (w32_id (by (first | lia | omega)) (by (first | lia | omega))); subst ix0; clear f9)
  | (unfold w32 at f9; have ix0 : n6 = n2 + n0 := (by (first | lia | omega)); subst ix0)
  | skip
  try unfold w32 at f9
  try unfold w32 at f19
  first | assumption | (first | lia | omega) | trivial
def g_214_85_14 : vG := ([(1, [10, 2, 4], [], 0), (42, [4, 9], [], 0), (0, [9], [], 8), (31, [8], [], 0), (1210, [8, 7], [2, 3], 0), (90, [8], [], 0), (91, [8], [], 1), (1208, [7, 1, 6], [1, 2], 0), (90, [7], [], 0), (91, [7], [], 255), (1, [6, 2, 4], [], 0), (5000, [0, 1, 2, 3, 4, 5], [0, 1], 85), (0, [0], [], 285), (0, [1], [], 285), (90, [2], [], 0), (91, [2], [], 2000), (90, [3], [], -2147483648), (91, [3], [], 2147483647), (90, [4], [], 0), (91, [4], [], 2000)], (2208, [1, 10], [3], 0))
theorem c_214_85_14 {q0 : Nat} : vOkm T0 (eP e_214 L_214 A_214 mu_214 (some q0)) 1 g_214_85_14 := vOk_inI fun ρ η f0 f1 f2 f3 f4 f5 f6 f7 f8 f9 f10 f11 f12 f13 f14 f15 f16 f17 f18 f19 => q_214_36 (q0 := q0) (n0 := ρ 4) (n1 := ρ 3) (n2 := ρ 2) (n3 := ρ 1) (n4 := ρ 0) (n5 := ρ 5) (n6 := ρ 6) (n7 := ρ 7) (n8 := ρ 8) (n9 := ρ 9) (n10 := ρ 10) (H0 := η 0) (H1 := η 1) (H2 := η 2) (H3 := η 3) f19 f18 f17 f16 f15 f14 f13 f12 f11 f10 f9 f8 f7 f6 f5 f4 f3 f2 f1 f0
theorem q_214_37 {q0 : Nat} {n0 n1 n2 n3 n4 n5 n6 n7 n8 n9 n10 n11 n12 : Int} {H0 H1 H2 H3 H4 : gH} (f0 : n0 ≤ 2000) (f1 : 0 ≤ n0) (f2 : n1 ≤ 2147483647) (f3 : (-2147483648) ≤ n1) (f4 : n2 ≤ 2000) (f5 : 0 ≤ n2) (f6 : n3 = 285) (f7 : n4 = 285) (f8 : (hLe T0 H0 H1 ∧ hFr s_214.2.2.2.2 H0 H1 ∧ hWt T0 H1) ∧ (Ab_214_85 n4 n3 n2 n1 n0 n5 H0 H1 ∧ True) ∧ some q0 = some (mub_214_85 n4 n3 n2 n1 n0 n5 H0 H1)) (f9 : n6 = w32 (n2 + n0)) (f10 : n7 ≤ 255) (f11 : 0 ≤ n7) (f12 : (hLe T0 H1 H2 ∧ hFr s_208.2.2.2.2 H1 H2 ∧ ((0 : Int) = 0 → H2.length = H1.length) ∧ hWt T0 H2) ∧ postb_208 n7 n3 n6 H1 H2) (f13 : n8 ≤ 1) (f14 : 0 ≤ n8) (f15 : (hLe T0 H2 H3 ∧ hFr s_210.2.2.2.2 H2 H3 ∧ ((0 : Int) = 0 → H3.length = H2.length) ∧ hWt T0 H3) ∧ postb_210 n8 n7 H2 H3) (f16 : n8 ≠ 0) (f17 : n9 = 8) (f18 : n0 < n9) (f19 : n10 = w32 (n2 + n0)) (f20 : n11 ≤ 255) (f21 : 0 ≤ n11) (f22 : (hLe T0 H3 H4 ∧ hFr s_208.2.2.2.2 H3 H4 ∧ ((0 : Int) = 0 → H4.length = H3.length) ∧ hWt T0 H4) ∧ postb_208 n11 n3 n10 H3 H4) (f23 : n12 = w32 (n0 + 1)) : 0 ≤ n12 := by
  have g4 := f8.2.1.1
  unfold Ab_214_85 at g4
  have sm19 : n6 = n10 := f9.trans f19.symm
  subst sm19
  unfold postb_208 at f12
  unfold postb_210 at f15
  unfold postb_208 at f22
  have e1 : hV H1 285 4 = hV H0 285 4 := (f8.1.2.1.1 285 4 kF_214_285_4)
  have e3 : hV H2 285 4 = hV H0 285 4 := ((f12.1.2.1.1 285 4 kF_208_285_4)).trans (f8.1.2.1.1 285 4 kF_214_285_4)
  have e6 : hV H2 287 = hV H0 287 := (fRow f12.1.2.1 287 kR_208_287).trans (fRow f8.1.2.1 287 kR_214_287)
  have e9 : hV H4 285 4 = hV H0 285 4 := ((f22.1.2.1.1 285 4 kF_208_285_4)).trans (((f15.1.2.1.1 285 4 kF_210_285_4)).trans (((f12.1.2.1.1 285 4 kF_208_285_4)).trans (f8.1.2.1.1 285 4 kF_214_285_4)))
  have e13 : hV H4 287 = hV H0 287 := (fRow f22.1.2.1 287 kR_208_287).trans ((fRow f15.1.2.1 287 kR_210_287).trans e6)
  have e14 : (0 : Int) ≤ hV H1 285 10 ∧ hV H1 285 10 ≤ 501 := f8.1.2.2 285 10 _ _ kW_285_10
  have e15 : (0 : Int) ≤ hV H0 285 4 ∧ hV H0 285 4 ≤ 2000 := bTo e1 (f8.1.2.2 285 4 _ _ kW_285_4)
  have y0 := g4.1
  have y1 := g4.2
  have r0_0 := f12.2.1
  have r0_1 := f12.2.2
  have r1_0 := f15.2
  have r2_0 := f22.2.1
  have r2_1 := f22.2.2
  try simp only [e1] at y0
  try simp only [e3, e6] at r0_0
  try simp only [e3] at r0_1
  try simp only [e9, e13] at r2_0
  try simp only [e9] at r2_1
  clear g4
  clear e1 e3 e6 e9 e13
  clear f8 f12 f15 f22
  first
  | (have ix0 : n12 = n0 + 1 := Eq.trans f23 (w32_id (by (first | lia | omega)) (by (first | lia | omega))); subst ix0; clear f23)
  | (unfold w32 at f23; have ix0 : n12 = n0 + 1 := (by (first | lia | omega)); subst ix0)
  | skip
  try unfold w32 at f9
  try unfold w32 at f19
  try unfold w32 at f23
  (first | lia | omega)
def g_214_85_15 : vG := ([(10, [13, 4], [], 1), (1208, [11, 1, 10], [3, 4], 0), (90, [11], [], 0), (91, [11], [], 255), (1, [10, 2, 4], [], 0), (42, [4, 9], [], 0), (0, [9], [], 8), (31, [8], [], 0), (1210, [8, 7], [2, 3], 0), (90, [8], [], 0), (91, [8], [], 1), (1208, [7, 1, 6], [1, 2], 0), (90, [7], [], 0), (91, [7], [], 255), (1, [6, 2, 4], [], 0), (5000, [0, 1, 2, 3, 4, 5], [0, 1], 85), (0, [0], [], 285), (0, [1], [], 285), (90, [2], [], 0), (91, [2], [], 2000), (90, [3], [], -2147483648), (91, [3], [], 2147483647), (90, [4], [], 0), (91, [4], [], 2000)], (90, [13], [], 0))
theorem c_214_85_15 {q0 : Nat} : vOkm T0 (eP e_214 L_214 A_214 mu_214 (some q0)) 1 g_214_85_15 := vOk_inI fun ρ η f0 f1 f2 f3 f4 f5 f6 f7 f8 f9 f10 f11 f12 f13 f14 f15 f16 f17 f18 f19 f20 f21 f22 f23 => q_214_37 (q0 := q0) (n0 := ρ 4) (n1 := ρ 3) (n2 := ρ 2) (n3 := ρ 1) (n4 := ρ 0) (n5 := ρ 5) (n6 := ρ 6) (n7 := ρ 7) (n8 := ρ 8) (n9 := ρ 9) (n10 := ρ 10) (n11 := ρ 11) (n12 := ρ 13) (H0 := η 0) (H1 := η 1) (H2 := η 2) (H3 := η 3) (H4 := η 4) f23 f22 f21 f20 f19 f18 f17 f16 f15 f14 f13 f12 f11 f10 f9 f8 f7 f6 f5 f4 f3 f2 f1 f0
theorem q_214_38 {q0 : Nat} {n0 n1 n2 n3 n4 n5 n6 n7 n8 n9 n10 n11 n12 : Int} {H0 H1 H2 H3 H4 : gH} (f0 : n0 ≤ 2000) (f1 : 0 ≤ n0) (f2 : n1 ≤ 2147483647) (f3 : (-2147483648) ≤ n1) (f4 : n2 ≤ 2000) (f5 : 0 ≤ n2) (f6 : n3 = 285) (f7 : n4 = 285) (f8 : (hLe T0 H0 H1 ∧ hFr s_214.2.2.2.2 H0 H1 ∧ hWt T0 H1) ∧ (Ab_214_85 n4 n3 n2 n1 n0 n5 H0 H1 ∧ True) ∧ some q0 = some (mub_214_85 n4 n3 n2 n1 n0 n5 H0 H1)) (f9 : n6 = w32 (n2 + n0)) (f10 : n7 ≤ 255) (f11 : 0 ≤ n7) (f12 : (hLe T0 H1 H2 ∧ hFr s_208.2.2.2.2 H1 H2 ∧ ((0 : Int) = 0 → H2.length = H1.length) ∧ hWt T0 H2) ∧ postb_208 n7 n3 n6 H1 H2) (f13 : n8 ≤ 1) (f14 : 0 ≤ n8) (f15 : (hLe T0 H2 H3 ∧ hFr s_210.2.2.2.2 H2 H3 ∧ ((0 : Int) = 0 → H3.length = H2.length) ∧ hWt T0 H3) ∧ postb_210 n8 n7 H2 H3) (f16 : n8 ≠ 0) (f17 : n9 = 8) (f18 : n0 < n9) (f19 : n10 = w32 (n2 + n0)) (f20 : n11 ≤ 255) (f21 : 0 ≤ n11) (f22 : (hLe T0 H3 H4 ∧ hFr s_208.2.2.2.2 H3 H4 ∧ ((0 : Int) = 0 → H4.length = H3.length) ∧ hWt T0 H4) ∧ postb_208 n11 n3 n10 H3 H4) (f23 : n12 = w32 (n0 + 1)) : n12 ≤ 2000 := by
  have g4 := f8.2.1.1
  unfold Ab_214_85 at g4
  have sm19 : n6 = n10 := f9.trans f19.symm
  subst sm19
  unfold postb_208 at f12
  unfold postb_210 at f15
  unfold postb_208 at f22
  have e1 : hV H1 285 4 = hV H0 285 4 := (f8.1.2.1.1 285 4 kF_214_285_4)
  have e3 : hV H2 285 4 = hV H0 285 4 := ((f12.1.2.1.1 285 4 kF_208_285_4)).trans (f8.1.2.1.1 285 4 kF_214_285_4)
  have e6 : hV H2 287 = hV H0 287 := (fRow f12.1.2.1 287 kR_208_287).trans (fRow f8.1.2.1 287 kR_214_287)
  have e9 : hV H4 285 4 = hV H0 285 4 := ((f22.1.2.1.1 285 4 kF_208_285_4)).trans (((f15.1.2.1.1 285 4 kF_210_285_4)).trans (((f12.1.2.1.1 285 4 kF_208_285_4)).trans (f8.1.2.1.1 285 4 kF_214_285_4)))
  have e13 : hV H4 287 = hV H0 287 := (fRow f22.1.2.1 287 kR_208_287).trans ((fRow f15.1.2.1 287 kR_210_287).trans e6)
  have e14 : (0 : Int) ≤ hV H1 285 10 ∧ hV H1 285 10 ≤ 501 := f8.1.2.2 285 10 _ _ kW_285_10
  have e15 : (0 : Int) ≤ hV H0 285 4 ∧ hV H0 285 4 ≤ 2000 := bTo e1 (f8.1.2.2 285 4 _ _ kW_285_4)
  have y0 := g4.1
  have y1 := g4.2
  have r0_0 := f12.2.1
  have r0_1 := f12.2.2
  have r1_0 := f15.2
  have r2_0 := f22.2.1
  have r2_1 := f22.2.2
  try simp only [e1] at y0
  try simp only [e3, e6] at r0_0
  try simp only [e3] at r0_1
  try simp only [e9, e13] at r2_0
  try simp only [e9] at r2_1
  clear g4
  clear e1 e3 e6 e9 e13
  clear f8 f12 f15 f22
  first
  | (have ix0 : n12 = n0 + 1 := Eq.trans f23 (w32_id (by (first | lia | omega)) (by (first | lia | omega))); subst ix0; clear f23)
  | (unfold w32 at f23; have ix0 : n12 = n0 + 1 := (by (first | lia | omega)); subst ix0)
  | skip
  try unfold w32 at f9
  try unfold w32 at f19
  try unfold w32 at f23
  (first | lia | omega)
def g_214_85_16 : vG := ([(10, [13, 4], [], 1), (1208, [11, 1, 10], [3, 4], 0), (90, [11], [], 0), (91, [11], [], 255), (1, [10, 2, 4], [], 0), (42, [4, 9], [], 0), (0, [9], [], 8), (31, [8], [], 0), (1210, [8, 7], [2, 3], 0), (90, [8], [], 0), (91, [8], [], 1), (1208, [7, 1, 6], [1, 2], 0), (90, [7], [], 0), (91, [7], [], 255), (1, [6, 2, 4], [], 0), (5000, [0, 1, 2, 3, 4, 5], [0, 1], 85), (0, [0], [], 285), (0, [1], [], 285), (90, [2], [], 0), (91, [2], [], 2000), (90, [3], [], -2147483648), (91, [3], [], 2147483647), (90, [4], [], 0), (91, [4], [], 2000)], (91, [13], [], 2000))
theorem c_214_85_16 {q0 : Nat} : vOkm T0 (eP e_214 L_214 A_214 mu_214 (some q0)) 1 g_214_85_16 := vOk_inI fun ρ η f0 f1 f2 f3 f4 f5 f6 f7 f8 f9 f10 f11 f12 f13 f14 f15 f16 f17 f18 f19 f20 f21 f22 f23 => q_214_38 (q0 := q0) (n0 := ρ 4) (n1 := ρ 3) (n2 := ρ 2) (n3 := ρ 1) (n4 := ρ 0) (n5 := ρ 5) (n6 := ρ 6) (n7 := ρ 7) (n8 := ρ 8) (n9 := ρ 9) (n10 := ρ 10) (n11 := ρ 11) (n12 := ρ 13) (H0 := η 0) (H1 := η 1) (H2 := η 2) (H3 := η 3) (H4 := η 4) f23 f22 f21 f20 f19 f18 f17 f16 f15 f14 f13 f12 f11 f10 f9 f8 f7 f6 f5 f4 f3 f2 f1 f0
theorem kF_211_285_10 : vFree s_211.2.2.2.2 285 10 = true := by decide +kernel
theorem kF_211_285_4 : vFree s_211.2.2.2.2 285 4 = true := by decide +kernel
theorem q_214_39 {q0 : Nat} {n0 n1 n2 n3 n4 n5 n6 n7 n8 n9 n10 n11 n12 n13 : Int} {H0 H1 H2 H3 H4 H5 : gH} (f0 : n0 ≤ 2000) (f1 : 0 ≤ n0) (f2 : n1 ≤ 2147483647) (f3 : (-2147483648) ≤ n1) (f4 : n2 ≤ 2000) (f5 : 0 ≤ n2) (f6 : n3 = 285) (f7 : n4 = 285) (f8 : (hLe T0 H0 H1 ∧ hFr s_214.2.2.2.2 H0 H1 ∧ hWt T0 H1) ∧ (Ab_214_85 n4 n3 n2 n1 n0 n5 H0 H1 ∧ True) ∧ some q0 = some (mub_214_85 n4 n3 n2 n1 n0 n5 H0 H1)) (f9 : n6 = w32 (n2 + n0)) (f10 : n7 ≤ 255) (f11 : 0 ≤ n7) (f12 : (hLe T0 H1 H2 ∧ hFr s_208.2.2.2.2 H1 H2 ∧ ((0 : Int) = 0 → H2.length = H1.length) ∧ hWt T0 H2) ∧ postb_208 n7 n3 n6 H1 H2) (f13 : n8 ≤ 1) (f14 : 0 ≤ n8) (f15 : (hLe T0 H2 H3 ∧ hFr s_210.2.2.2.2 H2 H3 ∧ ((0 : Int) = 0 → H3.length = H2.length) ∧ hWt T0 H3) ∧ postb_210 n8 n7 H2 H3) (f16 : n8 ≠ 0) (f17 : n9 = 8) (f18 : n0 < n9) (f19 : n10 = w32 (n2 + n0)) (f20 : n11 ≤ 255) (f21 : 0 ≤ n11) (f22 : (hLe T0 H3 H4 ∧ hFr s_208.2.2.2.2 H3 H4 ∧ ((0 : Int) = 0 → H4.length = H3.length) ∧ hWt T0 H4) ∧ postb_208 n11 n3 n10 H3 H4) (f23 : (hLe T0 H4 H5 ∧ hFr s_211.2.2.2.2 H4 H5 ∧ ((0 : Int) = 0 → H5.length = H4.length) ∧ hWt T0 H5) ∧ True) (f24 : n13 = w32 (n0 + 1)) : Ab_214_85 n4 n3 n2 n1 n13 n12 H0 H5 ∧ ∀ q, some q0 = some q → mub_214_85 n4 n3 n2 n1 n13 n12 H0 H5 < q := by
  have g4 := f8.2.1.1
  unfold Ab_214_85 at g4
  have g5 := Option.some.inj f8.2.2
  unfold mub_214_85 at g5
  have sm19 : n6 = n10 := f9.trans f19.symm
  subst sm19
  unfold postb_208 at f12
  unfold postb_210 at f15
  unfold postb_208 at f22
  unfold Ab_214_85
  unfold mub_214_85
  have e1 : hV H1 285 4 = hV H0 285 4 := (f8.1.2.1.1 285 4 kF_214_285_4)
  have e3 : hV H2 285 4 = hV H0 285 4 := ((f12.1.2.1.1 285 4 kF_208_285_4)).trans (f8.1.2.1.1 285 4 kF_214_285_4)
  have e6 : hV H2 287 = hV H0 287 := (fRow f12.1.2.1 287 kR_208_287).trans (fRow f8.1.2.1 287 kR_214_287)
  have e9 : hV H4 285 4 = hV H0 285 4 := ((f22.1.2.1.1 285 4 kF_208_285_4)).trans (((f15.1.2.1.1 285 4 kF_210_285_4)).trans (((f12.1.2.1.1 285 4 kF_208_285_4)).trans (f8.1.2.1.1 285 4 kF_214_285_4)))
  have e13 : hV H4 287 = hV H0 287 := (fRow f22.1.2.1 287 kR_208_287).trans ((fRow f15.1.2.1 287 kR_210_287).trans e6)
  have e18 : hV H5 285 10 = hV H1 285 10 := ((f23.1.2.1.1 285 10 kF_211_285_10)).trans (((f22.1.2.1.1 285 10 kF_208_285_10)).trans (((f15.1.2.1.1 285 10 kF_210_285_10)).trans (f12.1.2.1.1 285 10 kF_208_285_10)))
  have e20 : hV H5 285 4 = hV H0 285 4 := ((f23.1.2.1.1 285 4 kF_211_285_4)).trans (((f22.1.2.1.1 285 4 kF_208_285_4)).trans (((f15.1.2.1.1 285 4 kF_210_285_4)).trans (((f12.1.2.1.1 285 4 kF_208_285_4)).trans (f8.1.2.1.1 285 4 kF_214_285_4))))
  have e21 : (0 : Int) ≤ hV H1 285 10 ∧ hV H1 285 10 ≤ 501 := f8.1.2.2 285 10 _ _ kW_285_10
  have e22 : (0 : Int) ≤ hV H0 285 4 ∧ hV H0 285 4 ≤ 2000 := bTo e1 (f8.1.2.2 285 4 _ _ kW_285_4)
  try simp only [e18, e20]
  have y0 := g4.1
  have y1 := g4.2
  have r0_0 := f12.2.1
  have r0_1 := f12.2.2
  have r1_0 := f15.2
  have r2_0 := f22.2.1
  have r2_1 := f22.2.2
  try simp only [e1] at y0
  try simp only [e3, e6] at r0_0
  try simp only [e3] at r0_1
  try simp only [e9, e13] at r2_0
  try simp only [e9] at r2_1
  clear g4
  clear e1 e3 e6 e9 e13 e18 e20
  clear f8 f12 f15 f22 f23
  first
  | (have ix0 : n13 = n0 + 1 := Eq.trans f24 (w32_id (by (first | lia | omega)) (by (first | lia | omega))); subst ix0; clear f24)
  | (unfold w32 at f24; have ix0 : n13 = n0 + 1 := (by (first | lia | omega)); subst ix0)
  | skip
  try unfold w32 at f9
  try unfold w32 at f19
  try unfold w32 at f24
  refine ⟨?_, fun q hq => ?_⟩
  · refine ⟨?_, ?_⟩ <;> first | assumption | (first | lia | omega) | trivial
  · have g6 := Option.some.inj hq
    subst g6
    (first | lia | omega)
def g_214_85_17 : vG := ([(10, [13, 4], [], 1), (1211, [12, 5, 11], [4, 5], 0), (1208, [11, 1, 10], [3, 4], 0), (90, [11], [], 0), (91, [11], [], 255), (1, [10, 2, 4], [], 0), (42, [4, 9], [], 0), (0, [9], [], 8), (31, [8], [], 0), (1210, [8, 7], [2, 3], 0), (90, [8], [], 0), (91, [8], [], 1), (1208, [7, 1, 6], [1, 2], 0), (90, [7], [], 0), (91, [7], [], 255), (1, [6, 2, 4], [], 0), (5000, [0, 1, 2, 3, 4, 5], [0, 1], 85), (0, [0], [], 285), (0, [1], [], 285), (90, [2], [], 0), (91, [2], [], 2000), (90, [3], [], -2147483648), (91, [3], [], 2147483647), (90, [4], [], 0), (91, [4], [], 2000)], (4000, [1, 2, 3, 13, 12], [5], 85))
theorem c_214_85_17 {q0 : Nat} : vOkm T0 (eP e_214 L_214 A_214 mu_214 (some q0)) 1 g_214_85_17 := vOk_inI fun ρ η f0 f1 f2 f3 f4 f5 f6 f7 f8 f9 f10 f11 f12 f13 f14 f15 f16 f17 f18 f19 f20 f21 f22 f23 f24 => q_214_39 (q0 := q0) (n0 := ρ 4) (n1 := ρ 3) (n2 := ρ 2) (n3 := ρ 1) (n4 := ρ 0) (n5 := ρ 5) (n6 := ρ 6) (n7 := ρ 7) (n8 := ρ 8) (n9 := ρ 9) (n10 := ρ 10) (n11 := ρ 11) (n12 := ρ 12) (n13 := ρ 13) (H0 := η 0) (H1 := η 1) (H2 := η 2) (H3 := η 3) (H4 := η 4) (H5 := η 5) f24 f23 f22 f21 f20 f19 f18 f17 f16 f15 f14 f13 f12 f11 f10 f9 f8 f7 f6 f5 f4 f3 f2 f1 f0
def p_214_85 : List vG := [g_214_85_0,
  g_214_85_1,
  g_214_85_2,
  g_214_85_3,
  g_214_85_4,
  g_214_85_5,
  g_214_85_6,
  g_214_85_7,
  g_214_85_8,
  g_214_85_9,
  g_214_85_10,
  g_214_85_11,
  g_214_85_12,
  g_214_85_13,
  g_214_85_14,
  g_214_85_15,
  g_214_85_16,
  g_214_85_17]
theorem r_214_85 : vCovO true (eRc e_214 L_214 cs_214 2000 (85, [(0, (3, 12, 285, 0)), (1, (0, 0, 2000, 0)), (2, (0, -2147483648, 2147483647, 0)), (3, (0, 0, 2000, 0)), (4, (1, 0, 0, 0))])) p_214_85 = true := by decide +kernel
theorem q_214_40 {q0 : Nat} {n0 n1 n2 n3 n4 n5 n6 n7 n8 n9 : Int} {H0 H1 : gH} (f0 : n0 ≤ 100) (f1 : 0 ≤ n0) (f2 : n1 ≤ 53) (f3 : 0 ≤ n1) (f4 : n2 ≤ 2000) (f5 : 0 ≤ n2) (f6 : n3 ≤ 2147483647) (f7 : (-2147483648) ≤ n3) (f8 : n4 ≤ 2000) (f9 : 0 ≤ n4) (f10 : n5 = 285) (f11 : n6 = 285) (f12 : (hLe T0 H0 H1 ∧ hFr s_214.2.2.2.2 H0 H1 ∧ hWt T0 H1) ∧ (Ab_214_146 n6 n5 n4 n3 n2 n7 n1 n0 H0 H1 ∧ True) ∧ some q0 = some (mub_214_146 n6 n5 n4 n3 n2 n7 n1 n0 H0 H1)) (f13 : n8 = 34) (f14 : n8 ≤ n0) (f15 : n9 = 0) : preb_213 n5 n1 n4 n9 n7 H1 := by
  have g4 := f12.2.1.1
  unfold Ab_214_146 at g4
  unfold preb_213
  have e1 : hV H1 285 4 = hV H0 285 4 := (f12.1.2.1.1 285 4 kF_214_285_4)
  have e2 : (0 : Int) ≤ hV H1 285 10 ∧ hV H1 285 10 ≤ 501 := f12.1.2.2 285 10 _ _ kW_285_10
  have e3 : (0 : Int) ≤ hV H0 285 4 ∧ hV H0 285 4 ≤ 2000 := bTo e1 (f12.1.2.2 285 4 _ _ kW_285_4)
  have y0 := g4.1
  have y1 := g4.2
  try simp only [e1] at y0
  clear g4
  clear e1
  clear f12
  first | assumption | (first | lia | omega) | trivial
def g_214_146_0 : vG := ([(0, [9], [], 0), (43, [7, 8], [], 0), (0, [8], [], 34), (5000, [0, 1, 2, 3, 4, 5, 6, 7], [0, 1], 146), (0, [0], [], 285), (0, [1], [], 285), (90, [2], [], 0), (91, [2], [], 2000), (90, [3], [], -2147483648), (91, [3], [], 2147483647), (90, [4], [], 0), (91, [4], [], 2000), (90, [6], [], 0), (91, [6], [], 53), (90, [7], [], 0), (91, [7], [], 100)], (2213, [1, 6, 2, 9, 5], [1], 0))
theorem c_214_146_0 {q0 : Nat} : vOkm T0 (eP e_214 L_214 A_214 mu_214 (some q0)) 1 g_214_146_0 := vOk_inI fun ρ η f0 f1 f2 f3 f4 f5 f6 f7 f8 f9 f10 f11 f12 f13 f14 f15 => q_214_40 (q0 := q0) (n0 := ρ 7) (n1 := ρ 6) (n2 := ρ 4) (n3 := ρ 3) (n4 := ρ 2) (n5 := ρ 1) (n6 := ρ 0) (n7 := ρ 5) (n8 := ρ 8) (n9 := ρ 9) (H0 := η 0) (H1 := η 1) f15 f14 f13 f12 f11 f10 f9 f8 f7 f6 f5 f4 f3 f2 f1 f0
theorem q_214_41 {q0 : Nat} {n0 n1 n2 n3 n4 n5 n6 n7 n8 n9 n10 : Int} {H0 H1 H2 : gH} (f0 : n0 ≤ 100) (f1 : 0 ≤ n0) (f2 : n1 ≤ 53) (f3 : 0 ≤ n1) (f4 : n2 ≤ 2000) (f5 : 0 ≤ n2) (f6 : n3 ≤ 2147483647) (f7 : (-2147483648) ≤ n3) (f8 : n4 ≤ 2000) (f9 : 0 ≤ n4) (f10 : n5 = 285) (f11 : n6 = 285) (f12 : (hLe T0 H0 H1 ∧ hFr s_214.2.2.2.2 H0 H1 ∧ hWt T0 H1) ∧ (Ab_214_146 n6 n5 n4 n3 n2 n7 n1 n0 H0 H1 ∧ True) ∧ some q0 = some (mub_214_146 n6 n5 n4 n3 n2 n7 n1 n0 H0 H1)) (f13 : n8 = 34) (f14 : n8 ≤ n0) (f15 : n9 = 0) (f16 : (hLe T0 H1 H2 ∧ hFr s_213.2.2.2.2 H1 H2 ∧ ((0 : Int) = 0 → H2.length = H1.length) ∧ hWt T0 H2) ∧ postb_213 n5 n1 n4 n9 n7 H1 H2) (f17 : n10 = w32 (n4 + n2)) : 0 ≤ n10 := by
  have g4 := f12.2.1.1
  unfold Ab_214_146 at g4
  unfold postb_213 at f16
  have e1 : hV H1 285 4 = hV H0 285 4 := (f12.1.2.1.1 285 4 kF_214_285_4)
  have e2 : (0 : Int) ≤ hV H1 285 10 ∧ hV H1 285 10 ≤ 501 := f12.1.2.2 285 10 _ _ kW_285_10
  have e3 : (0 : Int) ≤ hV H0 285 4 ∧ hV H0 285 4 ≤ 2000 := bTo e1 (f12.1.2.2 285 4 _ _ kW_285_4)
  have e4 : (0 : Int) ≤ hV H2 285 10 ∧ hV H2 285 10 ≤ 501 := f16.1.2.2.2 285 10 _ _ kW_285_10
  have y0 := g4.1
  have y1 := g4.2
  have r0_0 := f16.2
  try simp only [e1] at y0
  clear g4
  clear e1
  clear f12 f16
  first
  | (have ix0 : n10 = n4 + n2 := Eq.trans f17 (w32_iv (Iad (Iat f9 f8) (Iat f5 f4)) (by decide)); subst ix0; clear f17)
  | (have ix0 : n10 = n4 + n2 := Eq.trans f17 (w32_id (by (first | lia | omega)) (by (first | lia | omega))); subst ix0; clear f17)
  | (unfold w32 at f17; have ix0 : n10 = n4 + n2 := (by (first | lia | omega)); subst ix0)
  | skip
  try unfold w32 at f17
  (first | lia | omega)
def g_214_146_1 : vG := ([(1, [10, 2, 4], [], 0), (1213, [1, 6, 2, 9, 5], [1, 2], 0), (0, [9], [], 0), (43, [7, 8], [], 0), (0, [8], [], 34), (5000, [0, 1, 2, 3, 4, 5, 6, 7], [0, 1], 146), (0, [0], [], 285), (0, [1], [], 285), (90, [2], [], 0), (91, [2], [], 2000), (90, [3], [], -2147483648), (91, [3], [], 2147483647), (90, [4], [], 0), (91, [4], [], 2000), (90, [6], [], 0), (91, [6], [], 53), (90, [7], [], 0), (91, [7], [], 100)], (90, [10], [], 0))
theorem c_214_146_1 {q0 : Nat} : vOkm T0 (eP e_214 L_214 A_214 mu_214 (some q0)) 1 g_214_146_1 := vOk_inI fun ρ η f0 f1 f2 f3 f4 f5 f6 f7 f8 f9 f10 f11 f12 f13 f14 f15 f16 f17 => q_214_41 (q0 := q0) (n0 := ρ 7) (n1 := ρ 6) (n2 := ρ 4) (n3 := ρ 3) (n4 := ρ 2) (n5 := ρ 1) (n6 := ρ 0) (n7 := ρ 5) (n8 := ρ 8) (n9 := ρ 9) (n10 := ρ 10) (H0 := η 0) (H1 := η 1) (H2 := η 2) f17 f16 f15 f14 f13 f12 f11 f10 f9 f8 f7 f6 f5 f4 f3 f2 f1 f0
theorem q_214_42 {q0 : Nat} {n0 n1 n2 n3 n4 n5 n6 n7 n8 n9 n10 : Int} {H0 H1 H2 : gH} (f0 : n0 ≤ 100) (f1 : 0 ≤ n0) (f2 : n1 ≤ 53) (f3 : 0 ≤ n1) (f4 : n2 ≤ 2000) (f5 : 0 ≤ n2) (f6 : n3 ≤ 2147483647) (f7 : (-2147483648) ≤ n3) (f8 : n4 ≤ 2000) (f9 : 0 ≤ n4) (f10 : n5 = 285) (f11 : n6 = 285) (f12 : (hLe T0 H0 H1 ∧ hFr s_214.2.2.2.2 H0 H1 ∧ hWt T0 H1) ∧ (Ab_214_146 n6 n5 n4 n3 n2 n7 n1 n0 H0 H1 ∧ True) ∧ some q0 = some (mub_214_146 n6 n5 n4 n3 n2 n7 n1 n0 H0 H1)) (f13 : n8 = 34) (f14 : n8 ≤ n0) (f15 : n9 = 0) (f16 : (hLe T0 H1 H2 ∧ hFr s_213.2.2.2.2 H1 H2 ∧ ((0 : Int) = 0 → H2.length = H1.length) ∧ hWt T0 H2) ∧ postb_213 n5 n1 n4 n9 n7 H1 H2) (f17 : n10 = w32 (n4 + n2)) : n10 ≤ 2000 := by
  have g4 := f12.2.1.1
  unfold Ab_214_146 at g4
  unfold postb_213 at f16
  have e1 : hV H1 285 4 = hV H0 285 4 := (f12.1.2.1.1 285 4 kF_214_285_4)
  have e2 : (0 : Int) ≤ hV H1 285 10 ∧ hV H1 285 10 ≤ 501 := f12.1.2.2 285 10 _ _ kW_285_10
  have e3 : (0 : Int) ≤ hV H0 285 4 ∧ hV H0 285 4 ≤ 2000 := bTo e1 (f12.1.2.2 285 4 _ _ kW_285_4)
  have e4 : (0 : Int) ≤ hV H2 285 10 ∧ hV H2 285 10 ≤ 501 := f16.1.2.2.2 285 10 _ _ kW_285_10
  have y0 := g4.1
  have y1 := g4.2
  have r0_0 := f16.2
  try simp only [e1] at y0
  clear g4
  clear e1
  clear f12 f16
  first
  | (have ix0 : n10 = n4 + n2 := Eq.trans f17 (w32_iv (Iad (Iat f9 f8) (Iat f5 f4)) (by decide)); subst ix0; clear f17)
  | (have ix0 : n10 = n4 + n2 := Eq.trans f17 (w32_id (by (first | lia | omega)) (by (first | lia | omega))); subst ix0; clear f17)
  | (unfold w32 at f17; have ix0 : n10 = n4 + n2 := (by (first | lia | omega)); subst ix0)
  | skip
  try unfold w32 at f17
  (first | lia | omega)
def g_214_146_2 : vG := ([(1, [10, 2, 4], [], 0), (1213, [1, 6, 2, 9, 5], [1, 2], 0), (0, [9], [], 0), (43, [7, 8], [], 0), (0, [8], [], 34), (5000, [0, 1, 2, 3, 4, 5, 6, 7], [0, 1], 146), (0, [0], [], 285), (0, [1], [], 285), (90, [2], [], 0), (91, [2], [], 2000), (90, [3], [], -2147483648), (91, [3], [], 2147483647), (90, [4], [], 0), (91, [4], [], 2000), (90, [6], [], 0), (91, [6], [], 53), (90, [7], [], 0), (91, [7], [], 100)], (91, [10], [], 2000))
theorem c_214_146_2 {q0 : Nat} : vOkm T0 (eP e_214 L_214 A_214 mu_214 (some q0)) 1 g_214_146_2 := vOk_inI fun ρ η f0 f1 f2 f3 f4 f5 f6 f7 f8 f9 f10 f11 f12 f13 f14 f15 f16 f17 => q_214_42 (q0 := q0) (n0 := ρ 7) (n1 := ρ 6) (n2 := ρ 4) (n3 := ρ 3) (n4 := ρ 2) (n5 := ρ 1) (n6 := ρ 0) (n7 := ρ 5) (n8 := ρ 8) (n9 := ρ 9) (n10 := ρ 10) (H0 := η 0) (H1 := η 1) (H2 := η 2) f17 f16 f15 f14 f13 f12 f11 f10 f9 f8 f7 f6 f5 f4 f3 f2 f1 f0
theorem q_214_43 {q0 : Nat} {n0 n1 n2 n3 n4 n5 n6 n7 n8 n9 n10 : Int} {H0 H1 H2 : gH} (f0 : n0 ≤ 100) (f1 : 0 ≤ n0) (f2 : n1 ≤ 53) (f3 : 0 ≤ n1) (f4 : n2 ≤ 2000) (f5 : 0 ≤ n2) (f6 : n3 ≤ 2147483647) (f7 : (-2147483648) ≤ n3) (f8 : n4 ≤ 2000) (f9 : 0 ≤ n4) (f10 : n5 = 285) (f11 : n6 = 285) (f12 : (hLe T0 H0 H1 ∧ hFr s_214.2.2.2.2 H0 H1 ∧ hWt T0 H1) ∧ (Ab_214_146 n6 n5 n4 n3 n2 n7 n1 n0 H0 H1 ∧ True) ∧ some q0 = some (mub_214_146 n6 n5 n4 n3 n2 n7 n1 n0 H0 H1)) (f13 : n8 = 34) (f14 : n8 ≤ n0) (f15 : n9 = 0) (f16 : (hLe T0 H1 H2 ∧ hFr s_213.2.2.2.2 H1 H2 ∧ ((0 : Int) = 0 → H2.length = H1.length) ∧ hWt T0 H2) ∧ postb_213 n5 n1 n4 n9 n7 H1 H2) (f17 : n10 = w32 (n4 + n2)) : Ab_214_7 n6 n5 n10 H0 H2 ∧ ∀ q, some q0 = some q → mub_214_7 n6 n5 n10 H0 H2 < q := by
  have g4 := f12.2.1.1
  unfold Ab_214_146 at g4
  have g5 := Option.some.inj f12.2.2
  unfold mub_214_146 at g5
  unfold postb_213 at f16
  unfold Ab_214_7
  unfold mub_214_7
  have e1 : hV H1 285 4 = hV H0 285 4 := (f12.1.2.1.1 285 4 kF_214_285_4)
  have e3 : hV H2 285 4 = hV H0 285 4 := ((f16.1.2.1.1 285 4 kF_213_285_4)).trans (f12.1.2.1.1 285 4 kF_214_285_4)
  have e4 : (0 : Int) ≤ hV H1 285 10 ∧ hV H1 285 10 ≤ 501 := f12.1.2.2 285 10 _ _ kW_285_10
  have e5 : (0 : Int) ≤ hV H0 285 4 ∧ hV H0 285 4 ≤ 2000 := bTo e1 (f12.1.2.2 285 4 _ _ kW_285_4)
  have e6 : (0 : Int) ≤ hV H2 285 10 ∧ hV H2 285 10 ≤ 501 := f16.1.2.2.2 285 10 _ _ kW_285_10
  try simp only [e3]
  have y0 := g4.1
  have y1 := g4.2
  have r0_0 := f16.2
  try simp only [e1] at y0
  clear g4
  clear e1 e3
  clear f12 f16
  first
  | (have ix0 : n10 = n4 + n2 := Eq.trans f17 (w32_iv (Iad (Iat f9 f8) (Iat f5 f4)) (by decide)); subst ix0; clear f17)
  | (have ix0 : n10 = n4 + n2 := Eq.trans f17 (w32_id (by (first | lia | omega)) (by (first | lia | omega))); subst ix0; clear f17)
  | (unfold w32 at f17; have ix0 : n10 = n4 + n2 := (by (first | lia | omega)); subst ix0)
  | skip
  try unfold w32 at f17
  refine ⟨?_, fun q hq => ?_⟩
  · first | assumption | (first | lia | omega) | trivial
  · have g6 := Option.some.inj hq
    subst g6
    (first | lia | omega)
def g_214_146_3 : vG := ([(1, [10, 2, 4], [], 0), (1213, [1, 6, 2, 9, 5], [1, 2], 0), (0, [9], [], 0), (43, [7, 8], [], 0), (0, [8], [], 34), (5000, [0, 1, 2, 3, 4, 5, 6, 7], [0, 1], 146), (0, [0], [], 285), (0, [1], [], 285), (90, [2], [], 0), (91, [2], [], 2000), (90, [3], [], -2147483648), (91, [3], [], 2147483647), (90, [4], [], 0), (91, [4], [], 2000), (90, [6], [], 0), (91, [6], [], 53), (90, [7], [], 0), (91, [7], [], 100)], (4000, [1, 10], [2], 7))
theorem c_214_146_3 {q0 : Nat} : vOkm T0 (eP e_214 L_214 A_214 mu_214 (some q0)) 1 g_214_146_3 := vOk_inI fun ρ η f0 f1 f2 f3 f4 f5 f6 f7 f8 f9 f10 f11 f12 f13 f14 f15 f16 f17 => q_214_43 (q0 := q0) (n0 := ρ 7) (n1 := ρ 6) (n2 := ρ 4) (n3 := ρ 3) (n4 := ρ 2) (n5 := ρ 1) (n6 := ρ 0) (n7 := ρ 5) (n8 := ρ 8) (n9 := ρ 9) (n10 := ρ 10) (H0 := η 0) (H1 := η 1) (H2 := η 2) f17 f16 f15 f14 f13 f12 f11 f10 f9 f8 f7 f6 f5 f4 f3 f2 f1 f0
theorem q_214_44 {q0 : Nat} {n0 n1 n2 n3 n4 n5 n6 n7 n8 : Int} {H0 H1 : gH} (f0 : n0 ≤ 100) (f1 : 0 ≤ n0) (f2 : n1 ≤ 53) (f3 : 0 ≤ n1) (f4 : n2 ≤ 2000) (f5 : 0 ≤ n2) (f6 : n3 ≤ 2147483647) (f7 : (-2147483648) ≤ n3) (f8 : n4 ≤ 2000) (f9 : 0 ≤ n4) (f10 : n5 = 285) (f11 : n6 = 285) (f12 : (hLe T0 H0 H1 ∧ hFr s_214.2.2.2.2 H0 H1 ∧ hWt T0 H1) ∧ (Ab_214_146 n6 n5 n4 n3 n2 n7 n1 n0 H0 H1 ∧ True) ∧ some q0 = some (mub_214_146 n6 n5 n4 n3 n2 n7 n1 n0 H0 H1)) (f13 : n8 = 34) (f14 : n0 < n8) : 0 ≤ n0 ∧ n0 < 34 := by
  have g4 := f12.2.1.1
  unfold Ab_214_146 at g4
  have e1 : hV H1 285 4 = hV H0 285 4 := (f12.1.2.1.1 285 4 kF_214_285_4)
  have e2 : (0 : Int) ≤ hV H1 285 10 ∧ hV H1 285 10 ≤ 501 := f12.1.2.2 285 10 _ _ kW_285_10
  have e3 : (0 : Int) ≤ hV H0 285 4 ∧ hV H0 285 4 ≤ 2000 := bTo e1 (f12.1.2.2 285 4 _ _ kW_285_4)
  have y0 := g4.1
  have y1 := g4.2
  try simp only [e1] at y0
  clear g4
  clear e1
  clear f12
  (first | lia | omega)
def g_214_146_4 : vG := ([(42, [7, 8], [], 0), (0, [8], [], 34), (5000, [0, 1, 2, 3, 4, 5, 6, 7], [0, 1], 146), (0, [0], [], 285), (0, [1], [], 285), (90, [2], [], 0), (91, [2], [], 2000), (90, [3], [], -2147483648), (91, [3], [], 2147483647), (90, [4], [], 0), (91, [4], [], 2000), (90, [6], [], 0), (91, [6], [], 53), (90, [7], [], 0), (91, [7], [], 100)], (70, [7], [], 34))
theorem c_214_146_4 {q0 : Nat} : vOkm T0 (eP e_214 L_214 A_214 mu_214 (some q0)) 1 g_214_146_4 := vOk_inI fun ρ η f0 f1 f2 f3 f4 f5 f6 f7 f8 f9 f10 f11 f12 f13 f14 => q_214_44 (q0 := q0) (n0 := ρ 7) (n1 := ρ 6) (n2 := ρ 4) (n3 := ρ 3) (n4 := ρ 2) (n5 := ρ 1) (n6 := ρ 0) (n7 := ρ 5) (n8 := ρ 8) (H0 := η 0) (H1 := η 1) f14 f13 f12 f11 f10 f9 f8 f7 f6 f5 f4 f3 f2 f1 f0
theorem q_214_45 {q0 : Nat} {n0 n1 n2 n3 n4 n5 n6 n7 n8 n9 : Int} {H0 H1 : gH} (f0 : n0 ≤ 100) (f1 : 0 ≤ n0) (f2 : n1 ≤ 53) (f3 : 0 ≤ n1) (f4 : n2 ≤ 2000) (f5 : 0 ≤ n2) (f6 : n3 ≤ 2147483647) (f7 : (-2147483648) ≤ n3) (f8 : n4 ≤ 2000) (f9 : 0 ≤ n4) (f10 : n5 = 285) (f11 : n6 = 285) (f12 : (hLe T0 H0 H1 ∧ hFr s_214.2.2.2.2 H0 H1 ∧ hWt T0 H1) ∧ (Ab_214_146 n6 n5 n4 n3 n2 n7 n1 n0 H0 H1 ∧ True) ∧ some q0 = some (mub_214_146 n6 n5 n4 n3 n2 n7 n1 n0 H0 H1)) (f13 : n8 = 34) (f14 : n0 < n8) (f15 : n9 = w32 (n0 + 1)) : 0 ≤ n9 := by
  have g4 := f12.2.1.1
  unfold Ab_214_146 at g4
  have e1 : hV H1 285 4 = hV H0 285 4 := (f12.1.2.1.1 285 4 kF_214_285_4)
  have e2 : (0 : Int) ≤ hV H1 285 10 ∧ hV H1 285 10 ≤ 501 := f12.1.2.2 285 10 _ _ kW_285_10
  have e3 : (0 : Int) ≤ hV H0 285 4 ∧ hV H0 285 4 ≤ 2000 := bTo e1 (f12.1.2.2 285 4 _ _ kW_285_4)
  have y0 := g4.1
  have y1 := g4.2
  try simp only [e1] at y0
  clear g4
  clear e1
  clear f12
  first
  | (have ix0 : n9 = n0 + 1 := Eq.trans f15 (w32_iv (Iad (Iat f1 f0) (IC 1)) (by decide)); subst ix0; clear f15)
  | (have ix0 : n9 = n0 + 1 := Eq.trans f15 (w32_id (by (first | lia | omega)) (by (first | lia | omega))); subst ix0; clear f15)
  | (unfold w32 at f15; have ix0 : n9 = n0 + 1 := (by (first | lia | omega)); subst ix0)
  | skip
  try unfold w32 at f15
  (first | lia | omega)
def g_214_146_5 : vG := ([(10, [12, 7], [], 1), (42, [7, 8], [], 0), (0, [8], [], 34), (5000, [0, 1, 2, 3, 4, 5, 6, 7], [0, 1], 146), (0, [0], [], 285), (0, [1], [], 285), (90, [2], [], 0), (91, [2], [], 2000), (90, [3], [], -2147483648), (91, [3], [], 2147483647), (90, [4], [], 0), (91, [4], [], 2000), (90, [6], [], 0), (91, [6], [], 53), (90, [7], [], 0), (91, [7], [], 100)], (90, [12], [], 0))
theorem c_214_146_5 {q0 : Nat} : vOkm T0 (eP e_214 L_214 A_214 mu_214 (some q0)) 1 g_214_146_5 := vOk_inI fun ρ η f0 f1 f2 f3 f4 f5 f6 f7 f8 f9 f10 f11 f12 f13 f14 f15 => q_214_45 (q0 := q0) (n0 := ρ 7) (n1 := ρ 6) (n2 := ρ 4) (n3 := ρ 3) (n4 := ρ 2) (n5 := ρ 1) (n6 := ρ 0) (n7 := ρ 5) (n8 := ρ 8) (n9 := ρ 12) (H0 := η 0) (H1 := η 1) f15 f14 f13 f12 f11 f10 f9 f8 f7 f6 f5 f4 f3 f2 f1 f0
theorem q_214_46 {q0 : Nat} {n0 n1 n2 n3 n4 n5 n6 n7 n8 n9 : Int} {H0 H1 : gH} (f0 : n0 ≤ 100) (f1 : 0 ≤ n0) (f2 : n1 ≤ 53) (f3 : 0 ≤ n1) (f4 : n2 ≤ 2000) (f5 : 0 ≤ n2) (f6 : n3 ≤ 2147483647) (f7 : (-2147483648) ≤ n3) (f8 : n4 ≤ 2000) (f9 : 0 ≤ n4) (f10 : n5 = 285) (f11 : n6 = 285) (f12 : (hLe T0 H0 H1 ∧ hFr s_214.2.2.2.2 H0 H1 ∧ hWt T0 H1) ∧ (Ab_214_146 n6 n5 n4 n3 n2 n7 n1 n0 H0 H1 ∧ True) ∧ some q0 = some (mub_214_146 n6 n5 n4 n3 n2 n7 n1 n0 H0 H1)) (f13 : n8 = 34) (f14 : n0 < n8) (f15 : n9 = w32 (n0 + 1)) : n9 ≤ 100 := by
  have g4 := f12.2.1.1
  unfold Ab_214_146 at g4
  have e1 : hV H1 285 4 = hV H0 285 4 := (f12.1.2.1.1 285 4 kF_214_285_4)
  have e2 : (0 : Int) ≤ hV H1 285 10 ∧ hV H1 285 10 ≤ 501 := f12.1.2.2 285 10 _ _ kW_285_10
  have e3 : (0 : Int) ≤ hV H0 285 4 ∧ hV H0 285 4 ≤ 2000 := bTo e1 (f12.1.2.2 285 4 _ _ kW_285_4)
  have y0 := g4.1
  have y1 := g4.2
  try simp only [e1] at y0
  clear g4
  clear e1
  clear f12
  first
  | (have ix0 : n9 = n0 + 1 := Eq.trans f15 (w32_iv (Iad (Iat f1 f0) (IC 1)) (by decide)); subst ix0; clear f15)
  | (have ix0 : n9 = n0 + 1 := Eq.trans f15 (w32_id (by (first | lia | omega)) (by (first | lia | omega))); subst ix0; clear f15)
  | (unfold w32 at f15; have ix0 : n9 = n0 + 1 := (by (first | lia | omega)); subst ix0)
  | skip
  try unfold w32 at f15
  (first | lia | omega)
def g_214_146_6 : vG := ([(10, [12, 7], [], 1), (42, [7, 8], [], 0), (0, [8], [], 34), (5000, [0, 1, 2, 3, 4, 5, 6, 7], [0, 1], 146), (0, [0], [], 285), (0, [1], [], 285), (90, [2], [], 0), (91, [2], [], 2000), (90, [3], [], -2147483648), (91, [3], [], 2147483647), (90, [4], [], 0), (91, [4], [], 2000), (90, [6], [], 0), (91, [6], [], 53), (90, [7], [], 0), (91, [7], [], 100)], (91, [12], [], 100))
theorem c_214_146_6 {q0 : Nat} : vOkm T0 (eP e_214 L_214 A_214 mu_214 (some q0)) 1 g_214_146_6 := vOk_inI fun ρ η f0 f1 f2 f3 f4 f5 f6 f7 f8 f9 f10 f11 f12 f13 f14 f15 => q_214_46 (q0 := q0) (n0 := ρ 7) (n1 := ρ 6) (n2 := ρ 4) (n3 := ρ 3) (n4 := ρ 2) (n5 := ρ 1) (n6 := ρ 0) (n7 := ρ 5) (n8 := ρ 8) (n9 := ρ 12) (H0 := η 0) (H1 := η 1) f15 f14 f13 f12 f11 f10 f9 f8 f7 f6 f5 f4 f3 f2 f1 f0
theorem q_214_47 {q0 : Nat} {n0 n1 n2 n3 n4 n5 n6 n7 n8 n9 : Int} {H0 H1 : gH} (f0 : n0 ≤ 100) (f1 : 0 ≤ n0) (f2 : n1 ≤ 53) (f3 : 0 ≤ n1) (f4 : n2 ≤ 2000) (f5 : 0 ≤ n2) (f6 : n3 ≤ 2147483647) (f7 : (-2147483648) ≤ n3) (f8 : n4 ≤ 2000) (f9 : 0 ≤ n4) (f10 : n5 = 285) (f11 : n6 = 285) (f12 : (hLe T0 H0 H1 ∧ hFr s_214.2.2.2.2 H0 H1 ∧ hWt T0 H1) ∧ (Ab_214_146 n6 n5 n4 n3 n2 n7 n1 n0 H0 H1 ∧ True) ∧ some q0 = some (mub_214_146 n6 n5 n4 n3 n2 n7 n1 n0 H0 H1)) (f13 : n8 = 34) (f14 : n0 < n8) (f15 : n9 = w32 (n0 + 1)) : Ab_214_146 n6 n5 n4 n3 n2 n7 n1 n9 H0 H1 ∧ ∀ q, some q0 = some q → mub_214_146 n6 n5 n4 n3 n2 n7 n1 n9 H0 H1 < q := by
  have g4 := f12.2.1.1
  unfold Ab_214_146 at g4
  have g5 := Option.some.inj f12.2.2
  unfold mub_214_146 at g5
  unfold Ab_214_146
  unfold mub_214_146
  have e1 : hV H1 285 4 = hV H0 285 4 := (f12.1.2.1.1 285 4 kF_214_285_4)
  have e2 : (0 : Int) ≤ hV H1 285 10 ∧ hV H1 285 10 ≤ 501 := f12.1.2.2 285 10 _ _ kW_285_10
  have e3 : (0 : Int) ≤ hV H0 285 4 ∧ hV H0 285 4 ≤ 2000 := bTo e1 (f12.1.2.2 285 4 _ _ kW_285_4)
  try simp only [e1]
  have y0 := g4.1
  have y1 := g4.2
  try simp only [e1] at y0
  clear g4
  clear e1
  clear f12
  first
  | (have ix0 : n9 = n0 + 1 := Eq.trans f15 (w32_iv (Iad (Iat f1 f0) (IC 1)) (by decide)); subst ix0; clear f15)
  | (have ix0 : n9 = n0 + 1 := Eq.trans f15 (w32_id (by (first | lia | omega)) (by (first | lia | omega))); subst ix0; clear f15)
  | (unfold w32 at f15; have ix0 : n9 = n0 + 1 := (by (first | lia | omega)); subst ix0)
  | skip
  try unfold w32 at f15
  refine ⟨?_, fun q hq => ?_⟩
  · refine ⟨?_, ?_⟩ <;> first | assumption | (first | lia | omega) | trivial
  · have g6 := Option.some.inj hq
    subst g6
    (first | lia | omega)
def g_214_146_7 : vG := ([(10, [12, 7], [], 1), (42, [7, 8], [], 0), (0, [8], [], 34), (5000, [0, 1, 2, 3, 4, 5, 6, 7], [0, 1], 146), (0, [0], [], 285), (0, [1], [], 285), (90, [2], [], 0), (91, [2], [], 2000), (90, [3], [], -2147483648), (91, [3], [], 2147483647), (90, [4], [], 0), (91, [4], [], 2000), (90, [6], [], 0), (91, [6], [], 53), (90, [7], [], 0), (91, [7], [], 100)], (4000, [1, 2, 3, 4, 5, 6, 12], [1], 146))
theorem c_214_146_7 {q0 : Nat} : vOkm T0 (eP e_214 L_214 A_214 mu_214 (some q0)) 1 g_214_146_7 := vOk_inI fun ρ η f0 f1 f2 f3 f4 f5 f6 f7 f8 f9 f10 f11 f12 f13 f14 f15 => q_214_47 (q0 := q0) (n0 := ρ 7) (n1 := ρ 6) (n2 := ρ 4) (n3 := ρ 3) (n4 := ρ 2) (n5 := ρ 1) (n6 := ρ 0) (n7 := ρ 5) (n8 := ρ 8) (n9 := ρ 12) (H0 := η 0) (H1 := η 1) f15 f14 f13 f12 f11 f10 f9 f8 f7 f6 f5 f4 f3 f2 f1 f0
theorem q_214_48 {q0 : Nat} {n0 n1 n2 n3 n4 n5 n6 n7 n8 n9 n10 n11 : Int} {H0 H1 : gH} (f0 : n0 ≤ 100) (f1 : 0 ≤ n0) (f2 : n1 ≤ 53) (f3 : 0 ≤ n1) (f4 : n2 ≤ 2000) (f5 : 0 ≤ n2) (f6 : n3 ≤ 2147483647) (f7 : (-2147483648) ≤ n3) (f8 : n4 ≤ 2000) (f9 : 0 ≤ n4) (f10 : n5 = 285) (f11 : n6 = 285) (f12 : (hLe T0 H0 H1 ∧ hFr s_214.2.2.2.2 H0 H1 ∧ hWt T0 H1) ∧ (Ab_214_146 n6 n5 n4 n3 n2 n7 n1 n0 H0 H1 ∧ True) ∧ some q0 = some (mub_214_146 n6 n5 n4 n3 n2 n7 n1 n0 H0 H1)) (f13 : n8 = 34) (f14 : n0 < n8) (f15 : n9 = 20) (f16 : n10 = w32 (n9 + n0)) (f17 : n11 = w32 (n0 + 1)) : 0 ≤ n10 := by
  have g4 := f12.2.1.1
  unfold Ab_214_146 at g4
  have e1 : hV H1 285 4 = hV H0 285 4 := (f12.1.2.1.1 285 4 kF_214_285_4)
  have e2 : (0 : Int) ≤ hV H1 285 10 ∧ hV H1 285 10 ≤ 501 := f12.1.2.2 285 10 _ _ kW_285_10
  have e3 : (0 : Int) ≤ hV H0 285 4 ∧ hV H0 285 4 ≤ 2000 := bTo e1 (f12.1.2.2 285 4 _ _ kW_285_4)
  have y0 := g4.1
  have y1 := g4.2
  try simp only [e1] at y0
  clear g4
  clear e1
  clear f12
  first
  | (have ix0 : n10 = 20 + n0 := Eq.trans f16 (w32_iv (Iad (IC 20) (Iat f1 f0)) (by decide)); subst ix0; clear f16)
  | (have ix0 : n10 = 20 + n0 := Eq.trans f16 (w32_id (by (first | lia | omega)) (by (first | lia | omega))); subst ix0; clear f16)
  | (unfold w32 at f16; have ix0 : n10 = 20 + n0 := (by (first | lia | omega)); subst ix0)
  | skip
  try unfold w32 at f16
  try unfold w32 at f17
  (first | lia | omega)
def g_214_146_8 : vG := ([(10, [14, 7], [], 1), (1, [13, 12, 7], [], 0), (0, [12], [], 20), (42, [7, 8], [], 0), (0, [8], [], 34), (5000, [0, 1, 2, 3, 4, 5, 6, 7], [0, 1], 146), (0, [0], [], 285), (0, [1], [], 285), (90, [2], [], 0), (91, [2], [], 2000), (90, [3], [], -2147483648), (91, [3], [], 2147483647), (90, [4], [], 0), (91, [4], [], 2000), (90, [6], [], 0), (91, [6], [], 53), (90, [7], [], 0), (91, [7], [], 100)], (90, [13], [], 0))
theorem c_214_146_8 {q0 : Nat} : vOkm T0 (eP e_214 L_214 A_214 mu_214 (some q0)) 1 g_214_146_8 := vOk_inI fun ρ η f0 f1 f2 f3 f4 f5 f6 f7 f8 f9 f10 f11 f12 f13 f14 f15 f16 f17 => q_214_48 (q0 := q0) (n0 := ρ 7) (n1 := ρ 6) (n2 := ρ 4) (n3 := ρ 3) (n4 := ρ 2) (n5 := ρ 1) (n6 := ρ 0) (n7 := ρ 5) (n8 := ρ 8) (n9 := ρ 12) (n10 := ρ 13) (n11 := ρ 14) (H0 := η 0) (H1 := η 1) f17 f16 f15 f14 f13 f12 f11 f10 f9 f8 f7 f6 f5 f4 f3 f2 f1 f0
theorem q_214_49 {q0 : Nat} {n0 n1 n2 n3 n4 n5 n6 n7 n8 n9 n10 n11 : Int} {H0 H1 : gH} (f0 : n0 ≤ 100) (f1 : 0 ≤ n0) (f2 : n1 ≤ 53) (f3 : 0 ≤ n1) (f4 : n2 ≤ 2000) (f5 : 0 ≤ n2) (f6 : n3 ≤ 2147483647) (f7 : (-2147483648) ≤ n3) (f8 : n4 ≤ 2000) (f9 : 0 ≤ n4) (f10 : n5 = 285) (f11 : n6 = 285) (f12 : (hLe T0 H0 H1 ∧ hFr s_214.2.2.2.2 H0 H1 ∧ hWt T0 H1) ∧ (Ab_214_146 n6 n5 n4 n3 n2 n7 n1 n0 H0 H1 ∧ True) ∧ some q0 = some (mub_214_146 n6 n5 n4 n3 n2 n7 n1 n0 H0 H1)) (f13 : n8 = 34) (f14 : n0 < n8) (f15 : n9 = 20) (f16 : n10 = w32 (n9 + n0)) (f17 : n11 = w32 (n0 + 1)) : n10 ≤ 53 := by
  have g4 := f12.2.1.1
  unfold Ab_214_146 at g4
  have e1 : hV H1 285 4 = hV H0 285 4 := (f12.1.2.1.1 285 4 kF_214_285_4)
  have e2 : (0 : Int) ≤ hV H1 285 10 ∧ hV H1 285 10 ≤ 501 := f12.1.2.2 285 10 _ _ kW_285_10
  have e3 : (0 : Int) ≤ hV H0 285 4 ∧ hV H0 285 4 ≤ 2000 := bTo e1 (f12.1.2.2 285 4 _ _ kW_285_4)
  have y0 := g4.1
  have y1 := g4.2
  try simp only [e1] at y0
  clear g4
  clear e1
  clear f12
  first
  | (have ix0 : n10 = 20 + n0 := Eq.trans f16 (w32_iv (Iad (IC 20) (Iat f1 f0)) (by decide)); subst ix0; clear f16)
  | (have ix0 : n10 = 20 + n0 := Eq.trans f16 (w32_id (by (first | lia | omega)) (by (first | lia | omega))); subst ix0; clear f16)
  | (unfold w32 at f16; have ix0 : n10 = 20 + n0 := (by (first | lia | omega)); subst ix0)
  | skip
  try unfold w32 at f16
  try unfold w32 at f17
  (first | lia | omega)
def g_214_146_9 : vG := ([(10, [14, 7], [], 1), (1, [13, 12, 7], [], 0), (0, [12], [], 20), (42, [7, 8], [], 0), (0, [8], [], 34), (5000, [0, 1, 2, 3, 4, 5, 6, 7], [0, 1], 146), (0, [0], [], 285), (0, [1], [], 285), (90, [2], [], 0), (91, [2], [], 2000), (90, [3], [], -2147483648), (91, [3], [], 2147483647), (90, [4], [], 0), (91, [4], [], 2000), (90, [6], [], 0), (91, [6], [], 53), (90, [7], [], 0), (91, [7], [], 100)], (91, [13], [], 53))
theorem c_214_146_9 {q0 : Nat} : vOkm T0 (eP e_214 L_214 A_214 mu_214 (some q0)) 1 g_214_146_9 := vOk_inI fun ρ η f0 f1 f2 f3 f4 f5 f6 f7 f8 f9 f10 f11 f12 f13 f14 f15 f16 f17 => q_214_49 (q0 := q0) (n0 := ρ 7) (n1 := ρ 6) (n2 := ρ 4) (n3 := ρ 3) (n4 := ρ 2) (n5 := ρ 1) (n6 := ρ 0) (n7 := ρ 5) (n8 := ρ 8) (n9 := ρ 12) (n10 := ρ 13) (n11 := ρ 14) (H0 := η 0) (H1 := η 1) f17 f16 f15 f14 f13 f12 f11 f10 f9 f8 f7 f6 f5 f4 f3 f2 f1 f0
theorem q_214_50 {q0 : Nat} {n0 n1 n2 n3 n4 n5 n6 n7 n8 n9 n10 n11 : Int} {H0 H1 : gH} (f0 : n0 ≤ 100) (f1 : 0 ≤ n0) (f2 : n1 ≤ 53) (f3 : 0 ≤ n1) (f4 : n2 ≤ 2000) (f5 : 0 ≤ n2) (f6 : n3 ≤ 2147483647) (f7 : (-2147483648) ≤ n3) (f8 : n4 ≤ 2000) (f9 : 0 ≤ n4) (f10 : n5 = 285) (f11 : n6 = 285) (f12 : (hLe T0 H0 H1 ∧ hFr s_214.2.2.2.2 H0 H1 ∧ hWt T0 H1) ∧ (Ab_214_146 n6 n5 n4 n3 n2 n7 n1 n0 H0 H1 ∧ True) ∧ some q0 = some (mub_214_146 n6 n5 n4 n3 n2 n7 n1 n0 H0 H1)) (f13 : n8 = 34) (f14 : n0 < n8) (f15 : n9 = 20) (f16 : n10 = w32 (n9 + n0)) (f17 : n11 = w32 (n0 + 1)) : 0 ≤ n11 := by
  have g4 := f12.2.1.1
  unfold Ab_214_146 at g4
  have e1 : hV H1 285 4 = hV H0 285 4 := (f12.1.2.1.1 285 4 kF_214_285_4)
  have e2 : (0 : Int) ≤ hV H1 285 10 ∧ hV H1 285 10 ≤ 501 := f12.1.2.2 285 10 _ _ kW_285_10
  have e3 : (0 : Int) ≤ hV H0 285 4 ∧ hV H0 285 4 ≤ 2000 := bTo e1 (f12.1.2.2 285 4 _ _ kW_285_4)
  have y0 := g4.1
  have y1 := g4.2
  try simp only [e1] at y0
  clear g4
  clear e1
  clear f12
  first
  | (have ix0 : n11 = n0 + 1 := Eq.trans f17 (w32_iv (Iad (Iat f1 f0) (IC 1)) (by decide)); subst ix0; clear f17)
  | (have ix0 : n11 = n0 + 1 := Eq.trans f17 (w32_id (by (first | lia | omega)) (by (first | lia | omega))); subst ix0; clear f17)
  | (unfold w32 at f17; have ix0 : n11 = n0 + 1 := (by (first | lia | omega)); subst ix0)
  | skip
  try unfold w32 at f16
  try unfold w32 at f17
  (first | lia | omega)
def g_214_146_10 : vG := ([(10, [14, 7], [], 1), (1, [13, 12, 7], [], 0), (0, [12], [], 20), (42, [7, 8], [], 0), (0, [8], [], 34), (5000, [0, 1, 2, 3, 4, 5, 6, 7], [0, 1], 146), (0, [0], [], 285), (0, [1], [], 285), (90, [2], [], 0), (91, [2], [], 2000), (90, [3], [], -2147483648), (91, [3], [], 2147483647), (90, [4], [], 0), (91, [4], [], 2000), (90, [6], [], 0), (91, [6], [], 53), (90, [7], [], 0), (91, [7], [], 100)], (90, [14], [], 0))
theorem c_214_146_10 {q0 : Nat} : vOkm T0 (eP e_214 L_214 A_214 mu_214 (some q0)) 1 g_214_146_10 := vOk_inI fun ρ η f0 f1 f2 f3 f4 f5 f6 f7 f8 f9 f10 f11 f12 f13 f14 f15 f16 f17 => q_214_50 (q0 := q0) (n0 := ρ 7) (n1 := ρ 6) (n2 := ρ 4) (n3 := ρ 3) (n4 := ρ 2) (n5 := ρ 1) (n6 := ρ 0) (n7 := ρ 5) (n8 := ρ 8) (n9 := ρ 12) (n10 := ρ 13) (n11 := ρ 14) (H0 := η 0) (H1 := η 1) f17 f16 f15 f14 f13 f12 f11 f10 f9 f8 f7 f6 f5 f4 f3 f2 f1 f0
theorem q_214_51 {q0 : Nat} {n0 n1 n2 n3 n4 n5 n6 n7 n8 n9 n10 n11 : Int} {H0 H1 : gH} (f0 : n0 ≤ 100) (f1 : 0 ≤ n0) (f2 : n1 ≤ 53) (f3 : 0 ≤ n1) (f4 : n2 ≤ 2000) (f5 : 0 ≤ n2) (f6 : n3 ≤ 2147483647) (f7 : (-2147483648) ≤ n3) (f8 : n4 ≤ 2000) (f9 : 0 ≤ n4) (f10 : n5 = 285) (f11 : n6 = 285) (f12 : (hLe T0 H0 H1 ∧ hFr s_214.2.2.2.2 H0 H1 ∧ hWt T0 H1) ∧ (Ab_214_146 n6 n5 n4 n3 n2 n7 n1 n0 H0 H1 ∧ True) ∧ some q0 = some (mub_214_146 n6 n5 n4 n3 n2 n7 n1 n0 H0 H1)) (f13 : n8 = 34) (f14 : n0 < n8) (f15 : n9 = 20) (f16 : n10 = w32 (n9 + n0)) (f17 : n11 = w32 (n0 + 1)) : n11 ≤ 100 := by
  have g4 := f12.2.1.1
  unfold Ab_214_146 at g4
  have e1 : hV H1 285 4 = hV H0 285 4 := (f12.1.2.1.1 285 4 kF_214_285_4)
  have e2 : (0 : Int) ≤ hV H1 285 10 ∧ hV H1 285 10 ≤ 501 := f12.1.2.2 285 10 _ _ kW_285_10
  have e3 : (0 : Int) ≤ hV H0 285 4 ∧ hV H0 285 4 ≤ 2000 := bTo e1 (f12.1.2.2 285 4 _ _ kW_285_4)
  have y0 := g4.1
  have y1 := g4.2
  try simp only [e1] at y0
  clear g4
  clear e1
  clear f12
  first
  | (have ix0 : n11 = n0 + 1 := Eq.trans f17 (w32_iv (Iad (Iat f1 f0) (IC 1)) (by decide)); subst ix0; clear f17)
  | (have ix0 : n11 = n0 + 1 := Eq.trans f17 (w32_id (by (first | lia | omega)) (by (first | lia | omega))); subst ix0; clear f17)
  | (unfold w32 at f17; have ix0 : n11 = n0 + 1 := (by (first | lia | omega)); subst ix0)
  | skip
  try unfold w32 at f16
  try unfold w32 at f17
  (first | lia | omega)
def g_214_146_11 : vG := ([(10, [14, 7], [], 1), (1, [13, 12, 7], [], 0), (0, [12], [], 20), (42, [7, 8], [], 0), (0, [8], [], 34), (5000, [0, 1, 2, 3, 4, 5, 6, 7], [0, 1], 146), (0, [0], [], 285), (0, [1], [], 285), (90, [2], [], 0), (91, [2], [], 2000), (90, [3], [], -2147483648), (91, [3], [], 2147483647), (90, [4], [], 0), (91, [4], [], 2000), (90, [6], [], 0), (91, [6], [], 53), (90, [7], [], 0), (91, [7], [], 100)], (91, [14], [], 100))
theorem c_214_146_11 {q0 : Nat} : vOkm T0 (eP e_214 L_214 A_214 mu_214 (some q0)) 1 g_214_146_11 := vOk_inI fun ρ η f0 f1 f2 f3 f4 f5 f6 f7 f8 f9 f10 f11 f12 f13 f14 f15 f16 f17 => q_214_51 (q0 := q0) (n0 := ρ 7) (n1 := ρ 6) (n2 := ρ 4) (n3 := ρ 3) (n4 := ρ 2) (n5 := ρ 1) (n6 := ρ 0) (n7 := ρ 5) (n8 := ρ 8) (n9 := ρ 12) (n10 := ρ 13) (n11 := ρ 14) (H0 := η 0) (H1 := η 1) f17 f16 f15 f14 f13 f12 f11 f10 f9 f8 f7 f6 f5 f4 f3 f2 f1 f0
theorem q_214_52 {q0 : Nat} {n0 n1 n2 n3 n4 n5 n6 n7 n8 n9 n10 n11 : Int} {H0 H1 : gH} (f0 : n0 ≤ 100) (f1 : 0 ≤ n0) (f2 : n1 ≤ 53) (f3 : 0 ≤ n1) (f4 : n2 ≤ 2000) (f5 : 0 ≤ n2) (f6 : n3 ≤ 2147483647) (f7 : (-2147483648) ≤ n3) (f8 : n4 ≤ 2000) (f9 : 0 ≤ n4) (f10 : n5 = 285) (f11 : n6 = 285) (f12 : (hLe T0 H0 H1 ∧ hFr s_214.2.2.2.2 H0 H1 ∧ hWt T0 H1) ∧ (Ab_214_146 n6 n5 n4 n3 n2 n7 n1 n0 H0 H1 ∧ True) ∧ some q0 = some (mub_214_146 n6 n5 n4 n3 n2 n7 n1 n0 H0 H1)) (f13 : n8 = 34) (f14 : n0 < n8) (f15 : n9 = 20) (f16 : n10 = w32 (n9 + n0)) (f17 : n11 = w32 (n0 + 1)) : Ab_214_146 n6 n5 n4 n3 n2 n7 n10 n11 H0 H1 ∧ ∀ q, some q0 = some q → mub_214_146 n6 n5 n4 n3 n2 n7 n10 n11 H0 H1 < q := by
  have g4 := f12.2.1.1
  unfold Ab_214_146 at g4
  have g5 := Option.some.inj f12.2.2
  unfold mub_214_146 at g5
  unfold Ab_214_146
  unfold mub_214_146
  have e1 : hV H1 285 4 = hV H0 285 4 := (f12.1.2.1.1 285 4 kF_214_285_4)
  have e2 : (0 : Int) ≤ hV H1 285 10 ∧ hV H1 285 10 ≤ 501 := f12.1.2.2 285 10 _ _ kW_285_10
  have e3 : (0 : Int) ≤ hV H0 285 4 ∧ hV H0 285 4 ≤ 2000 := bTo e1 (f12.1.2.2 285 4 _ _ kW_285_4)
  try simp only [e1]
  have y0 := g4.1
  have y1 := g4.2
  try simp only [e1] at y0
  clear g4
  clear e1
  clear f12
  first
  | (have ix0 : n10 = 20 + n0 := Eq.trans f16 (w32_iv (Iad (IC 20) (Iat f1 f0)) (by decide)); subst ix0; clear f16)
  | (have ix0 : n10 = 20 + n0 := Eq.trans f16 (w32_id (by (first | lia | omega)) (by (first | lia | omega))); subst ix0; clear f16)
  | (unfold w32 at f16; have ix0 : n10 = 20 + n0 := (by (first | lia | omega)); subst ix0)
  | skip
  first
  | (have ix1 : n11 = n0 + 1 := Eq.trans f17 (w32_iv (Iad (Iat f1 f0) (IC 1)) (by decide)); subst ix1; clear f17)
  | (have ix1 : n11 = n0 + 1 := Eq.trans f17 (w32_id (by (first | lia | omega)) (by (first | lia | omega))); subst ix1; clear f17)
  | (unfold w32 at f17; have ix1 : n11 = n0 + 1 := (by (first | lia | omega)); subst ix1)
  | skip
  try unfold w32 at f16
  try unfold w32 at f17
  refine ⟨?_, fun q hq => ?_⟩
  · refine ⟨?_, ?_⟩ <;> first | assumption | (first | lia | omega) | trivial
  · have g6 := Option.some.inj hq
    subst g6
    (first | lia | omega)
def g_214_146_12 : vG := ([(10, [14, 7], [], 1), (1, [13, 12, 7], [], 0), (0, [12], [], 20), (42, [7, 8], [], 0), (0, [8], [], 34), (5000, [0, 1, 2, 3, 4, 5, 6, 7], [0, 1], 146), (0, [0], [], 285), (0, [1], [], 285), (90, [2], [], 0), (91, [2], [], 2000), (90, [3], [], -2147483648), (91, [3], [], 2147483647), (90, [4], [], 0), (91, [4], [], 2000), (90, [6], [], 0), (91, [6], [], 53), (90, [7], [], 0), (91, [7], [], 100)], (4000, [1, 2, 3, 4, 5, 13, 14], [1], 146))
theorem c_214_146_12 {q0 : Nat} : vOkm T0 (eP e_214 L_214 A_214 mu_214 (some q0)) 1 g_214_146_12 := vOk_inI fun ρ η f0 f1 f2 f3 f4 f5 f6 f7 f8 f9 f10 f11 f12 f13 f14 f15 f16 f17 => q_214_52 (q0 := q0) (n0 := ρ 7) (n1 := ρ 6) (n2 := ρ 4) (n3 := ρ 3) (n4 := ρ 2) (n5 := ρ 1) (n6 := ρ 0) (n7 := ρ 5) (n8 := ρ 8) (n9 := ρ 12) (n10 := ρ 13) (n11 := ρ 14) (H0 := η 0) (H1 := η 1) f17 f16 f15 f14 f13 f12 f11 f10 f9 f8 f7 f6 f5 f4 f3 f2 f1 f0
def p_214_146 : List vG := [g_214_146_0,
  g_214_146_1,
  g_214_146_2,
  g_214_146_3,
  g_214_146_4,
  g_214_146_5,
  g_214_146_6,
  g_214_146_7,
  g_214_146_8,
  g_214_146_9,
  g_214_146_10,
  g_214_146_11,
  g_214_146_12]
theorem r_214_146 : vCovO true (eRc e_214 L_214 cs_214 2000 (146, [(0, (3, 12, 285, 0)), (1, (0, 0, 2000, 0)), (2, (0, -2147483648, 2147483647, 0)), (3, (0, 0, 2000, 0)), (4, (1, 0, 0, 0)), (6, (0, 0, 53, 0)), (7, (0, 0, 100, 0))])) p_214_146 = true := by decide +kernel
theorem q_214_53 {q0 : Nat} {n0 n1 n2 n3 n4 n5 n6 : Int} {H0 H1 : gH} (f0 : n0 ≤ 9999) (f1 : 0 ≤ n0) (f2 : n1 ≤ 2000) (f3 : 0 ≤ n1) (f4 : n2 ≤ 2147483647) (f5 : (-2147483648) ≤ n2) (f6 : n3 ≤ 2000) (f7 : 0 ≤ n3) (f8 : n4 = 285) (f9 : n5 = 285) (f10 : (hLe T0 H0 H1 ∧ hFr s_214.2.2.2.2 H0 H1 ∧ hWt T0 H1) ∧ (Ab_214_208 n5 n4 n3 n2 n1 n0 H0 H1 ∧ True) ∧ some q0 = some (mub_214_208 n5 n4 n3 n2 n1 n0 H0 H1)) (f11 : n6 = w32 (n3 + n1)) : preb_208 n4 n6 H1 := by
  have g4 := f10.2.1.1
  unfold Ab_214_208 at g4
  unfold preb_208
  have e1 : hV H1 285 4 = hV H0 285 4 := (f10.1.2.1.1 285 4 kF_214_285_4)
  have e2 : (0 : Int) ≤ hV H1 285 10 ∧ hV H1 285 10 ≤ 501 := f10.1.2.2 285 10 _ _ kW_285_10
  have e3 : (0 : Int) ≤ hV H0 285 4 ∧ hV H0 285 4 ≤ 2000 := bTo e1 (f10.1.2.2 285 4 _ _ kW_285_4)
  have y0 := g4.1
  have y1 := g4.2.1
  have y2 := g4.2.2.1
  have y3 := g4.2.2.2.1
  have y4 := g4.2.2.2.2.1
  have y5 := g4.2.2.2.2.2
  try simp only [e1] at y0
  clear g4
  clear e1
  clear f10
  first
  | (have ix0 : n6 = n3 + n1 := Eq.trans f11 (w32_iv (Iad (Iat f7 f6) (Iat f3 f2)) (by decide)); subst ix0; clear f11)
  | (have ix0 : n6 = n3 + n1 := Eq.trans f11 (w32_id (by (first | lia | omega)) (by (first | lia | omega))); subst ix0; clear f11)
  | (unfold w32 at f11; have ix0 : n6 = n3 + n1 := (by (first | lia | omega)); subst ix0)
  | skip
  try unfold w32 at f11
  first | assumption | (first | lia | omega) | trivial
def g_214_208_0 : vG := ([(1, [6, 2, 4], [], 0), (5000, [0, 1, 2, 3, 4, 5], [0, 1], 208), (0, [0], [], 285), (0, [1], [], 285), (90, [2], [], 0), (91, [2], [], 2000), (90, [3], [], -2147483648), (91, [3], [], 2147483647), (90, [4], [], 0), (91, [4], [], 2000), (90, [5], [], 0), (91, [5], [], 9999)], (2208, [1, 6], [1], 0))
theorem c_214_208_0 {q0 : Nat} : vOkm T0 (eP e_214 L_214 A_214 mu_214 (some q0)) 1 g_214_208_0 := vOk_inI fun ρ η f0 f1 f2 f3 f4 f5 f6 f7 f8 f9 f10 f11 => q_214_53 (q0 := q0) (n0 := ρ 5) (n1 := ρ 4) (n2 := ρ 3) (n3 := ρ 2) (n4 := ρ 1) (n5 := ρ 0) (n6 := ρ 6) (H0 := η 0) (H1 := η 1) f11 f10 f9 f8 f7 f6 f5 f4 f3 f2 f1 f0
theorem q_214_54 {q0 : Nat} {n0 n1 n2 n3 n4 n5 n6 n7 n8 n9 n10 n11 : Int} {H0 H1 H2 H3 : gH} (f0 : n0 ≤ 9999) (f1 : 0 ≤ n0) (f2 : n1 ≤ 2000) (f3 : 0 ≤ n1) (f4 : n2 ≤ 2147483647) (f5 : (-2147483648) ≤ n2) (f6 : n3 ≤ 2000) (f7 : 0 ≤ n3) (f8 : n4 = 285) (f9 : n5 = 285) (f10 : (hLe T0 H0 H1 ∧ hFr s_214.2.2.2.2 H0 H1 ∧ hWt T0 H1) ∧ (Ab_214_208 n5 n4 n3 n2 n1 n0 H0 H1 ∧ True) ∧ some q0 = some (mub_214_208 n5 n4 n3 n2 n1 n0 H0 H1)) (f11 : n6 = w32 (n3 + n1)) (f12 : n7 ≤ 255) (f13 : 0 ≤ n7) (f14 : (hLe T0 H1 H2 ∧ hFr s_208.2.2.2.2 H1 H2 ∧ ((0 : Int) = 0 → H2.length = H1.length) ∧ hWt T0 H2) ∧ postb_208 n7 n4 n6 H1 H2) (f15 : n8 ≤ 1) (f16 : 0 ≤ n8) (f17 : (hLe T0 H2 H3 ∧ hFr s_209.2.2.2.2 H2 H3 ∧ ((0 : Int) = 0 → H3.length = H2.length) ∧ hWt T0 H3) ∧ postb_209 n8 n7 H2 H3) (f18 : n8 = 0) (f19 : n9 = 4) (f20 : n1 ≤ n9) (f21 : n10 = 2) (f22 : n11 = 0) : preb_213 n4 n10 n3 n0 n11 H3 := by
  have g4 := f10.2.1.1
  unfold Ab_214_208 at g4
  unfold postb_208 at f14
  unfold postb_209 at f17
  unfold preb_213
  have e1 : hV H1 285 4 = hV H0 285 4 := (f10.1.2.1.1 285 4 kF_214_285_4)
  have e3 : hV H2 285 4 = hV H0 285 4 := ((f14.1.2.1.1 285 4 kF_208_285_4)).trans (f10.1.2.1.1 285 4 kF_214_285_4)
  have e6 : hV H2 287 = hV H0 287 := (fRow f14.1.2.1 287 kR_208_287).trans (fRow f10.1.2.1 287 kR_214_287)
  have e9 : hV H3 285 10 = hV H1 285 10 := ((f17.1.2.1.1 285 10 kF_209_285_10)).trans (f14.1.2.1.1 285 10 kF_208_285_10)
  have e10 : (0 : Int) ≤ hV H1 285 10 ∧ hV H1 285 10 ≤ 501 := f10.1.2.2 285 10 _ _ kW_285_10
  have e11 : (0 : Int) ≤ hV H0 285 4 ∧ hV H0 285 4 ≤ 2000 := bTo e1 (f10.1.2.2 285 4 _ _ kW_285_4)
  try simp only [e9]
  have y0 := g4.1
  have y1 := g4.2.1
  have y2 := g4.2.2.1
  have y3 := g4.2.2.2.1
  have y4 := g4.2.2.2.2.1
  have y5 := g4.2.2.2.2.2
  have r0_0 := f14.2.1
  have r0_1 := f14.2.2
  have r1_0 := f17.2
  try simp only [e1] at y0
  try simp only [e3, e6] at r0_0
  try simp only [e3] at r0_1
  clear g4
  clear e1 e3 e6 e9
  clear f10 f14 f17
  unfold w32 at f11
  first | assumption | (first | lia | omega) | trivial
def g_214_208_1 : vG := ([(0, [11], [], 0), (0, [10], [], 2), (45, [4, 9], [], 0), (0, [9], [], 4), (30, [8], [], 0), (1209, [8, 7], [2, 3], 0), (90, [8], [], 0), (91, [8], [], 1), (1208, [7, 1, 6], [1, 2], 0), (90, [7], [], 0), (91, [7], [], 255), (1, [6, 2, 4], [], 0), (5000, [0, 1, 2, 3, 4, 5], [0, 1], 208), (0, [0], [], 285), (0, [1], [], 285), (90, [2], [], 0), (91, [2], [], 2000), (90, [3], [], -2147483648), (91, [3], [], 2147483647), (90, [4], [], 0), (91, [4], [], 2000), (90, [5], [], 0), (91, [5], [], 9999)], (2213, [1, 10, 2, 5, 11], [3], 0))
theorem c_214_208_1 {q0 : Nat} : vOkm T0 (eP e_214 L_214 A_214 mu_214 (some q0)) 1 g_214_208_1 := vOk_inI fun ρ η f0 f1 f2 f3 f4 f5 f6 f7 f8 f9 f10 f11 f12 f13 f14 f15 f16 f17 f18 f19 f20 f21 f22 => q_214_54 (q0 := q0) (n0 := ρ 5) (n1 := ρ 4) (n2 := ρ 3) (n3 := ρ 2) (n4 := ρ 1) (n5 := ρ 0) (n6 := ρ 6) (n7 := ρ 7) (n8 := ρ 8) (n9 := ρ 9) (n10 := ρ 10) (n11 := ρ 11) (H0 := η 0) (H1 := η 1) (H2 := η 2) (H3 := η 3) f22 f21 f20 f19 f18 f17 f16 f15 f14 f13 f12 f11 f10 f9 f8 f7 f6 f5 f4 f3 f2 f1 f0
theorem q_214_55 {q0 : Nat} {n0 n1 n2 n3 n4 n5 n6 n7 n8 n9 n10 n11 n12 : Int} {H0 H1 H2 H3 H4 : gH} (f0 : n0 ≤ 9999) (f1 : 0 ≤ n0) (f2 : n1 ≤ 2000) (f3 : 0 ≤ n1) (f4 : n2 ≤ 2147483647) (f5 : (-2147483648) ≤ n2) (f6 : n3 ≤ 2000) (f7 : 0 ≤ n3) (f8 : n4 = 285) (f9 : n5 = 285) (f10 : (hLe T0 H0 H1 ∧ hFr s_214.2.2.2.2 H0 H1 ∧ hWt T0 H1) ∧ (Ab_214_208 n5 n4 n3 n2 n1 n0 H0 H1 ∧ True) ∧ some q0 = some (mub_214_208 n5 n4 n3 n2 n1 n0 H0 H1)) (f11 : n6 = w32 (n3 + n1)) (f12 : n7 ≤ 255) (f13 : 0 ≤ n7) (f14 : (hLe T0 H1 H2 ∧ hFr s_208.2.2.2.2 H1 H2 ∧ ((0 : Int) = 0 → H2.length = H1.length) ∧ hWt T0 H2) ∧ postb_208 n7 n4 n6 H1 H2) (f15 : n8 ≤ 1) (f16 : 0 ≤ n8) (f17 : (hLe T0 H2 H3 ∧ hFr s_209.2.2.2.2 H2 H3 ∧ ((0 : Int) = 0 → H3.length = H2.length) ∧ hWt T0 H3) ∧ postb_209 n8 n7 H2 H3) (f18 : n8 = 0) (f19 : n9 = 4) (f20 : n1 ≤ n9) (f21 : n10 = 2) (f22 : n11 = 0) (f23 : (hLe T0 H3 H4 ∧ hFr s_213.2.2.2.2 H3 H4 ∧ ((0 : Int) = 0 → H4.length = H3.length) ∧ hWt T0 H4) ∧ postb_213 n4 n10 n3 n0 n11 H3 H4) (f24 : n12 = w32 (n3 + n1)) : 0 ≤ n12 := by
  have g4 := f10.2.1.1
  unfold Ab_214_208 at g4
  have sm24 : n6 = n12 := f11.trans f24.symm
  subst sm24
  unfold postb_208 at f14
  unfold postb_209 at f17
  unfold postb_213 at f23
  have e1 : hV H1 285 4 = hV H0 285 4 := (f10.1.2.1.1 285 4 kF_214_285_4)
  have e3 : hV H2 285 4 = hV H0 285 4 := ((f14.1.2.1.1 285 4 kF_208_285_4)).trans (f10.1.2.1.1 285 4 kF_214_285_4)
  have e6 : hV H2 287 = hV H0 287 := (fRow f14.1.2.1 287 kR_208_287).trans (fRow f10.1.2.1 287 kR_214_287)
  have e9 : hV H3 285 10 = hV H1 285 10 := ((f17.1.2.1.1 285 10 kF_209_285_10)).trans (f14.1.2.1.1 285 10 kF_208_285_10)
  have e10 : (0 : Int) ≤ hV H1 285 10 ∧ hV H1 285 10 ≤ 501 := f10.1.2.2 285 10 _ _ kW_285_10
  have e11 : (0 : Int) ≤ hV H0 285 4 ∧ hV H0 285 4 ≤ 2000 := bTo e1 (f10.1.2.2 285 4 _ _ kW_285_4)
  have e14 : (0 : Int) ≤ hV H4 285 10 ∧ hV H4 285 10 ≤ 501 := f23.1.2.2.2 285 10 _ _ kW_285_10
  have y0 := g4.1
  have y1 := g4.2.1
  have y2 := g4.2.2.1
  have y3 := g4.2.2.2.1
  have y4 := g4.2.2.2.2.1
  have y5 := g4.2.2.2.2.2
  have r0_0 := f14.2.1
  have r0_1 := f14.2.2
  have r1_0 := f17.2
  have r2_0 := f23.2
  try simp only [e1] at y0
  try simp only [e3, e6] at r0_0
  try simp only [e3] at r0_1
  try simp only [e9] at r2_0
  clear g4
  clear e1 e3 e6 e9
  clear f10 f14 f17 f23
  first
  | (have ix0 : n6 = n3 + n1 := Eq.trans f11 (w32_id (by (first | lia | omega)) (by (first | lia | omega))); subst ix0; clear f11)
  | (unfold w32 at f11; have ix0 : n6 = n3 + n1 := (by (first | lia | omega)); subst ix0)
  | skip
  try unfold w32 at f11
  try unfold w32 at f24
  (first | lia | omega)
def g_214_208_2 : vG := ([(1, [12, 2, 4], [], 0), (1213, [1, 10, 2, 5, 11], [3, 4], 0), (0, [11], [], 0), (0, [10], [], 2), (45, [4, 9], [], 0), (0, [9], [], 4), (30, [8], [], 0), (1209, [8, 7], [2, 3], 0), (90, [8], [], 0), (91, [8], [], 1), (1208, [7, 1, 6], [1, 2], 0), (90, [7], [], 0), (91, [7], [], 255), (1, [6, 2, 4], [], 0), (5000, [0, 1, 2, 3, 4, 5], [0, 1], 208), (0, [0], [], 285), (0, [1], [], 285), (90, [2], [], 0), (91, [2], [], 2000), (90, [3], [], -2147483648), (91, [3], [], 2147483647), (90, [4], [], 0), (91, [4], [], 2000), (90, [5], [], 0), (91, [5], [], 9999)], (90, [12], [], 0))
theorem c_214_208_2 {q0 : Nat} : vOkm T0 (eP e_214 L_214 A_214 mu_214 (some q0)) 1 g_214_208_2 := vOk_inI fun ρ η f0 f1 f2 f3 f4 f5 f6 f7 f8 f9 f10 f11 f12 f13 f14 f15 f16 f17 f18 f19 f20 f21 f22 f23 f24 => q_214_55 (q0 := q0) (n0 := ρ 5) (n1 := ρ 4) (n2 := ρ 3) (n3 := ρ 2) (n4 := ρ 1) (n5 := ρ 0) (n6 := ρ 6) (n7 := ρ 7) (n8 := ρ 8) (n9 := ρ 9) (n10 := ρ 10) (n11 := ρ 11) (n12 := ρ 12) (H0 := η 0) (H1 := η 1) (H2 := η 2) (H3 := η 3) (H4 := η 4) f24 f23 f22 f21 f20 f19 f18 f17 f16 f15 f14 f13 f12 f11 f10 f9 f8 f7 f6 f5 f4 f3 f2 f1 f0
theorem q_214_56 {q0 : Nat} {n0 n1 n2 n3 n4 n5 n6 n7 n8 n9 n10 n11 n12 : Int} {H0 H1 H2 H3 H4 : gH} (f0 : n0 ≤ 9999) (f1 : 0 ≤ n0) (f2 : n1 ≤ 2000) (f3 : 0 ≤ n1) (f4 : n2 ≤ 2147483647) (f5 : (-2147483648) ≤ n2) (f6 : n3 ≤ 2000) (f7 : 0 ≤ n3) (f8 : n4 = 285) (f9 : n5 = 285) (f10 : (hLe T0 H0 H1 ∧ hFr s_214.2.2.2.2 H0 H1 ∧ hWt T0 H1) ∧ (Ab_214_208 n5 n4 n3 n2 n1 n0 H0 H1 ∧ True) ∧ some q0 = some (mub_214_208 n5 n4 n3 n2 n1 n0 H0 H1)) (f11 : n6 = w32 (n3 + n1)) (f12 : n7 ≤ 255) (f13 : 0 ≤ n7) (f14 : (hLe T0 H1 H2 ∧ hFr s_208.2.2.2.2 H1 H2 ∧ ((0 : Int) = 0 → H2.length = H1.length) ∧ hWt T0 H2) ∧ postb_208 n7 n4 n6 H1 H2) (f15 : n8 ≤ 1) (f16 : 0 ≤ n8) (f17 : (hLe T0 H2 H3 ∧ hFr s_209.2.2.2.2 H2 H3 ∧ ((0 : Int) = 0 → H3.length = H2.length) ∧ hWt T0 H3) ∧ postb_209 n8 n7 H2 H3) (f18 : n8 = 0) (f19 : n9 = 4) (f20 : n1 ≤ n9) (f21 : n10 = 2) (f22 : n11 = 0) (f23 : (hLe T0 H3 H4 ∧ hFr s_213.2.2.2.2 H3 H4 ∧ ((0 : Int) = 0 → H4.length = H3.length) ∧ hWt T0 H4) ∧ postb_213 n4 n10 n3 n0 n11 H3 H4) (f24 : n12 = w32 (n3 + n1)) : n12 ≤ 2000 := by
  have g4 := f10.2.1.1
  unfold Ab_214_208 at g4
  have sm24 : n6 = n12 := f11.trans f24.symm
  subst sm24
  unfold postb_208 at f14
  unfold postb_209 at f17
  unfold postb_213 at f23
  have e1 : hV H1 285 4 = hV H0 285 4 := (f10.1.2.1.1 285 4 kF_214_285_4)
  have e3 : hV H2 285 4 = hV H0 285 4 := ((f14.1.2.1.1 285 4 kF_208_285_4)).trans (f10.1.2.1.1 285 4 kF_214_285_4)
  have e6 : hV H2 287 = hV H0 287 := (fRow f14.1.2.1 287 kR_208_287).trans (fRow f10.1.2.1 287 kR_214_287)
  have e9 : hV H3 285 10 = hV H1 285 10 := ((f17.1.2.1.1 285 10 kF_209_285_10)).trans (f14.1.2.1.1 285 10 kF_208_285_10)
  have e10 : (0 : Int) ≤ hV H1 285 10 ∧ hV H1 285 10 ≤ 501 := f10.1.2.2 285 10 _ _ kW_285_10
  have e11 : (0 : Int) ≤ hV H0 285 4 ∧ hV H0 285 4 ≤ 2000 := bTo e1 (f10.1.2.2 285 4 _ _ kW_285_4)
  have e14 : (0 : Int) ≤ hV H4 285 10 ∧ hV H4 285 10 ≤ 501 := f23.1.2.2.2 285 10 _ _ kW_285_10
  have y0 := g4.1
  have y1 := g4.2.1
  have y2 := g4.2.2.1
  have y3 := g4.2.2.2.1
  have y4 := g4.2.2.2.2.1
  have y5 := g4.2.2.2.2.2
  have r0_0 := f14.2.1
  have r0_1 := f14.2.2
  have r1_0 := f17.2
  have r2_0 := f23.2
  try simp only [e1] at y0
  try simp only [e3, e6] at r0_0
  try simp only [e3] at r0_1
  try simp only [e9] at r2_0
  clear g4
  clear e1 e3 e6 e9
  clear f10 f14 f17 f23
  first
  | (have ix0 : n6 = n3 + n1 := Eq.trans f11 (w32_id (by (first | lia | omega)) (by (first | lia | omega))); subst ix0; clear f11)
  | (unfold w32 at f11; have ix0 : n6 = n3 + n1 := (by (first | lia | omega)); subst ix0)
  | skip
  try unfold w32 at f11
  try unfold w32 at f24
  (first | lia | omega)
def g_214_208_3 : vG := ([(1, [12, 2, 4], [], 0), (1213, [1, 10, 2, 5, 11], [3, 4], 0), (0, [11], [], 0), (0, [10], [], 2), (45, [4, 9], [], 0), (0, [9], [], 4), (30, [8], [], 0), (1209, [8, 7], [2, 3], 0), (90, [8], [], 0), (91, [8], [], 1), (1208, [7, 1, 6], [1, 2], 0), (90, [7], [], 0), (91, [7], [], 255), (1, [6, 2, 4], [], 0), (5000, [0, 1, 2, 3, 4, 5], [0, 1], 208), (0, [0], [], 285), (0, [1], [], 285), (90, [2], [], 0), (91, [2], [], 2000), (90, [3], [], -2147483648), (91, [3], [], 2147483647), (90, [4], [], 0), (91, [4], [], 2000), (90, [5], [], 0), (91, [5], [], 9999)], (91, [12], [], 2000))
theorem c_214_208_3 {q0 : Nat} : vOkm T0 (eP e_214 L_214 A_214 mu_214 (some q0)) 1 g_214_208_3 := vOk_inI fun ρ η f0 f1 f2 f3 f4 f5 f6 f7 f8 f9 f10 f11 f12 f13 f14 f15 f16 f17 f18 f19 f20 f21 f22 f23 f24 => q_214_56 (q0 := q0) (n0 := ρ 5) (n1 := ρ 4) (n2 := ρ 3) (n3 := ρ 2) (n4 := ρ 1) (n5 := ρ 0) (n6 := ρ 6) (n7 := ρ 7) (n8 := ρ 8) (n9 := ρ 9) (n10 := ρ 10) (n11 := ρ 11) (n12 := ρ 12) (H0 := η 0) (H1 := η 1) (H2 := η 2) (H3 := η 3) (H4 := η 4) f24 f23 f22 f21 f20 f19 f18 f17 f16 f15 f14 f13 f12 f11 f10 f9 f8 f7 f6 f5 f4 f3 f2 f1 f0
theorem q_214_57 {q0 : Nat} {n0 n1 n2 n3 n4 n5 n6 n7 n8 n9 n10 n11 n12 : Int} {H0 H1 H2 H3 H4 : gH} (f0 : n0 ≤ 9999) (f1 : 0 ≤ n0) (f2 : n1 ≤ 2000) (f3 : 0 ≤ n1) (f4 : n2 ≤ 2147483647) (f5 : (-2147483648) ≤ n2) (f6 : n3 ≤ 2000) (f7 : 0 ≤ n3) (f8 : n4 = 285) (f9 : n5 = 285) (f10 : (hLe T0 H0 H1 ∧ hFr s_214.2.2.2.2 H0 H1 ∧ hWt T0 H1) ∧ (Ab_214_208 n5 n4 n3 n2 n1 n0 H0 H1 ∧ True) ∧ some q0 = some (mub_214_208 n5 n4 n3 n2 n1 n0 H0 H1)) (f11 : n6 = w32 (n3 + n1)) (f12 : n7 ≤ 255) (f13 : 0 ≤ n7) (f14 : (hLe T0 H1 H2 ∧ hFr s_208.2.2.2.2 H1 H2 ∧ ((0 : Int) = 0 → H2.length = H1.length) ∧ hWt T0 H2) ∧ postb_208 n7 n4 n6 H1 H2) (f15 : n8 ≤ 1) (f16 : 0 ≤ n8) (f17 : (hLe T0 H2 H3 ∧ hFr s_209.2.2.2.2 H2 H3 ∧ ((0 : Int) = 0 → H3.length = H2.length) ∧ hWt T0 H3) ∧ postb_209 n8 n7 H2 H3) (f18 : n8 = 0) (f19 : n9 = 4) (f20 : n1 ≤ n9) (f21 : n10 = 2) (f22 : n11 = 0) (f23 : (hLe T0 H3 H4 ∧ hFr s_213.2.2.2.2 H3 H4 ∧ ((0 : Int) = 0 → H4.length = H3.length) ∧ hWt T0 H4) ∧ postb_213 n4 n10 n3 n0 n11 H3 H4) (f24 : n12 = w32 (n3 + n1)) : Ab_214_7 n5 n4 n12 H0 H4 ∧ ∀ q, some q0 = some q → mub_214_7 n5 n4 n12 H0 H4 < q := by
  have g4 := f10.2.1.1
  unfold Ab_214_208 at g4
  have g5 := Option.some.inj f10.2.2
  unfold mub_214_208 at g5
  have sm24 : n6 = n12 := f11.trans f24.symm
  subst sm24
  unfold postb_208 at f14
  unfold postb_209 at f17
  unfold postb_213 at f23
  unfold Ab_214_7
  unfold mub_214_7
  have e1 : hV H1 285 4 = hV H0 285 4 := (f10.1.2.1.1 285 4 kF_214_285_4)
  have e3 : hV H2 285 4 = hV H0 285 4 := ((f14.1.2.1.1 285 4 kF_208_285_4)).trans (f10.1.2.1.1 285 4 kF_214_285_4)
  have e6 : hV H2 287 = hV H0 287 := (fRow f14.1.2.1 287 kR_208_287).trans (fRow f10.1.2.1 287 kR_214_287)
  have e9 : hV H3 285 10 = hV H1 285 10 := ((f17.1.2.1.1 285 10 kF_209_285_10)).trans (f14.1.2.1.1 285 10 kF_208_285_10)
  have e12 : hV H4 285 4 = hV H0 285 4 := ((f23.1.2.1.1 285 4 kF_213_285_4)).trans (((f17.1.2.1.1 285 4 kF_209_285_4)).trans (((f14.1.2.1.1 285 4 kF_208_285_4)).trans (f10.1.2.1.1 285 4 kF_214_285_4)))
  have e13 : (0 : Int) ≤ hV H1 285 10 ∧ hV H1 285 10 ≤ 501 := f10.1.2.2 285 10 _ _ kW_285_10
  have e14 : (0 : Int) ≤ hV H0 285 4 ∧ hV H0 285 4 ≤ 2000 := bTo e1 (f10.1.2.2 285 4 _ _ kW_285_4)
  have e17 : (0 : Int) ≤ hV H4 285 10 ∧ hV H4 285 10 ≤ 501 := f23.1.2.2.2 285 10 _ _ kW_285_10
  try simp only [e12]
  have y0 := g4.1
  have y1 := g4.2.1
  have y2 := g4.2.2.1
  have y3 := g4.2.2.2.1
  have y4 := g4.2.2.2.2.1
  have y5 := g4.2.2.2.2.2
  have r0_0 := f14.2.1
  have r0_1 := f14.2.2
  have r1_0 := f17.2
  have r2_0 := f23.2
  try simp only [e1] at y0
  try simp only [e3, e6] at r0_0
  try simp only [e3] at r0_1
  try simp only [e9] at r2_0
  clear g4
  clear e1 e3 e6 e9 e12
  clear f10 f14 f17 f23
  first
  | (have ix0 : n6 = n3 + n1 := Eq.trans f11 (w32_id (by (first | lia | omega)) (by (first | lia | omega))); subst ix0; clear f11)
  | (unfold w32 at f11; have ix0 : n6 = n3 + n1 := (by (first | lia | omega)); subst ix0)
  | skip
  try unfold w32 at f11
  try unfold w32 at f24
  refine ⟨?_, fun q hq => ?_⟩
  · first | assumption | (first | lia | omega) | trivial
  · have g6 := Option.some.inj hq
    subst g6
    (first | lia | omega)
def g_214_208_4 : vG := ([(1, [12, 2, 4], [], 0), (1213, [1, 10, 2, 5, 11], [3, 4], 0), (0, [11], [], 0), (0, [10], [], 2), (45, [4, 9], [], 0), (0, [9], [], 4), (30, [8], [], 0), (1209, [8, 7], [2, 3], 0), (90, [8], [], 0), (91, [8], [], 1), (1208, [7, 1, 6], [1, 2], 0), (90, [7], [], 0), (91, [7], [], 255), (1, [6, 2, 4], [], 0), (5000, [0, 1, 2, 3, 4, 5], [0, 1], 208), (0, [0], [], 285), (0, [1], [], 285), (90, [2], [], 0), (91, [2], [], 2000), (90, [3], [], -2147483648), (91, [3], [], 2147483647), (90, [4], [], 0), (91, [4], [], 2000), (90, [5], [], 0), (91, [5], [], 9999)], (4000, [1, 12], [4], 7))
theorem c_214_208_4 {q0 : Nat} : vOkm T0 (eP e_214 L_214 A_214 mu_214 (some q0)) 1 g_214_208_4 := vOk_inI fun ρ η f0 f1 f2 f3 f4 f5 f6 f7 f8 f9 f10 f11 f12 f13 f14 f15 f16 f17 f18 f19 f20 f21 f22 f23 f24 => q_214_57 (q0 := q0) (n0 := ρ 5) (n1 := ρ 4) (n2 := ρ 3) (n3 := ρ 2) (n4 := ρ 1) (n5 := ρ 0) (n6 := ρ 6) (n7 := ρ 7) (n8 := ρ 8) (n9 := ρ 9) (n10 := ρ 10) (n11 := ρ 11) (n12 := ρ 12) (H0 := η 0) (H1 := η 1) (H2 := η 2) (H3 := η 3) (H4 := η 4) f24 f23 f22 f21 f20 f19 f18 f17 f16 f15 f14 f13 f12 f11 f10 f9 f8 f7 f6 f5 f4 f3 f2 f1 f0
theorem q_214_58 {q0 : Nat} {n0 n1 n2 n3 n4 n5 n6 n7 n8 n9 n10 n11 : Int} {H0 H1 H2 H3 : gH} (f0 : n0 ≤ 9999) (f1 : 0 ≤ n0) (f2 : n1 ≤ 2000) (f3 : 0 ≤ n1) (f4 : n2 ≤ 2147483647) (f5 : (-2147483648) ≤ n2) (f6 : n3 ≤ 2000) (f7 : 0 ≤ n3) (f8 : n4 = 285) (f9 : n5 = 285) (f10 : (hLe T0 H0 H1 ∧ hFr s_214.2.2.2.2 H0 H1 ∧ hWt T0 H1) ∧ (Ab_214_208 n5 n4 n3 n2 n1 n0 H0 H1 ∧ True) ∧ some q0 = some (mub_214_208 n5 n4 n3 n2 n1 n0 H0 H1)) (f11 : n6 = w32 (n3 + n1)) (f12 : n7 ≤ 255) (f13 : 0 ≤ n7) (f14 : (hLe T0 H1 H2 ∧ hFr s_208.2.2.2.2 H1 H2 ∧ ((0 : Int) = 0 → H2.length = H1.length) ∧ hWt T0 H2) ∧ postb_208 n7 n4 n6 H1 H2) (f15 : n8 ≤ 1) (f16 : 0 ≤ n8) (f17 : (hLe T0 H2 H3 ∧ hFr s_209.2.2.2.2 H2 H3 ∧ ((0 : Int) = 0 → H3.length = H2.length) ∧ hWt T0 H3) ∧ postb_209 n8 n7 H2 H3) (f18 : n8 = 0) (f19 : n9 = 4) (f20 : n9 < n1) (f21 : n10 = 3) (f22 : n11 = 0) : preb_213 n4 n10 n3 n0 n11 H3 := by
  have g4 := f10.2.1.1
  unfold Ab_214_208 at g4
  unfold postb_208 at f14
  unfold postb_209 at f17
  unfold preb_213
  have e1 : hV H1 285 4 = hV H0 285 4 := (f10.1.2.1.1 285 4 kF_214_285_4)
  have e3 : hV H2 285 4 = hV H0 285 4 := ((f14.1.2.1.1 285 4 kF_208_285_4)).trans (f10.1.2.1.1 285 4 kF_214_285_4)
  have e6 : hV H2 287 = hV H0 287 := (fRow f14.1.2.1 287 kR_208_287).trans (fRow f10.1.2.1 287 kR_214_287)
  have e9 : hV H3 285 10 = hV H1 285 10 := ((f17.1.2.1.1 285 10 kF_209_285_10)).trans (f14.1.2.1.1 285 10 kF_208_285_10)
  have e10 : (0 : Int) ≤ hV H1 285 10 ∧ hV H1 285 10 ≤ 501 := f10.1.2.2 285 10 _ _ kW_285_10
  have e11 : (0 : Int) ≤ hV H0 285 4 ∧ hV H0 285 4 ≤ 2000 := bTo e1 (f10.1.2.2 285 4 _ _ kW_285_4)
  try simp only [e9]
  have y0 := g4.1
  have y1 := g4.2.1
  have y2 := g4.2.2.1
  have y3 := g4.2.2.2.1
  have y4 := g4.2.2.2.2.1
  have y5 := g4.2.2.2.2.2
  have r0_0 := f14.2.1
  have r0_1 := f14.2.2
  have r1_0 := f17.2
  try simp only [e1] at y0
  try simp only [e3, e6] at r0_0
  try simp only [e3] at r0_1
  clear g4
  clear e1 e3 e6 e9
  clear f10 f14 f17
  unfold w32 at f11
  first | assumption | (first | lia | omega) | trivial
def g_214_208_5 : vG := ([(0, [11], [], 0), (0, [10], [], 3), (44, [4, 9], [], 0), (0, [9], [], 4), (30, [8], [], 0), (1209, [8, 7], [2, 3], 0), (90, [8], [], 0), (91, [8], [], 1), (1208, [7, 1, 6], [1, 2], 0), (90, [7], [], 0), (91, [7], [], 255), (1, [6, 2, 4], [], 0), (5000, [0, 1, 2, 3, 4, 5], [0, 1], 208), (0, [0], [], 285), (0, [1], [], 285), (90, [2], [], 0), (91, [2], [], 2000), (90, [3], [], -2147483648), (91, [3], [], 2147483647), (90, [4], [], 0), (91, [4], [], 2000), (90, [5], [], 0), (91, [5], [], 9999)], (2213, [1, 10, 2, 5, 11], [3], 0))
theorem c_214_208_5 {q0 : Nat} : vOkm T0 (eP e_214 L_214 A_214 mu_214 (some q0)) 1 g_214_208_5 := vOk_inI fun ρ η f0 f1 f2 f3 f4 f5 f6 f7 f8 f9 f10 f11 f12 f13 f14 f15 f16 f17 f18 f19 f20 f21 f22 => q_214_58 (q0 := q0) (n0 := ρ 5) (n1 := ρ 4) (n2 := ρ 3) (n3 := ρ 2) (n4 := ρ 1) (n5 := ρ 0) (n6 := ρ 6) (n7 := ρ 7) (n8 := ρ 8) (n9 := ρ 9) (n10 := ρ 10) (n11 := ρ 11) (H0 := η 0) (H1 := η 1) (H2 := η 2) (H3 := η 3) f22 f21 f20 f19 f18 f17 f16 f15 f14 f13 f12 f11 f10 f9 f8 f7 f6 f5 f4 f3 f2 f1 f0
theorem q_214_59 {q0 : Nat} {n0 n1 n2 n3 n4 n5 n6 n7 n8 n9 n10 n11 n12 : Int} {H0 H1 H2 H3 H4 : gH} (f0 : n0 ≤ 9999) (f1 : 0 ≤ n0) (f2 : n1 ≤ 2000) (f3 : 0 ≤ n1) (f4 : n2 ≤ 2147483647) (f5 : (-2147483648) ≤ n2) (f6 : n3 ≤ 2000) (f7 : 0 ≤ n3) (f8 : n4 = 285) (f9 : n5 = 285) (f10 : (hLe T0 H0 H1 ∧ hFr s_214.2.2.2.2 H0 H1 ∧ hWt T0 H1) ∧ (Ab_214_208 n5 n4 n3 n2 n1 n0 H0 H1 ∧ True) ∧ some q0 = some (mub_214_208 n5 n4 n3 n2 n1 n0 H0 H1)) (f11 : n6 = w32 (n3 + n1)) (f12 : n7 ≤ 255) (f13 : 0 ≤ n7) (f14 : (hLe T0 H1 H2 ∧ hFr s_208.2.2.2.2 H1 H2 ∧ ((0 : Int) = 0 → H2.length = H1.length) ∧ hWt T0 H2) ∧ postb_208 n7 n4 n6 H1 H2) (f15 : n8 ≤ 1) (f16 : 0 ≤ n8) (f17 : (hLe T0 H2 H3 ∧ hFr s_209.2.2.2.2 H2 H3 ∧ ((0 : Int) = 0 → H3.length = H2.length) ∧ hWt T0 H3) ∧ postb_209 n8 n7 H2 H3) (f18 : n8 = 0) (f19 : n9 = 4) (f20 : n9 < n1) (f21 : n10 = 3) (f22 : n11 = 0) (f23 : (hLe T0 H3 H4 ∧ hFr s_213.2.2.2.2 H3 H4 ∧ ((0 : Int) = 0 → H4.length = H3.length) ∧ hWt T0 H4) ∧ postb_213 n4 n10 n3 n0 n11 H3 H4) (f24 : n12 = w32 (n3 + n1)) : 0 ≤ n12 := by
  have g4 := f10.2.1.1
  unfold Ab_214_208 at g4
  have sm24 : n6 = n12 := f11.trans f24.symm
  subst sm24
  unfold postb_208 at f14
  unfold postb_209 at f17
  unfold postb_213 at f23
  have e1 : hV H1 285 4 = hV H0 285 4 := (f10.1.2.1.1 285 4 kF_214_285_4)
  have e3 : hV H2 285 4 = hV H0 285 4 := ((f14.1.2.1.1 285 4 kF_208_285_4)).trans (f10.1.2.1.1 285 4 kF_214_285_4)
  have e6 : hV H2 287 = hV H0 287 := (fRow f14.1.2.1 287 kR_208_287).trans (fRow f10.1.2.1 287 kR_214_287)
  have e9 : hV H3 285 10 = hV H1 285 10 := ((f17.1.2.1.1 285 10 kF_209_285_10)).trans (f14.1.2.1.1 285 10 kF_208_285_10)
  have e10 : (0 : Int) ≤ hV H1 285 10 ∧ hV H1 285 10 ≤ 501 := f10.1.2.2 285 10 _ _ kW_285_10
  have e11 : (0 : Int) ≤ hV H0 285 4 ∧ hV H0 285 4 ≤ 2000 := bTo e1 (f10.1.2.2 285 4 _ _ kW_285_4)
  have e14 : (0 : Int) ≤ hV H4 285 10 ∧ hV H4 285 10 ≤ 501 := f23.1.2.2.2 285 10 _ _ kW_285_10
  have y0 := g4.1
  have y1 := g4.2.1
  have y2 := g4.2.2.1
  have y3 := g4.2.2.2.1
  have y4 := g4.2.2.2.2.1
  have y5 := g4.2.2.2.2.2
  have r0_0 := f14.2.1
  have r0_1 := f14.2.2
  have r1_0 := f17.2
  have r2_0 := f23.2
  try simp only [e1] at y0
  try simp only [e3, e6] at r0_0
  try simp only [e3] at r0_1
  try simp only [e9] at r2_0
  clear g4
  clear e1 e3 e6 e9
  clear f10 f14 f17 f23
  first
  | (have ix0 : n6 = n3 + n1 := Eq.trans f11 (w32_id (by (first | lia | omega)) (by (first | lia | omega))); subst ix0; clear f11)
  | (unfold w32 at f11; have ix0 : n6 = n3 + n1 := (by (first | lia | omega)); subst ix0)
  | skip
  try unfold w32 at f11
  try unfold w32 at f24
  (first | lia | omega)
def g_214_208_6 : vG := ([(1, [12, 2, 4], [], 0), (1213, [1, 10, 2, 5, 11], [3, 4], 0), (0, [11], [], 0), (0, [10], [], 3), (44, [4, 9], [], 0), (0, [9], [], 4), (30, [8], [], 0), (1209, [8, 7], [2, 3], 0), (90, [8], [], 0), (91, [8], [], 1), (1208, [7, 1, 6], [1, 2], 0), (90, [7], [], 0), (91, [7], [], 255), (1, [6, 2, 4], [], 0), (5000, [0, 1, 2, 3, 4, 5], [0, 1], 208), (0, [0], [], 285), (0, [1], [], 285), (90, [2], [], 0), (91, [2], [], 2000), (90, [3], [], -2147483648), (91, [3], [], 2147483647), (90, [4], [], 0), (91, [4], [], 2000), (90, [5], [], 0), (91, [5], [], 9999)], (90, [12], [], 0))
theorem c_214_208_6 {q0 : Nat} : vOkm T0 (eP e_214 L_214 A_214 mu_214 (some q0)) 1 g_214_208_6 := vOk_inI fun ρ η f0 f1 f2 f3 f4 f5 f6 f7 f8 f9 f10 f11 f12 f13 f14 f15 f16 f17 f18 f19 f20 f21 f22 f23 f24 => q_214_59 (q0 := q0) (n0 := ρ 5) (n1 := ρ 4) (n2 := ρ 3) (n3 := ρ 2) (n4 := ρ 1) (n5 := ρ 0) (n6 := ρ 6) (n7 := ρ 7) (n8 := ρ 8) (n9 := ρ 9) (n10 := ρ 10) (n11 := ρ 11) (n12 := ρ 12) (H0 := η 0) (H1 := η 1) (H2 := η 2) (H3 := η 3) (H4 := η 4) f24 f23 f22 f21 f20 f19 f18 f17 f16 f15 f14 f13 f12 f11 f10 f9 f8 f7 f6 f5 f4 f3 f2 f1 f0
theorem q_214_60 {q0 : Nat} {n0 n1 n2 n3 n4 n5 n6 n7 n8 n9 n10 n11 n12 : Int} {H0 H1 H2 H3 H4 : gH} (f0 : n0 ≤ 9999) (f1 : 0 ≤ n0) (f2 : n1 ≤ 2000) (f3 : 0 ≤ n1) (f4 : n2 ≤ 2147483647) (f5 : (-2147483648) ≤ n2) (f6 : n3 ≤ 2000) (f7 : 0 ≤ n3) (f8 : n4 = 285) (f9 : n5 = 285) (f10 : (hLe T0 H0 H1 ∧ hFr s_214.2.2.2.2 H0 H1 ∧ hWt T0 H1) ∧ (Ab_214_208 n5 n4 n3 n2 n1 n0 H0 H1 ∧ True) ∧ some q0 = some (mub_214_208 n5 n4 n3 n2 n1 n0 H0 H1)) (f11 : n6 = w32 (n3 + n1)) (f12 : n7 ≤ 255) (f13 : 0 ≤ n7) (f14 : (hLe T0 H1 H2 ∧ hFr s_208.2.2.2.2 H1 H2 ∧ ((0 : Int) = 0 → H2.length = H1.length) ∧ hWt T0 H2) ∧ postb_208 n7 n4 n6 H1 H2) (f15 : n8 ≤ 1) (f16 : 0 ≤ n8) (f17 : (hLe T0 H2 H3 ∧ hFr s_209.2.2.2.2 H2 H3 ∧ ((0 : Int) = 0 → H3.length = H2.length) ∧ hWt T0 H3) ∧ postb_209 n8 n7 H2 H3) (f18 : n8 = 0) (f19 : n9 = 4) (f20 : n9 < n1) (f21 : n10 = 3) (f22 : n11 = 0) (f23 : (hLe T0 H3 H4 ∧ hFr s_213.2.2.2.2 H3 H4 ∧ ((0 : Int) = 0 → H4.length = H3.length) ∧ hWt T0 H4) ∧ postb_213 n4 n10 n3 n0 n11 H3 H4) (f24 : n12 = w32 (n3 + n1)) : n12 ≤ 2000 := by
  have g4 := f10.2.1.1
  unfold Ab_214_208 at g4
  have sm24 : n6 = n12 := f11.trans f24.symm
  subst sm24
  unfold postb_208 at f14
  unfold postb_209 at f17
  unfold postb_213 at f23
  have e1 : hV H1 285 4 = hV H0 285 4 := (f10.1.2.1.1 285 4 kF_214_285_4)
  have e3 : hV H2 285 4 = hV H0 285 4 := ((f14.1.2.1.1 285 4 kF_208_285_4)).trans (f10.1.2.1.1 285 4 kF_214_285_4)
  have e6 : hV H2 287 = hV H0 287 := (fRow f14.1.2.1 287 kR_208_287).trans (fRow f10.1.2.1 287 kR_214_287)
  have e9 : hV H3 285 10 = hV H1 285 10 := ((f17.1.2.1.1 285 10 kF_209_285_10)).trans (f14.1.2.1.1 285 10 kF_208_285_10)
  have e10 : (0 : Int) ≤ hV H1 285 10 ∧ hV H1 285 10 ≤ 501 := f10.1.2.2 285 10 _ _ kW_285_10
  have e11 : (0 : Int) ≤ hV H0 285 4 ∧ hV H0 285 4 ≤ 2000 := bTo e1 (f10.1.2.2 285 4 _ _ kW_285_4)
  have e14 : (0 : Int) ≤ hV H4 285 10 ∧ hV H4 285 10 ≤ 501 := f23.1.2.2.2 285 10 _ _ kW_285_10
  have y0 := g4.1
  have y1 := g4.2.1
  have y2 := g4.2.2.1
  have y3 := g4.2.2.2.1
  have y4 := g4.2.2.2.2.1
  have y5 := g4.2.2.2.2.2
  have r0_0 := f14.2.1
  have r0_1 := f14.2.2
  have r1_0 := f17.2
  have r2_0 := f23.2
  try simp only [e1] at y0
  try simp only [e3, e6] at r0_0
  try simp only [e3] at r0_1
  try simp only [e9] at r2_0
  clear g4
  clear e1 e3 e6 e9
  clear f10 f14 f17 f23
  first
  | (have ix0 : n6 = n3 + n1 := Eq.trans f11 (w32_id (by (first | lia | omega)) (by (first | lia | omega))); subst ix0; clear f11)
  | (unfold w32 at f11; have ix0 : n6 = n3 + n1 := (by (first | lia | omega)); subst ix0)
  | skip
  try unfold w32 at f11
  try unfold w32 at f24
  (first | lia | omega)
def g_214_208_7 : vG := ([(1, [12, 2, 4], [], 0), (1213, [1, 10, 2, 5, 11], [3, 4], 0), (0, [11], [], 0), (0, [10], [], 3), (44, [4, 9], [], 0), (0, [9], [], 4), (30, [8], [], 0), (1209, [8, 7], [2, 3], 0), (90, [8], [], 0), (91, [8], [], 1), (1208, [7, 1, 6], [1, 2], 0), (90, [7], [], 0), (91, [7], [], 255), (1, [6, 2, 4], [], 0), (5000, [0, 1, 2, 3, 4, 5], [0, 1], 208), (0, [0], [], 285), (0, [1], [], 285), (90, [2], [], 0), (91, [2], [], 2000), (90, [3], [], -2147483648), (91, [3], [], 2147483647), (90, [4], [], 0), (91, [4], [], 2000), (90, [5], [], 0), (91, [5], [], 9999)], (91, [12], [], 2000))
theorem c_214_208_7 {q0 : Nat} : vOkm T0 (eP e_214 L_214 A_214 mu_214 (some q0)) 1 g_214_208_7 := vOk_inI fun ρ η f0 f1 f2 f3 f4 f5 f6 f7 f8 f9 f10 f11 f12 f13 f14 f15 f16 f17 f18 f19 f20 f21 f22 f23 f24 => q_214_60 (q0 := q0) (n0 := ρ 5) (n1 := ρ 4) (n2 := ρ 3) (n3 := ρ 2) (n4 := ρ 1) (n5 := ρ 0) (n6 := ρ 6) (n7 := ρ 7) (n8 := ρ 8) (n9 := ρ 9) (n10 := ρ 10) (n11 := ρ 11) (n12 := ρ 12) (H0 := η 0) (H1 := η 1) (H2 := η 2) (H3 := η 3) (H4 := η 4) f24 f23 f22 f21 f20 f19 f18 f17 f16 f15 f14 f13 f12 f11 f10 f9 f8 f7 f6 f5 f4 f3 f2 f1 f0
theorem q_214_61 {q0 : Nat} {n0 n1 n2 n3 n4 n5 n6 n7 n8 n9 n10 n11 n12 : Int} {H0 H1 H2 H3 H4 : gH} (f0 : n0 ≤ 9999) (f1 : 0 ≤ n0) (f2 : n1 ≤ 2000) (f3 : 0 ≤ n1) (f4 : n2 ≤ 2147483647) (f5 : (-2147483648) ≤ n2) (f6 : n3 ≤ 2000) (f7 : 0 ≤ n3) (f8 : n4 = 285) (f9 : n5 = 285) (f10 : (hLe T0 H0 H1 ∧ hFr s_214.2.2.2.2 H0 H1 ∧ hWt T0 H1) ∧ (Ab_214_208 n5 n4 n3 n2 n1 n0 H0 H1 ∧ True) ∧ some q0 = some (mub_214_208 n5 n4 n3 n2 n1 n0 H0 H1)) (f11 : n6 = w32 (n3 + n1)) (f12 : n7 ≤ 255) (f13 : 0 ≤ n7) (f14 : (hLe T0 H1 H2 ∧ hFr s_208.2.2.2.2 H1 H2 ∧ ((0 : Int) = 0 → H2.length = H1.length) ∧ hWt T0 H2) ∧ postb_208 n7 n4 n6 H1 H2) (f15 : n8 ≤ 1) (f16 : 0 ≤ n8) (f17 : (hLe T0 H2 H3 ∧ hFr s_209.2.2.2.2 H2 H3 ∧ ((0 : Int) = 0 → H3.length = H2.length) ∧ hWt T0 H3) ∧ postb_209 n8 n7 H2 H3) (f18 : n8 = 0) (f19 : n9 = 4) (f20 : n9 < n1) (f21 : n10 = 3) (f22 : n11 = 0) (f23 : (hLe T0 H3 H4 ∧ hFr s_213.2.2.2.2 H3 H4 ∧ ((0 : Int) = 0 → H4.length = H3.length) ∧ hWt T0 H4) ∧ postb_213 n4 n10 n3 n0 n11 H3 H4) (f24 : n12 = w32 (n3 + n1)) : Ab_214_7 n5 n4 n12 H0 H4 ∧ ∀ q, some q0 = some q → mub_214_7 n5 n4 n12 H0 H4 < q := by
  have g4 := f10.2.1.1
  unfold Ab_214_208 at g4
  have g5 := Option.some.inj f10.2.2
  unfold mub_214_208 at g5
  have sm24 : n6 = n12 := f11.trans f24.symm
  subst sm24
  unfold postb_208 at f14
  unfold postb_209 at f17
  unfold postb_213 at f23
  unfold Ab_214_7
  unfold mub_214_7
  have e1 : hV H1 285 4 = hV H0 285 4 := (f10.1.2.1.1 285 4 kF_214_285_4)
  have e3 : hV H2 285 4 = hV H0 285 4 := ((f14.1.2.1.1 285 4 kF_208_285_4)).trans (f10.1.2.1.1 285 4 kF_214_285_4)
  have e6 : hV H2 287 = hV H0 287 := (fRow f14.1.2.1 287 kR_208_287).trans (fRow f10.1.2.1 287 kR_214_287)
  have e9 : hV H3 285 10 = hV H1 285 10 := ((f17.1.2.1.1 285 10 kF_209_285_10)).trans (f14.1.2.1.1 285 10 kF_208_285_10)
  have e12 : hV H4 285 4 = hV H0 285 4 := ((f23.1.2.1.1 285 4 kF_213_285_4)).trans (((f17.1.2.1.1 285 4 kF_209_285_4)).trans (((f14.1.2.1.1 285 4 kF_208_285_4)).trans (f10.1.2.1.1 285 4 kF_214_285_4)))
  have e13 : (0 : Int) ≤ hV H1 285 10 ∧ hV H1 285 10 ≤ 501 := f10.1.2.2 285 10 _ _ kW_285_10
  have e14 : (0 : Int) ≤ hV H0 285 4 ∧ hV H0 285 4 ≤ 2000 := bTo e1 (f10.1.2.2 285 4 _ _ kW_285_4)
  have e17 : (0 : Int) ≤ hV H4 285 10 ∧ hV H4 285 10 ≤ 501 := f23.1.2.2.2 285 10 _ _ kW_285_10
  try simp only [e12]
  have y0 := g4.1
  have y1 := g4.2.1
  have y2 := g4.2.2.1
  have y3 := g4.2.2.2.1
  have y4 := g4.2.2.2.2.1
  have y5 := g4.2.2.2.2.2
  have r0_0 := f14.2.1
  have r0_1 := f14.2.2
  have r1_0 := f17.2
  have r2_0 := f23.2
  try simp only [e1] at y0
  try simp only [e3, e6] at r0_0
  try simp only [e3] at r0_1
  try simp only [e9] at r2_0
  clear g4
  clear e1 e3 e6 e9 e12
  clear f10 f14 f17 f23
  first
  | (have ix0 : n6 = n3 + n1 := Eq.trans f11 (w32_id (by (first | lia | omega)) (by (first | lia | omega))); subst ix0; clear f11)
  | (unfold w32 at f11; have ix0 : n6 = n3 + n1 := (by (first | lia | omega)); subst ix0)
  | skip
  try unfold w32 at f11
  try unfold w32 at f24
  refine ⟨?_, fun q hq => ?_⟩
  · first | assumption | (first | lia | omega) | trivial
  · have g6 := Option.some.inj hq
    subst g6
    (first | lia | omega)
def g_214_208_8 : vG := ([(1, [12, 2, 4], [], 0), (1213, [1, 10, 2, 5, 11], [3, 4], 0), (0, [11], [], 0), (0, [10], [], 3), (44, [4, 9], [], 0), (0, [9], [], 4), (30, [8], [], 0), (1209, [8, 7], [2, 3], 0), (90, [8], [], 0), (91, [8], [], 1), (1208, [7, 1, 6], [1, 2], 0), (90, [7], [], 0), (91, [7], [], 255), (1, [6, 2, 4], [], 0), (5000, [0, 1, 2, 3, 4, 5], [0, 1], 208), (0, [0], [], 285), (0, [1], [], 285), (90, [2], [], 0), (91, [2], [], 2000), (90, [3], [], -2147483648), (91, [3], [], 2147483647), (90, [4], [], 0), (91, [4], [], 2000), (90, [5], [], 0), (91, [5], [], 9999)], (4000, [1, 12], [4], 7))
theorem c_214_208_8 {q0 : Nat} : vOkm T0 (eP e_214 L_214 A_214 mu_214 (some q0)) 1 g_214_208_8 := vOk_inI fun ρ η f0 f1 f2 f3 f4 f5 f6 f7 f8 f9 f10 f11 f12 f13 f14 f15 f16 f17 f18 f19 f20 f21 f22 f23 f24 => q_214_61 (q0 := q0) (n0 := ρ 5) (n1 := ρ 4) (n2 := ρ 3) (n3 := ρ 2) (n4 := ρ 1) (n5 := ρ 0) (n6 := ρ 6) (n7 := ρ 7) (n8 := ρ 8) (n9 := ρ 9) (n10 := ρ 10) (n11 := ρ 11) (n12 := ρ 12) (H0 := η 0) (H1 := η 1) (H2 := η 2) (H3 := η 3) (H4 := η 4) f24 f23 f22 f21 f20 f19 f18 f17 f16 f15 f14 f13 f12 f11 f10 f9 f8 f7 f6 f5 f4 f3 f2 f1 f0
theorem q_214_62 {q0 : Nat} {n0 n1 n2 n3 n4 n5 n6 n7 n8 n9 n10 : Int} {H0 H1 H2 H3 : gH} (f0 : n0 ≤ 9999) (f1 : 0 ≤ n0) (f2 : n1 ≤ 2000) (f3 : 0 ≤ n1) (f4 : n2 ≤ 2147483647) (f5 : (-2147483648) ≤ n2) (f6 : n3 ≤ 2000) (f7 : 0 ≤ n3) (f8 : n4 = 285) (f9 : n5 = 285) (f10 : (hLe T0 H0 H1 ∧ hFr s_214.2.2.2.2 H0 H1 ∧ hWt T0 H1) ∧ (Ab_214_208 n5 n4 n3 n2 n1 n0 H0 H1 ∧ True) ∧ some q0 = some (mub_214_208 n5 n4 n3 n2 n1 n0 H0 H1)) (f11 : n6 = w32 (n3 + n1)) (f12 : n7 ≤ 255) (f13 : 0 ≤ n7) (f14 : (hLe T0 H1 H2 ∧ hFr s_208.2.2.2.2 H1 H2 ∧ ((0 : Int) = 0 → H2.length = H1.length) ∧ hWt T0 H2) ∧ postb_208 n7 n4 n6 H1 H2) (f15 : n8 ≤ 1) (f16 : 0 ≤ n8) (f17 : (hLe T0 H2 H3 ∧ hFr s_209.2.2.2.2 H2 H3 ∧ ((0 : Int) = 0 → H3.length = H2.length) ∧ hWt T0 H3) ∧ postb_209 n8 n7 H2 H3) (f18 : n8 ≠ 0) (f19 : n9 = 4) (f20 : n9 ≤ n1) (f21 : n10 = w32 (n1 + 1)) : 0 ≤ n10 := by
  have g4 := f10.2.1.1
  unfold Ab_214_208 at g4
  unfold postb_208 at f14
  unfold postb_209 at f17
  have e1 : hV H1 285 4 = hV H0 285 4 := (f10.1.2.1.1 285 4 kF_214_285_4)
  have e3 : hV H2 285 4 = hV H0 285 4 := ((f14.1.2.1.1 285 4 kF_208_285_4)).trans (f10.1.2.1.1 285 4 kF_214_285_4)
  have e6 : hV H2 287 = hV H0 287 := (fRow f14.1.2.1 287 kR_208_287).trans (fRow f10.1.2.1 287 kR_214_287)
  have e7 : (0 : Int) ≤ hV H1 285 10 ∧ hV H1 285 10 ≤ 501 := f10.1.2.2 285 10 _ _ kW_285_10
  have e8 : (0 : Int) ≤ hV H0 285 4 ∧ hV H0 285 4 ≤ 2000 := bTo e1 (f10.1.2.2 285 4 _ _ kW_285_4)
  have y0 := g4.1
  have y1 := g4.2.1
  have y2 := g4.2.2.1
  have y3 := g4.2.2.2.1
  have y4 := g4.2.2.2.2.1
  have y5 := g4.2.2.2.2.2
  have r0_0 := f14.2.1
  have r0_1 := f14.2.2
  have r1_0 := f17.2
  try simp only [e1] at y0
  try simp only [e3, e6] at r0_0
  try simp only [e3] at r0_1
  clear g4
  clear e1 e3 e6
  clear f10 f14 f17
  first
  | (have ix0 : n10 = n1 + 1 := Eq.trans f21 (w32_iv (Iad (Iat f3 f2) (IC 1)) (by decide)); subst ix0; clear f21)
  | (have ix0 : n10 = n1 + 1 := Eq.trans f21 (w32_id (by (first | lia | omega)) (by (first | lia | omega))); subst ix0; clear f21)
  | (unfold w32 at f21; have ix0 : n10 = n1 + 1 := (by (first | lia | omega)); subst ix0)
  | skip
  try unfold w32 at f11
  try unfold w32 at f21
  (first | lia | omega)
def g_214_208_9 : vG := ([(10, [10, 4], [], 1), (43, [4, 9], [], 0), (0, [9], [], 4), (31, [8], [], 0), (1209, [8, 7], [2, 3], 0), (90, [8], [], 0), (91, [8], [], 1), (1208, [7, 1, 6], [1, 2], 0), (90, [7], [], 0), (91, [7], [], 255), (1, [6, 2, 4], [], 0), (5000, [0, 1, 2, 3, 4, 5], [0, 1], 208), (0, [0], [], 285), (0, [1], [], 285), (90, [2], [], 0), (91, [2], [], 2000), (90, [3], [], -2147483648), (91, [3], [], 2147483647), (90, [4], [], 0), (91, [4], [], 2000), (90, [5], [], 0), (91, [5], [], 9999)], (90, [10], [], 0))
theorem c_214_208_9 {q0 : Nat} : vOkm T0 (eP e_214 L_214 A_214 mu_214 (some q0)) 1 g_214_208_9 := vOk_inI fun ρ η f0 f1 f2 f3 f4 f5 f6 f7 f8 f9 f10 f11 f12 f13 f14 f15 f16 f17 f18 f19 f20 f21 => q_214_62 (q0 := q0) (n0 := ρ 5) (n1 := ρ 4) (n2 := ρ 3) (n3 := ρ 2) (n4 := ρ 1) (n5 := ρ 0) (n6 := ρ 6) (n7 := ρ 7) (n8 := ρ 8) (n9 := ρ 9) (n10 := ρ 10) (H0 := η 0) (H1 := η 1) (H2 := η 2) (H3 := η 3) f21 f20 f19 f18 f17 f16 f15 f14 f13 f12 f11 f10 f9 f8 f7 f6 f5 f4 f3 f2 f1 f0
theorem q_214_63 {q0 : Nat} {n0 n1 n2 n3 n4 n5 n6 n7 n8 n9 n10 : Int} {H0 H1 H2 H3 : gH} (f0 : n0 ≤ 9999) (f1 : 0 ≤ n0) (f2 : n1 ≤ 2000) (f3 : 0 ≤ n1) (f4 : n2 ≤ 2147483647) (f5 : (-2147483648) ≤ n2) (f6 : n3 ≤ 2000) (f7 : 0 ≤ n3) (f8 : n4 = 285) (f9 : n5 = 285) (f10 : (hLe T0 H0 H1 ∧ hFr s_214.2.2.2.2 H0 H1 ∧ hWt T0 H1) ∧ (Ab_214_208 n5 n4 n3 n2 n1 n0 H0 H1 ∧ True) ∧ some q0 = some (mub_214_208 n5 n4 n3 n2 n1 n0 H0 H1)) (f11 : n6 = w32 (n3 + n1)) (f12 : n7 ≤ 255) (f13 : 0 ≤ n7) (f14 : (hLe T0 H1 H2 ∧ hFr s_208.2.2.2.2 H1 H2 ∧ ((0 : Int) = 0 → H2.length = H1.length) ∧ hWt T0 H2) ∧ postb_208 n7 n4 n6 H1 H2) (f15 : n8 ≤ 1) (f16 : 0 ≤ n8) (f17 : (hLe T0 H2 H3 ∧ hFr s_209.2.2.2.2 H2 H3 ∧ ((0 : Int) = 0 → H3.length = H2.length) ∧ hWt T0 H3) ∧ postb_209 n8 n7 H2 H3) (f18 : n8 ≠ 0) (f19 : n9 = 4) (f20 : n9 ≤ n1) (f21 : n10 = w32 (n1 + 1)) : n10 ≤ 2000 := by
  have g4 := f10.2.1.1
  unfold Ab_214_208 at g4
  unfold postb_208 at f14
  unfold postb_209 at f17
  have e1 : hV H1 285 4 = hV H0 285 4 := (f10.1.2.1.1 285 4 kF_214_285_4)
  have e3 : hV H2 285 4 = hV H0 285 4 := ((f14.1.2.1.1 285 4 kF_208_285_4)).trans (f10.1.2.1.1 285 4 kF_214_285_4)
  have e6 : hV H2 287 = hV H0 287 := (fRow f14.1.2.1 287 kR_208_287).trans (fRow f10.1.2.1 287 kR_214_287)
  have e7 : (0 : Int) ≤ hV H1 285 10 ∧ hV H1 285 10 ≤ 501 := f10.1.2.2 285 10 _ _ kW_285_10
  have e8 : (0 : Int) ≤ hV H0 285 4 ∧ hV H0 285 4 ≤ 2000 := bTo e1 (f10.1.2.2 285 4 _ _ kW_285_4)
  have y0 := g4.1
  have y1 := g4.2.1
  have y2 := g4.2.2.1
  have y3 := g4.2.2.2.1
  have y4 := g4.2.2.2.2.1
  have y5 := g4.2.2.2.2.2
  have r0_0 := f14.2.1
  have r0_1 := f14.2.2
  have r1_0 := f17.2
  try simp only [e1] at y0
  try simp only [e3, e6] at r0_0
  try simp only [e3] at r0_1
  clear g4
  clear e1 e3 e6
  clear f10 f14 f17
  first
  | (have ix0 : n10 = n1 + 1 := Eq.trans f21 (w32_iv (Iad (Iat f3 f2) (IC 1)) (by decide)); subst ix0; clear f21)
  | (have ix0 : n10 = n1 + 1 := Eq.trans f21 (w32_id (by (first | lia | omega)) (by (first | lia | omega))); subst ix0; clear f21)
  | (unfold w32 at f21; have ix0 : n10 = n1 + 1 := (by (first | lia | omega)); subst ix0)
  | skip
  try unfold w32 at f11
  try unfold w32 at f21
  (first | lia | omega)
def g_214_208_10 : vG := ([(10, [10, 4], [], 1), (43, [4, 9], [], 0), (0, [9], [], 4), (31, [8], [], 0), (1209, [8, 7], [2, 3], 0), (90, [8], [], 0), (91, [8], [], 1), (1208, [7, 1, 6], [1, 2], 0), (90, [7], [], 0), (91, [7], [], 255), (1, [6, 2, 4], [], 0), (5000, [0, 1, 2, 3, 4, 5], [0, 1], 208), (0, [0], [], 285), (0, [1], [], 285), (90, [2], [], 0), (91, [2], [], 2000), (90, [3], [], -2147483648), (91, [3], [], 2147483647), (90, [4], [], 0), (91, [4], [], 2000), (90, [5], [], 0), (91, [5], [], 9999)], (91, [10], [], 2000))
theorem c_214_208_10 {q0 : Nat} : vOkm T0 (eP e_214 L_214 A_214 mu_214 (some q0)) 1 g_214_208_10 := vOk_inI fun ρ η f0 f1 f2 f3 f4 f5 f6 f7 f8 f9 f10 f11 f12 f13 f14 f15 f16 f17 f18 f19 f20 f21 => q_214_63 (q0 := q0) (n0 := ρ 5) (n1 := ρ 4) (n2 := ρ 3) (n3 := ρ 2) (n4 := ρ 1) (n5 := ρ 0) (n6 := ρ 6) (n7 := ρ 7) (n8 := ρ 8) (n9 := ρ 9) (n10 := ρ 10) (H0 := η 0) (H1 := η 1) (H2 := η 2) (H3 := η 3) f21 f20 f19 f18 f17 f16 f15 f14 f13 f12 f11 f10 f9 f8 f7 f6 f5 f4 f3 f2 f1 f0
theorem q_214_64 {q0 : Nat} {n0 n1 n2 n3 n4 n5 n6 n7 n8 n9 n10 : Int} {H0 H1 H2 H3 : gH} (f0 : n0 ≤ 9999) (f1 : 0 ≤ n0) (f2 : n1 ≤ 2000) (f3 : 0 ≤ n1) (f4 : n2 ≤ 2147483647) (f5 : (-2147483648) ≤ n2) (f6 : n3 ≤ 2000) (f7 : 0 ≤ n3) (f8 : n4 = 285) (f9 : n5 = 285) (f10 : (hLe T0 H0 H1 ∧ hFr s_214.2.2.2.2 H0 H1 ∧ hWt T0 H1) ∧ (Ab_214_208 n5 n4 n3 n2 n1 n0 H0 H1 ∧ True) ∧ some q0 = some (mub_214_208 n5 n4 n3 n2 n1 n0 H0 H1)) (f11 : n6 = w32 (n3 + n1)) (f12 : n7 ≤ 255) (f13 : 0 ≤ n7) (f14 : (hLe T0 H1 H2 ∧ hFr s_208.2.2.2.2 H1 H2 ∧ ((0 : Int) = 0 → H2.length = H1.length) ∧ hWt T0 H2) ∧ postb_208 n7 n4 n6 H1 H2) (f15 : n8 ≤ 1) (f16 : 0 ≤ n8) (f17 : (hLe T0 H2 H3 ∧ hFr s_209.2.2.2.2 H2 H3 ∧ ((0 : Int) = 0 → H3.length = H2.length) ∧ hWt T0 H3) ∧ postb_209 n8 n7 H2 H3) (f18 : n8 ≠ 0) (f19 : n9 = 4) (f20 : n9 ≤ n1) (f21 : n10 = w32 (n1 + 1)) : Ab_214_208 n5 n4 n3 n2 n10 n0 H0 H3 ∧ ∀ q, some q0 = some q → mub_214_208 n5 n4 n3 n2 n10 n0 H0 H3 < q := by
  have g4 := f10.2.1.1
  unfold Ab_214_208 at g4
  have g5 := Option.some.inj f10.2.2
  unfold mub_214_208 at g5
  unfold postb_208 at f14
  unfold postb_209 at f17
  unfold Ab_214_208
  unfold mub_214_208
  have e1 : hV H1 285 4 = hV H0 285 4 := (f10.1.2.1.1 285 4 kF_214_285_4)
  have e3 : hV H2 285 4 = hV H0 285 4 := ((f14.1.2.1.1 285 4 kF_208_285_4)).trans (f10.1.2.1.1 285 4 kF_214_285_4)
  have e6 : hV H2 287 = hV H0 287 := (fRow f14.1.2.1 287 kR_208_287).trans (fRow f10.1.2.1 287 kR_214_287)
  have e9 : hV H3 285 10 = hV H1 285 10 := ((f17.1.2.1.1 285 10 kF_209_285_10)).trans (f14.1.2.1.1 285 10 kF_208_285_10)
  have e11 : hV H3 285 4 = hV H0 285 4 := ((f17.1.2.1.1 285 4 kF_209_285_4)).trans (((f14.1.2.1.1 285 4 kF_208_285_4)).trans (f10.1.2.1.1 285 4 kF_214_285_4))
  have e12 : (0 : Int) ≤ hV H1 285 10 ∧ hV H1 285 10 ≤ 501 := f10.1.2.2 285 10 _ _ kW_285_10
  have e13 : (0 : Int) ≤ hV H0 285 4 ∧ hV H0 285 4 ≤ 2000 := bTo e1 (f10.1.2.2 285 4 _ _ kW_285_4)
  try simp only [e9, e11]
  have y0 := g4.1
  have y1 := g4.2.1
  have y2 := g4.2.2.1
  have y3 := g4.2.2.2.1
  have y4 := g4.2.2.2.2.1
  have y5 := g4.2.2.2.2.2
  have r0_0 := f14.2.1
  have r0_1 := f14.2.2
  have r1_0 := f17.2
  try simp only [e1] at y0
  try simp only [e3, e6] at r0_0
  try simp only [e3] at r0_1
  clear g4
  clear e1 e3 e6 e9 e11
  clear f10 f14 f17
  first
  | (have ix0 : n10 = n1 + 1 := Eq.trans f21 (w32_iv (Iad (Iat f3 f2) (IC 1)) (by decide)); subst ix0; clear f21)
  | (have ix0 : n10 = n1 + 1 := Eq.trans f21 (w32_id (by (first | lia | omega)) (by (first | lia | omega))); subst ix0; clear f21)
  | (unfold w32 at f21; have ix0 : n10 = n1 + 1 := (by (first | lia | omega)); subst ix0)
  | skip
  try unfold w32 at f11
  try unfold w32 at f21
  refine ⟨?_, fun q hq => ?_⟩
  · refine ⟨?_, ?_, ?_, ?_, ?_, ?_⟩ <;> first | assumption | (first | lia | omega) | trivial
  · have g6 := Option.some.inj hq
    subst g6
    (first | lia | omega)
def g_214_208_11 : vG := ([(10, [10, 4], [], 1), (43, [4, 9], [], 0), (0, [9], [], 4), (31, [8], [], 0), (1209, [8, 7], [2, 3], 0), (90, [8], [], 0), (91, [8], [], 1), (1208, [7, 1, 6], [1, 2], 0), (90, [7], [], 0), (91, [7], [], 255), (1, [6, 2, 4], [], 0), (5000, [0, 1, 2, 3, 4, 5], [0, 1], 208), (0, [0], [], 285), (0, [1], [], 285), (90, [2], [], 0), (91, [2], [], 2000), (90, [3], [], -2147483648), (91, [3], [], 2147483647), (90, [4], [], 0), (91, [4], [], 2000), (90, [5], [], 0), (91, [5], [], 9999)], (4000, [1, 2, 3, 10, 5], [3], 208))
theorem c_214_208_11 {q0 : Nat} : vOkm T0 (eP e_214 L_214 A_214 mu_214 (some q0)) 1 g_214_208_11 := vOk_inI fun ρ η f0 f1 f2 f3 f4 f5 f6 f7 f8 f9 f10 f11 f12 f13 f14 f15 f16 f17 f18 f19 f20 f21 => q_214_64 (q0 := q0) (n0 := ρ 5) (n1 := ρ 4) (n2 := ρ 3) (n3 := ρ 2) (n4 := ρ 1) (n5 := ρ 0) (n6 := ρ 6) (n7 := ρ 7) (n8 := ρ 8) (n9 := ρ 9) (n10 := ρ 10) (H0 := η 0) (H1 := η 1) (H2 := η 2) (H3 := η 3) f21 f20 f19 f18 f17 f16 f15 f14 f13 f12 f11 f10 f9 f8 f7 f6 f5 f4 f3 f2 f1 f0
theorem q_214_65 {q0 : Nat} {n0 n1 n2 n3 n4 n5 n6 n7 n8 n9 n10 n11 n12 : Int} {H0 H1 H2 H3 : gH} (f0 : n0 ≤ 9999) (f1 : 0 ≤ n0) (f2 : n1 ≤ 2000) (f3 : 0 ≤ n1) (f4 : n2 ≤ 2147483647) (f5 : (-2147483648) ≤ n2) (f6 : n3 ≤ 2000) (f7 : 0 ≤ n3) (f8 : n4 = 285) (f9 : n5 = 285) (f10 : (hLe T0 H0 H1 ∧ hFr s_214.2.2.2.2 H0 H1 ∧ hWt T0 H1) ∧ (Ab_214_208 n5 n4 n3 n2 n1 n0 H0 H1 ∧ True) ∧ some q0 = some (mub_214_208 n5 n4 n3 n2 n1 n0 H0 H1)) (f11 : n6 = w32 (n3 + n1)) (f12 : n7 ≤ 255) (f13 : 0 ≤ n7) (f14 : (hLe T0 H1 H2 ∧ hFr s_208.2.2.2.2 H1 H2 ∧ ((0 : Int) = 0 → H2.length = H1.length) ∧ hWt T0 H2) ∧ postb_208 n7 n4 n6 H1 H2) (f15 : n8 ≤ 1) (f16 : 0 ≤ n8) (f17 : (hLe T0 H2 H3 ∧ hFr s_209.2.2.2.2 H2 H3 ∧ ((0 : Int) = 0 → H3.length = H2.length) ∧ hWt T0 H3) ∧ postb_209 n8 n7 H2 H3) (f18 : n8 ≠ 0) (f19 : n9 = 4) (f20 : n1 < n9) (f21 : n10 = 10) (f22 : n11 = w32 (n10 * n0)) (f23 : n12 = w32 (n3 + n1)) : preb_208 n4 n12 H3 := by
  have g4 := f10.2.1.1
  unfold Ab_214_208 at g4
  have sm23 : n6 = n12 := f11.trans f23.symm
  subst sm23
  unfold postb_208 at f14
  unfold postb_209 at f17
  unfold preb_208
  have e1 : hV H1 285 4 = hV H0 285 4 := (f10.1.2.1.1 285 4 kF_214_285_4)
  have e3 : hV H2 285 4 = hV H0 285 4 := ((f14.1.2.1.1 285 4 kF_208_285_4)).trans (f10.1.2.1.1 285 4 kF_214_285_4)
  have e6 : hV H2 287 = hV H0 287 := (fRow f14.1.2.1 287 kR_208_287).trans (fRow f10.1.2.1 287 kR_214_287)
  have e7 : (0 : Int) ≤ hV H1 285 10 ∧ hV H1 285 10 ≤ 501 := f10.1.2.2 285 10 _ _ kW_285_10
  have e8 : (0 : Int) ≤ hV H0 285 4 ∧ hV H0 285 4 ≤ 2000 := bTo e1 (f10.1.2.2 285 4 _ _ kW_285_4)
  have y0 := g4.1
  have y1 := g4.2.1
  have y2 := g4.2.2.1
  have y3 := g4.2.2.2.1
  have y4 := g4.2.2.2.2.1
  have y5 := g4.2.2.2.2.2
  have r0_0 := f14.2.1
  have r0_1 := f14.2.2
  have r1_0 := f17.2
  try simp only [e1] at y0
  try simp only [e3, e6] at r0_0
  try simp only [e3] at r0_1
  clear g4
  clear e1 e3 e6
  clear f10 f14 f17
  rw [f21] at f22
  first
  | (have ix0 : n6 = n3 + n1 := Eq.trans f11 (w32_id (by (first | lia | omega)) (by (first | lia | omega))); subst ix0; clear f11)
  | (unfold w32 at f11; have ix0 : n6 = n3 + n1 := (by (first | lia | omega)); subst ix0)
  | skip
  try unfold w32 at f11
  try unfold w32 at f22
  try unfold w32 at f23
  first | assumption | (first | lia | omega) | trivial
def g_214_208_12 : vG := ([(1, [12, 2, 4], [], 0), (3, [11, 10, 5], [], 0), (0, [10], [], 10), (42, [4, 9], [], 0), (0, [9], [], 4), (31, [8], [], 0), (1209, [8, 7], [2, 3], 0), (90, [8], [], 0), (91, [8], [], 1), (1208, [7, 1, 6], [1, 2], 0), (90, [7], [], 0), (91, [7], [], 255), (1, [6, 2, 4], [], 0), (5000, [0, 1, 2, 3, 4, 5], [0, 1], 208), (0, [0], [], 285), (0, [1], [], 285), (90, [2], [], 0), (91, [2], [], 2000), (90, [3], [], -2147483648), (91, [3], [], 2147483647), (90, [4], [], 0), (91, [4], [], 2000), (90, [5], [], 0), (91, [5], [], 9999)], (2208, [1, 12], [3], 0))
theorem c_214_208_12 {q0 : Nat} : vOkm T0 (eP e_214 L_214 A_214 mu_214 (some q0)) 1 g_214_208_12 := vOk_inI fun ρ η f0 f1 f2 f3 f4 f5 f6 f7 f8 f9 f10 f11 f12 f13 f14 f15 f16 f17 f18 f19 f20 f21 f22 f23 => q_214_65 (q0 := q0) (n0 := ρ 5) (n1 := ρ 4) (n2 := ρ 3) (n3 := ρ 2) (n4 := ρ 1) (n5 := ρ 0) (n6 := ρ 6) (n7 := ρ 7) (n8 := ρ 8) (n9 := ρ 9) (n10 := ρ 10) (n11 := ρ 11) (n12 := ρ 12) (H0 := η 0) (H1 := η 1) (H2 := η 2) (H3 := η 3) f23 f22 f21 f20 f19 f18 f17 f16 f15 f14 f13 f12 f11 f10 f9 f8 f7 f6 f5 f4 f3 f2 f1 f0
theorem q_214_66 {q0 : Nat} {n0 n1 n2 n3 n4 n5 n6 n7 n8 n9 n10 n11 n12 n13 n14 n15 n16 n17 : Int} {H0 H1 H2 H3 H4 : gH} (f0 : n0 ≤ 9999) (f1 : 0 ≤ n0) (f2 : n1 ≤ 2000) (f3 : 0 ≤ n1) (f4 : n2 ≤ 2147483647) (f5 : (-2147483648) ≤ n2) (f6 : n3 ≤ 2000) (f7 : 0 ≤ n3) (f8 : n4 = 285) (f9 : n5 = 285) (f10 : (hLe T0 H0 H1 ∧ hFr s_214.2.2.2.2 H0 H1 ∧ hWt T0 H1) ∧ (Ab_214_208 n5 n4 n3 n2 n1 n0 H0 H1 ∧ True) ∧ some q0 = some (mub_214_208 n5 n4 n3 n2 n1 n0 H0 H1)) (f11 : n6 = w32 (n3 + n1)) (f12 : n7 ≤ 255) (f13 : 0 ≤ n7) (f14 : (hLe T0 H1 H2 ∧ hFr s_208.2.2.2.2 H1 H2 ∧ ((0 : Int) = 0 → H2.length = H1.length) ∧ hWt T0 H2) ∧ postb_208 n7 n4 n6 H1 H2) (f15 : n8 ≤ 1) (f16 : 0 ≤ n8) (f17 : (hLe T0 H2 H3 ∧ hFr s_209.2.2.2.2 H2 H3 ∧ ((0 : Int) = 0 → H3.length = H2.length) ∧ hWt T0 H3) ∧ postb_209 n8 n7 H2 H3) (f18 : n8 ≠ 0) (f19 : n9 = 4) (f20 : n1 < n9) (f21 : n10 = 10) (f22 : n11 = w32 (n10 * n0)) (f23 : n12 = w32 (n3 + n1)) (f24 : n13 ≤ 255) (f25 : 0 ≤ n13) (f26 : (hLe T0 H3 H4 ∧ hFr s_208.2.2.2.2 H3 H4 ∧ ((0 : Int) = 0 → H4.length = H3.length) ∧ hWt T0 H4) ∧ postb_208 n13 n4 n12 H3 H4) (f27 : n14 = w32 (n11 + n13)) (f28 : n15 = 48) (f29 : n16 = w32 (n14 - n15)) (f30 : n17 = w32 (n1 + 1)) : 0 ≤ n17 := by
  have g4 := f10.2.1.1
  unfold Ab_214_208 at g4
  have sm23 : n6 = n12 := f11.trans f23.symm
  subst sm23
  unfold postb_208 at f14
  unfold postb_209 at f17
  unfold postb_208 at f26
  have e1 : hV H1 285 4 = hV H0 285 4 := (f10.1.2.1.1 285 4 kF_214_285_4)
  have e3 : hV H2 285 4 = hV H0 285 4 := ((f14.1.2.1.1 285 4 kF_208_285_4)).trans (f10.1.2.1.1 285 4 kF_214_285_4)
  have e6 : hV H2 287 = hV H0 287 := (fRow f14.1.2.1 287 kR_208_287).trans (fRow f10.1.2.1 287 kR_214_287)
  have e9 : hV H4 285 4 = hV H0 285 4 := ((f26.1.2.1.1 285 4 kF_208_285_4)).trans (((f17.1.2.1.1 285 4 kF_209_285_4)).trans (((f14.1.2.1.1 285 4 kF_208_285_4)).trans (f10.1.2.1.1 285 4 kF_214_285_4)))
  have e13 : hV H4 287 = hV H0 287 := (fRow f26.1.2.1 287 kR_208_287).trans ((fRow f17.1.2.1 287 kR_209_287).trans e6)
  have e14 : (0 : Int) ≤ hV H1 285 10 ∧ hV H1 285 10 ≤ 501 := f10.1.2.2 285 10 _ _ kW_285_10
  have e15 : (0 : Int) ≤ hV H0 285 4 ∧ hV H0 285 4 ≤ 2000 := bTo e1 (f10.1.2.2 285 4 _ _ kW_285_4)
  have y0 := g4.1
  have y1 := g4.2.1
  have y2 := g4.2.2.1
  have y3 := g4.2.2.2.1
  have y4 := g4.2.2.2.2.1
  have y5 := g4.2.2.2.2.2
  have r0_0 := f14.2.1
  have r0_1 := f14.2.2
  have r1_0 := f17.2
  have r2_0 := f26.2.1
  have r2_1 := f26.2.2
  try simp only [e1] at y0
  try simp only [e3, e6] at r0_0
  try simp only [e3] at r0_1
  try simp only [e9, e13] at r2_0
  try simp only [e9] at r2_1
  clear g4
  clear e1 e3 e6 e9 e13
  clear f10 f14 f17 f26
  rw [f21] at f22
  first
  | (have ix0 : n17 = n1 + 1 := Eq.trans f30 (w32_id (by (first | lia | omega)) (by (first | lia | omega))); subst ix0; clear f30)
  | (unfold w32 at f30; have ix0 : n17 = n1 + 1 := (by (first | lia | omega)); subst ix0)
  | skip
  try unfold w32 at f11
  try unfold w32 at f22
  try unfold w32 at f23
  try unfold w32 at f27
  try unfold w32 at f29
  try unfold w32 at f30
  (first | lia | omega)
def g_214_208_13 : vG := ([(10, [17, 4], [], 1), (2, [16, 14, 15], [], 0), (0, [15], [], 48), (1, [14, 11, 13], [], 0), (1208, [13, 1, 12], [3, 4], 0), (90, [13], [], 0), (91, [13], [], 255), (1, [12, 2, 4], [], 0), (3, [11, 10, 5], [], 0), (0, [10], [], 10), (42, [4, 9], [], 0), (0, [9], [], 4), (31, [8], [], 0), (1209, [8, 7], [2, 3], 0), (90, [8], [], 0), (91, [8], [], 1), (1208, [7, 1, 6], [1, 2], 0), (90, [7], [], 0), (91, [7], [], 255), (1, [6, 2, 4], [], 0), (5000, [0, 1, 2, 3, 4, 5], [0, 1], 208), (0, [0], [], 285), (0, [1], [], 285), (90, [2], [], 0), (91, [2], [], 2000), (90, [3], [], -2147483648), (91, [3], [], 2147483647), (90, [4], [], 0), (91, [4], [], 2000), (90, [5], [], 0), (91, [5], [], 9999)], (90, [17], [], 0))
theorem c_214_208_13 {q0 : Nat} : vOkm T0 (eP e_214 L_214 A_214 mu_214 (some q0)) 1 g_214_208_13 := vOk_inI fun ρ η f0 f1 f2 f3 f4 f5 f6 f7 f8 f9 f10 f11 f12 f13 f14 f15 f16 f17 f18 f19 f20 f21 f22 f23 f24 f25 f26 f27 f28 f29 f30 => q_214_66 (q0 := q0) (n0 := ρ 5) (n1 := ρ 4) (n2 := ρ 3) (n3 := ρ 2) (n4 := ρ 1) (n5 := ρ 0) (n6 := ρ 6) (n7 := ρ 7) (n8 := ρ 8) (n9 := ρ 9) (n10 := ρ 10) (n11 := ρ 11) (n12 := ρ 12) (n13 := ρ 13) (n14 := ρ 14) (n15 := ρ 15) (n16 := ρ 16) (n17 := ρ 17) (H0 := η 0) (H1 := η 1) (H2 := η 2) (H3 := η 3) (H4 := η 4) f30 f29 f28 f27 f26 f25 f24 f23 f22 f21 f20 f19 f18 f17 f16 f15 f14 f13 f12 f11 f10 f9 f8 f7 f6 f5 f4 f3 f2 f1 f0
theorem q_214_67 {q0 : Nat} {n0 n1 n2 n3 n4 n5 n6 n7 n8 n9 n10 n11 n12 n13 n14 n15 n16 n17 : Int} {H0 H1 H2 H3 H4 : gH} (f0 : n0 ≤ 9999) (f1 : 0 ≤ n0) (f2 : n1 ≤ 2000) (f3 : 0 ≤ n1) (f4 : n2 ≤ 2147483647) (f5 : (-2147483648) ≤ n2) (f6 : n3 ≤ 2000) (f7 : 0 ≤ n3) (f8 : n4 = 285) (f9 : n5 = 285) (f10 : (hLe T0 H0 H1 ∧ hFr s_214.2.2.2.2 H0 H1 ∧ hWt T0 H1) ∧ (Ab_214_208 n5 n4 n3 n2 n1 n0 H0 H1 ∧ True) ∧ some q0 = some (mub_214_208 n5 n4 n3 n2 n1 n0 H0 H1)) (f11 : n6 = w32 (n3 + n1)) (f12 : n7 ≤ 255) (f13 : 0 ≤ n7) (f14 : (hLe T0 H1 H2 ∧ hFr s_208.2.2.2.2 H1 H2 ∧ ((0 : Int) = 0 → H2.length = H1.length) ∧ hWt T0 H2) ∧ postb_208 n7 n4 n6 H1 H2) (f15 : n8 ≤ 1) (f16 : 0 ≤ n8) (f17 : (hLe T0 H2 H3 ∧ hFr s_209.2.2.2.2 H2 H3 ∧ ((0 : Int) = 0 → H3.length = H2.length) ∧ hWt T0 H3) ∧ postb_209 n8 n7 H2 H3) (f18 : n8 ≠ 0) (f19 : n9 = 4) (f20 : n1 < n9) (f21 : n10 = 10) (f22 : n11 = w32 (n10 * n0)) (f23 : n12 = w32 (n3 + n1)) (f24 : n13 ≤ 255) (f25 : 0 ≤ n13) (f26 : (hLe T0 H3 H4 ∧ hFr s_208.2.2.2.2 H3 H4 ∧ ((0 : Int) = 0 → H4.length = H3.length) ∧ hWt T0 H4) ∧ postb_208 n13 n4 n12 H3 H4) (f27 : n14 = w32 (n11 + n13)) (f28 : n15 = 48) (f29 : n16 = w32 (n14 - n15)) (f30 : n17 = w32 (n1 + 1)) : n17 ≤ 2000 := by
  have g4 := f10.2.1.1
  unfold Ab_214_208 at g4
  have sm23 : n6 = n12 := f11.trans f23.symm
  subst sm23
  unfold postb_208 at f14
  unfold postb_209 at f17
  unfold postb_208 at f26
  have e1 : hV H1 285 4 = hV H0 285 4 := (f10.1.2.1.1 285 4 kF_214_285_4)
  have e3 : hV H2 285 4 = hV H0 285 4 := ((f14.1.2.1.1 285 4 kF_208_285_4)).trans (f10.1.2.1.1 285 4 kF_214_285_4)
  have e6 : hV H2 287 = hV H0 287 := (fRow f14.1.2.1 287 kR_208_287).trans (fRow f10.1.2.1 287 kR_214_287)
  have e9 : hV H4 285 4 = hV H0 285 4 := ((f26.1.2.1.1 285 4 kF_208_285_4)).trans (((f17.1.2.1.1 285 4 kF_209_285_4)).trans (((f14.1.2.1.1 285 4 kF_208_285_4)).trans (f10.1.2.1.1 285 4 kF_214_285_4)))
  have e13 : hV H4 287 = hV H0 287 := (fRow f26.1.2.1 287 kR_208_287).trans ((fRow f17.1.2.1 287 kR_209_287).trans e6)
  have e14 : (0 : Int) ≤ hV H1 285 10 ∧ hV H1 285 10 ≤ 501 := f10.1.2.2 285 10 _ _ kW_285_10
  have e15 : (0 : Int) ≤ hV H0 285 4 ∧ hV H0 285 4 ≤ 2000 := bTo e1 (f10.1.2.2 285 4 _ _ kW_285_4)
  have y0 := g4.1
  have y1 := g4.2.1
  have y2 := g4.2.2.1
  have y3 := g4.2.2.2.1
  have y4 := g4.2.2.2.2.1
  have y5 := g4.2.2.2.2.2
  have r0_0 := f14.2.1
  have r0_1 := f14.2.2
  have r1_0 := f17.2
  have r2_0 := f26.2.1
  have r2_1 := f26.2.2
  try simp only [e1] at y0
  try simp only [e3, e6] at r0_0
  try simp only [e3] at r0_1
  try simp only [e9, e13] at r2_0
  try simp only [e9] at r2_1
  clear g4
  clear e1 e3 e6 e9 e13
  clear f10 f14 f17 f26
  rw [f21] at f22
  first
  | (have ix0 : n17 = n1 + 1 := Eq.trans f30 (w32_id (by (first | lia | omega)) (by (first | lia | omega))); subst ix0; clear f30)
  | (unfold w32 at f30; have ix0 : n17 = n1 + 1 := (by (first | lia | omega)); subst ix0)
  | skip
  try unfold w32 at f11
  try unfold w32 at f22
  try unfold w32 at f23
  try unfold w32 at f27
  try unfold w32 at f29
  try unfold w32 at f30
  (first | lia | omega)
def g_214_208_14 : vG := ([(10, [17, 4], [], 1), (2, [16, 14, 15], [], 0), (0, [15], [], 48), (1, [14, 11, 13], [], 0), (1208, [13, 1, 12], [3, 4], 0), (90, [13], [], 0), (91, [13], [], 255), (1, [12, 2, 4], [], 0), (3, [11, 10, 5], [], 0), (0, [10], [], 10), (42, [4, 9], [], 0), (0, [9], [], 4), (31, [8], [], 0), (1209, [8, 7], [2, 3], 0), (90, [8], [], 0), (91, [8], [], 1), (1208, [7, 1, 6], [1, 2], 0), (90, [7], [], 0), (91, [7], [], 255), (1, [6, 2, 4], [], 0), (5000, [0, 1, 2, 3, 4, 5], [0, 1], 208), (0, [0], [], 285), (0, [1], [], 285), (90, [2], [], 0), (91, [2], [], 2000), (90, [3], [], -2147483648), (91, [3], [], 2147483647), (90, [4], [], 0), (91, [4], [], 2000), (90, [5], [], 0), (91, [5], [], 9999)], (91, [17], [], 2000))
theorem c_214_208_14 {q0 : Nat} : vOkm T0 (eP e_214 L_214 A_214 mu_214 (some q0)) 1 g_214_208_14 := vOk_inI fun ρ η f0 f1 f2 f3 f4 f5 f6 f7 f8 f9 f10 f11 f12 f13 f14 f15 f16 f17 f18 f19 f20 f21 f22 f23 f24 f25 f26 f27 f28 f29 f30 => q_214_67 (q0 := q0) (n0 := ρ 5) (n1 := ρ 4) (n2 := ρ 3) (n3 := ρ 2) (n4 := ρ 1) (n5 := ρ 0) (n6 := ρ 6) (n7 := ρ 7) (n8 := ρ 8) (n9 := ρ 9) (n10 := ρ 10) (n11 := ρ 11) (n12 := ρ 12) (n13 := ρ 13) (n14 := ρ 14) (n15 := ρ 15) (n16 := ρ 16) (n17 := ρ 17) (H0 := η 0) (H1 := η 1) (H2 := η 2) (H3 := η 3) (H4 := η 4) f30 f29 f28 f27 f26 f25 f24 f23 f22 f21 f20 f19 f18 f17 f16 f15 f14 f13 f12 f11 f10 f9 f8 f7 f6 f5 f4 f3 f2 f1 f0
theorem q_214_68 {q0 : Nat} {n0 n1 n2 n3 n4 n5 n6 n7 n8 n9 n10 n11 n12 n13 n14 n15 n16 n17 : Int} {H0 H1 H2 H3 H4 : gH} (f0 : n0 ≤ 9999) (f1 : 0 ≤ n0) (f2 : n1 ≤ 2000) (f3 : 0 ≤ n1) (f4 : n2 ≤ 2147483647) (f5 : (-2147483648) ≤ n2) (f6 : n3 ≤ 2000) (f7 : 0 ≤ n3) (f8 : n4 = 285) (f9 : n5 = 285) (f10 : (hLe T0 H0 H1 ∧ hFr s_214.2.2.2.2 H0 H1 ∧ hWt T0 H1) ∧ (Ab_214_208 n5 n4 n3 n2 n1 n0 H0 H1 ∧ True) ∧ some q0 = some (mub_214_208 n5 n4 n3 n2 n1 n0 H0 H1)) (f11 : n6 = w32 (n3 + n1)) (f12 : n7 ≤ 255) (f13 : 0 ≤ n7) (f14 : (hLe T0 H1 H2 ∧ hFr s_208.2.2.2.2 H1 H2 ∧ ((0 : Int) = 0 → H2.length = H1.length) ∧ hWt T0 H2) ∧ postb_208 n7 n4 n6 H1 H2) (f15 : n8 ≤ 1) (f16 : 0 ≤ n8) (f17 : (hLe T0 H2 H3 ∧ hFr s_209.2.2.2.2 H2 H3 ∧ ((0 : Int) = 0 → H3.length = H2.length) ∧ hWt T0 H3) ∧ postb_209 n8 n7 H2 H3) (f18 : n8 ≠ 0) (f19 : n9 = 4) (f20 : n1 < n9) (f21 : n10 = 10) (f22 : n11 = w32 (n10 * n0)) (f23 : n12 = w32 (n3 + n1)) (f24 : n13 ≤ 255) (f25 : 0 ≤ n13) (f26 : (hLe T0 H3 H4 ∧ hFr s_208.2.2.2.2 H3 H4 ∧ ((0 : Int) = 0 → H4.length = H3.length) ∧ hWt T0 H4) ∧ postb_208 n13 n4 n12 H3 H4) (f27 : n14 = w32 (n11 + n13)) (f28 : n15 = 48) (f29 : n16 = w32 (n14 - n15)) (f30 : n17 = w32 (n1 + 1)) : 0 ≤ n16 := by
  have g4 := f10.2.1.1
  unfold Ab_214_208 at g4
  have sm23 : n6 = n12 := f11.trans f23.symm
  subst sm23
  unfold postb_208 at f14
  unfold postb_209 at f17
  unfold postb_208 at f26
  have e1 : hV H1 285 4 = hV H0 285 4 := (f10.1.2.1.1 285 4 kF_214_285_4)
  have e3 : hV H2 285 4 = hV H0 285 4 := ((f14.1.2.1.1 285 4 kF_208_285_4)).trans (f10.1.2.1.1 285 4 kF_214_285_4)
  have e6 : hV H2 287 = hV H0 287 := (fRow f14.1.2.1 287 kR_208_287).trans (fRow f10.1.2.1 287 kR_214_287)
  have e9 : hV H4 285 4 = hV H0 285 4 := ((f26.1.2.1.1 285 4 kF_208_285_4)).trans (((f17.1.2.1.1 285 4 kF_209_285_4)).trans (((f14.1.2.1.1 285 4 kF_208_285_4)).trans (f10.1.2.1.1 285 4 kF_214_285_4)))
  have e13 : hV H4 287 = hV H0 287 := (fRow f26.1.2.1 287 kR_208_287).trans ((fRow f17.1.2.1 287 kR_209_287).trans e6)
  have e14 : (0 : Int) ≤ hV H1 285 10 ∧ hV H1 285 10 ≤ 501 := f10.1.2.2 285 10 _ _ kW_285_10
  have e15 : (0 : Int) ≤ hV H0 285 4 ∧ hV H0 285 4 ≤ 2000 := bTo e1 (f10.1.2.2 285 4 _ _ kW_285_4)
  have y0 := g4.1
  have y1 := g4.2.1
  have y2 := g4.2.2.1
  have y3 := g4.2.2.2.1
  have y4 := g4.2.2.2.2.1
  have y5 := g4.2.2.2.2.2
  have r0_0 := f14.2.1
  have r0_1 := f14.2.2
  have r1_0 := f17.2
  have r2_0 := f26.2.1
  have r2_1 := f26.2.2
  try simp only [e1] at y0
  try simp only [e3, e6] at r0_0
  try simp only [e3] at r0_1
  try simp only [e9, e13] at r2_0
  try simp only [e9] at r2_1
  clear g4
  clear e1 e3 e6 e9 e13
  clear f10 f14 f17 f26
  rw [f21] at f22
  first
  | (have ix0 : n11 = 10 * n0 := Eq.trans f22 (w32_id (by (first | lia | omega)) (by (first | lia | omega))); subst ix0; clear f22)
  | (unfold w32 at f22; have ix0 : n11 = 10 * n0 := (by (first | lia | omega)); subst ix0)
  | skip
  first
  | (have ix1 : n14 = (10 * n0) + n13 := Eq.trans f27 (w32_id (by (first | lia | omega)) (by (first | lia | omega))); subst ix1; clear f27)
  | (unfold w32 at f27; have ix1 : n14 = (10 * n0) + n13 := (by (first | lia | omega)); subst ix1)
  | skip
  first
  | (have ix2 : n16 = ((10 * n0) + n13) - 48 := Eq.trans f29 (w32_id (by (first | lia | omega)) (by (first | lia | omega))); subst ix2; clear f29)
  | (unfold w32 at f29; have ix2 : n16 = ((10 * n0) + n13) - 48 := (by (first | lia | omega)); subst ix2)
  | skip
  try unfold w32 at f11
  try unfold w32 at f22
  try unfold w32 at f23
  try unfold w32 at f27
  try unfold w32 at f29
  try unfold w32 at f30
  (first | lia | omega)
def g_214_208_15 : vG := ([(10, [17, 4], [], 1), (2, [16, 14, 15], [], 0), (0, [15], [], 48), (1, [14, 11, 13], [], 0), (1208, [13, 1, 12], [3, 4], 0), (90, [13], [], 0), (91, [13], [], 255), (1, [12, 2, 4], [], 0), (3, [11, 10, 5], [], 0), (0, [10], [], 10), (42, [4, 9], [], 0), (0, [9], [], 4), (31, [8], [], 0), (1209, [8, 7], [2, 3], 0), (90, [8], [], 0), (91, [8], [], 1), (1208, [7, 1, 6], [1, 2], 0), (90, [7], [], 0), (91, [7], [], 255), (1, [6, 2, 4], [], 0), (5000, [0, 1, 2, 3, 4, 5], [0, 1], 208), (0, [0], [], 285), (0, [1], [], 285), (90, [2], [], 0), (91, [2], [], 2000), (90, [3], [], -2147483648), (91, [3], [], 2147483647), (90, [4], [], 0), (91, [4], [], 2000), (90, [5], [], 0), (91, [5], [], 9999)], (90, [16], [], 0))
theorem c_214_208_15 {q0 : Nat} : vOkm T0 (eP e_214 L_214 A_214 mu_214 (some q0)) 1 g_214_208_15 := vOk_inI fun ρ η f0 f1 f2 f3 f4 f5 f6 f7 f8 f9 f10 f11 f12 f13 f14 f15 f16 f17 f18 f19 f20 f21 f22 f23 f24 f25 f26 f27 f28 f29 f30 => q_214_68 (q0 := q0) (n0 := ρ 5) (n1 := ρ 4) (n2 := ρ 3) (n3 := ρ 2) (n4 := ρ 1) (n5 := ρ 0) (n6 := ρ 6) (n7 := ρ 7) (n8 := ρ 8) (n9 := ρ 9) (n10 := ρ 10) (n11 := ρ 11) (n12 := ρ 12) (n13 := ρ 13) (n14 := ρ 14) (n15 := ρ 15) (n16 := ρ 16) (n17 := ρ 17) (H0 := η 0) (H1 := η 1) (H2 := η 2) (H3 := η 3) (H4 := η 4) f30 f29 f28 f27 f26 f25 f24 f23 f22 f21 f20 f19 f18 f17 f16 f15 f14 f13 f12 f11 f10 f9 f8 f7 f6 f5 f4 f3 f2 f1 f0
theorem q_214_69 {q0 : Nat} {n0 n1 n2 n3 n4 n5 n6 n7 n8 n9 n10 n11 n12 n13 n14 n15 n16 n17 : Int} {H0 H1 H2 H3 H4 : gH} (f0 : n0 ≤ 9999) (f1 : 0 ≤ n0) (f2 : n1 ≤ 2000) (f3 : 0 ≤ n1) (f4 : n2 ≤ 2147483647) (f5 : (-2147483648) ≤ n2) (f6 : n3 ≤ 2000) (f7 : 0 ≤ n3) (f8 : n4 = 285) (f9 : n5 = 285) (f10 : (hLe T0 H0 H1 ∧ hFr s_214.2.2.2.2 H0 H1 ∧ hWt T0 H1) ∧ (Ab_214_208 n5 n4 n3 n2 n1 n0 H0 H1 ∧ True) ∧ some q0 = some (mub_214_208 n5 n4 n3 n2 n1 n0 H0 H1)) (f11 : n6 = w32 (n3 + n1)) (f12 : n7 ≤ 255) (f13 : 0 ≤ n7) (f14 : (hLe T0 H1 H2 ∧ hFr s_208.2.2.2.2 H1 H2 ∧ ((0 : Int) = 0 → H2.length = H1.length) ∧ hWt T0 H2) ∧ postb_208 n7 n4 n6 H1 H2) (f15 : n8 ≤ 1) (f16 : 0 ≤ n8) (f17 : (hLe T0 H2 H3 ∧ hFr s_209.2.2.2.2 H2 H3 ∧ ((0 : Int) = 0 → H3.length = H2.length) ∧ hWt T0 H3) ∧ postb_209 n8 n7 H2 H3) (f18 : n8 ≠ 0) (f19 : n9 = 4) (f20 : n1 < n9) (f21 : n10 = 10) (f22 : n11 = w32 (n10 * n0)) (f23 : n12 = w32 (n3 + n1)) (f24 : n13 ≤ 255) (f25 : 0 ≤ n13) (f26 : (hLe T0 H3 H4 ∧ hFr s_208.2.2.2.2 H3 H4 ∧ ((0 : Int) = 0 → H4.length = H3.length) ∧ hWt T0 H4) ∧ postb_208 n13 n4 n12 H3 H4) (f27 : n14 = w32 (n11 + n13)) (f28 : n15 = 48) (f29 : n16 = w32 (n14 - n15)) (f30 : n17 = w32 (n1 + 1)) : n16 ≤ 9999 := by
  have g4 := f10.2.1.1
  unfold Ab_214_208 at g4
  have sm23 : n6 = n12 := f11.trans f23.symm
  subst sm23
  unfold postb_208 at f14
  unfold postb_209 at f17
  unfold postb_208 at f26
  have e1 : hV H1 285 4 = hV H0 285 4 := (f10.1.2.1.1 285 4 kF_214_285_4)
  have e3 : hV H2 285 4 = hV H0 285 4 := ((f14.1.2.1.1 285 4 kF_208_285_4)).trans (f10.1.2.1.1 285 4 kF_214_285_4)
  have e6 : hV H2 287 = hV H0 287 := (fRow f14.1.2.1 287 kR_208_287).trans (fRow f10.1.2.1 287 kR_214_287)
  have e9 : hV H4 285 4 = hV H0 285 4 := ((f26.1.2.1.1 285 4 kF_208_285_4)).trans (((f17.1.2.1.1 285 4 kF_209_285_4)).trans (((f14.1.2.1.1 285 4 kF_208_285_4)).trans (f10.1.2.1.1 285 4 kF_214_285_4)))
  have e13 : hV H4 287 = hV H0 287 := (fRow f26.1.2.1 287 kR_208_287).trans ((fRow f17.1.2.1 287 kR_209_287).trans e6)
  have e14 : (0 : Int) ≤ hV H1 285 10 ∧ hV H1 285 10 ≤ 501 := f10.1.2.2 285 10 _ _ kW_285_10
  have e15 : (0 : Int) ≤ hV H0 285 4 ∧ hV H0 285 4 ≤ 2000 := bTo e1 (f10.1.2.2 285 4 _ _ kW_285_4)
  have y0 := g4.1
  have y1 := g4.2.1
  have y2 := g4.2.2.1
  have y3 := g4.2.2.2.1
  have y4 := g4.2.2.2.2.1
  have y5 := g4.2.2.2.2.2
  have r0_0 := f14.2.1
  have r0_1 := f14.2.2
  have r1_0 := f17.2
  have r2_0 := f26.2.1
  have r2_1 := f26.2.2
  try simp only [e1] at y0
  try simp only [e3, e6] at r0_0
  try simp only [e3] at r0_1
  try simp only [e9, e13] at r2_0
  try simp only [e9] at r2_1
  clear g4
  clear e1 e3 e6 e9 e13
  clear f10 f14 f17 f26
  rw [f21] at f22
  first
  | (have ix0 : n11 = 10 * n0 := Eq.trans f22 (w32_id (by (first | lia | omega)) (by (first | lia | omega))); subst ix0; clear f22)
  | (unfold w32 at f22; have ix0 : n11 = 10 * n0 := (by (first | lia | omega)); subst ix0)
  | skip
  first
  | (have ix1 : n14 = (10 * n0) + n13 := Eq.trans f27 (w32_id (by (first | lia | omega)) (by (first | lia | omega))); subst ix1; clear f27)
  | (unfold w32 at f27; have ix1 : n14 = (10 * n0) + n13 := (by (first | lia | omega)); subst ix1)
  | skip
  first
  | (have ix2 : n16 = ((10 * n0) + n13) - 48 := Eq.trans f29 (w32_id (by (first | lia | omega)) (by (first | lia | omega))); subst ix2; clear f29)
  | (unfold w32 at f29; have ix2 : n16 = ((10 * n0) + n13) - 48 := (by (first | lia | omega)); subst ix2)
  | skip
  try unfold w32 at f11
  try unfold w32 at f22
  try unfold w32 at f23
  try unfold w32 at f27
  try unfold w32 at f29
  try unfold w32 at f30
  (first | lia | omega)
def g_214_208_16 : vG := ([(10, [17, 4], [], 1), (2, [16, 14, 15], [], 0), (0, [15], [], 48), (1, [14, 11, 13], [], 0), (1208, [13, 1, 12], [3, 4], 0), (90, [13], [], 0), (91, [13], [], 255), (1, [12, 2, 4], [], 0), (3, [11, 10, 5], [], 0), (0, [10], [], 10), (42, [4, 9], [], 0), (0, [9], [], 4), (31, [8], [], 0), (1209, [8, 7], [2, 3], 0), (90, [8], [], 0), (91, [8], [], 1), (1208, [7, 1, 6], [1, 2], 0), (90, [7], [], 0), (91, [7], [], 255), (1, [6, 2, 4], [], 0), (5000, [0, 1, 2, 3, 4, 5], [0, 1], 208), (0, [0], [], 285), (0, [1], [], 285), (90, [2], [], 0), (91, [2], [], 2000), (90, [3], [], -2147483648), (91, [3], [], 2147483647), (90, [4], [], 0), (91, [4], [], 2000), (90, [5], [], 0), (91, [5], [], 9999)], (91, [16], [], 9999))
theorem c_214_208_16 {q0 : Nat} : vOkm T0 (eP e_214 L_214 A_214 mu_214 (some q0)) 1 g_214_208_16 := vOk_inI fun ρ η f0 f1 f2 f3 f4 f5 f6 f7 f8 f9 f10 f11 f12 f13 f14 f15 f16 f17 f18 f19 f20 f21 f22 f23 f24 f25 f26 f27 f28 f29 f30 => q_214_69 (q0 := q0) (n0 := ρ 5) (n1 := ρ 4) (n2 := ρ 3) (n3 := ρ 2) (n4 := ρ 1) (n5 := ρ 0) (n6 := ρ 6) (n7 := ρ 7) (n8 := ρ 8) (n9 := ρ 9) (n10 := ρ 10) (n11 := ρ 11) (n12 := ρ 12) (n13 := ρ 13) (n14 := ρ 14) (n15 := ρ 15) (n16 := ρ 16) (n17 := ρ 17) (H0 := η 0) (H1 := η 1) (H2 := η 2) (H3 := η 3) (H4 := η 4) f30 f29 f28 f27 f26 f25 f24 f23 f22 f21 f20 f19 f18 f17 f16 f15 f14 f13 f12 f11 f10 f9 f8 f7 f6 f5 f4 f3 f2 f1 f0
theorem q_214_70 {q0 : Nat} {n0 n1 n2 n3 n4 n5 n6 n7 n8 n9 n10 n11 n12 n13 n14 n15 n16 n17 : Int} {H0 H1 H2 H3 H4 : gH} (f0 : n0 ≤ 9999) (f1 : 0 ≤ n0) (f2 : n1 ≤ 2000) (f3 : 0 ≤ n1) (f4 : n2 ≤ 2147483647) (f5 : (-2147483648) ≤ n2) (f6 : n3 ≤ 2000) (f7 : 0 ≤ n3) (f8 : n4 = 285) (f9 : n5 = 285) (f10 : (hLe T0 H0 H1 ∧ hFr s_214.2.2.2.2 H0 H1 ∧ hWt T0 H1) ∧ (Ab_214_208 n5 n4 n3 n2 n1 n0 H0 H1 ∧ True) ∧ some q0 = some (mub_214_208 n5 n4 n3 n2 n1 n0 H0 H1)) (f11 : n6 = w32 (n3 + n1)) (f12 : n7 ≤ 255) (f13 : 0 ≤ n7) (f14 : (hLe T0 H1 H2 ∧ hFr s_208.2.2.2.2 H1 H2 ∧ ((0 : Int) = 0 → H2.length = H1.length) ∧ hWt T0 H2) ∧ postb_208 n7 n4 n6 H1 H2) (f15 : n8 ≤ 1) (f16 : 0 ≤ n8) (f17 : (hLe T0 H2 H3 ∧ hFr s_209.2.2.2.2 H2 H3 ∧ ((0 : Int) = 0 → H3.length = H2.length) ∧ hWt T0 H3) ∧ postb_209 n8 n7 H2 H3) (f18 : n8 ≠ 0) (f19 : n9 = 4) (f20 : n1 < n9) (f21 : n10 = 10) (f22 : n11 = w32 (n10 * n0)) (f23 : n12 = w32 (n3 + n1)) (f24 : n13 ≤ 255) (f25 : 0 ≤ n13) (f26 : (hLe T0 H3 H4 ∧ hFr s_208.2.2.2.2 H3 H4 ∧ ((0 : Int) = 0 → H4.length = H3.length) ∧ hWt T0 H4) ∧ postb_208 n13 n4 n12 H3 H4) (f27 : n14 = w32 (n11 + n13)) (f28 : n15 = 48) (f29 : n16 = w32 (n14 - n15)) (f30 : n17 = w32 (n1 + 1)) : Ab_214_208 n5 n4 n3 n2 n17 n16 H0 H4 ∧ ∀ q, some q0 = some q → mub_214_208 n5 n4 n3 n2 n17 n16 H0 H4 < q := by
  have g4 := f10.2.1.1
  unfold Ab_214_208 at g4
  have g5 := Option.some.inj f10.2.2
  unfold mub_214_208 at g5
  have sm23 : n6 = n12 := f11.trans f23.symm
  subst sm23
  unfold postb_208 at f14
  unfold postb_209 at f17
  unfold postb_208 at f26
  unfold Ab_214_208
  unfold mub_214_208
  have e1 : hV H1 285 4 = hV H0 285 4 := (f10.1.2.1.1 285 4 kF_214_285_4)
  have e3 : hV H2 285 4 = hV H0 285 4 := ((f14.1.2.1.1 285 4 kF_208_285_4)).trans (f10.1.2.1.1 285 4 kF_214_285_4)
  have e6 : hV H2 287 = hV H0 287 := (fRow f14.1.2.1 287 kR_208_287).trans (fRow f10.1.2.1 287 kR_214_287)
  have e10 : hV H4 285 10 = hV H1 285 10 := ((f26.1.2.1.1 285 10 kF_208_285_10)).trans (((f17.1.2.1.1 285 10 kF_209_285_10)).trans (f14.1.2.1.1 285 10 kF_208_285_10))
  have e13 : hV H4 285 4 = hV H0 285 4 := ((f26.1.2.1.1 285 4 kF_208_285_4)).trans (((f17.1.2.1.1 285 4 kF_209_285_4)).trans (((f14.1.2.1.1 285 4 kF_208_285_4)).trans (f10.1.2.1.1 285 4 kF_214_285_4)))
  have e17 : hV H4 287 = hV H0 287 := (fRow f26.1.2.1 287 kR_208_287).trans ((fRow f17.1.2.1 287 kR_209_287).trans e6)
  have e18 : (0 : Int) ≤ hV H1 285 10 ∧ hV H1 285 10 ≤ 501 := f10.1.2.2 285 10 _ _ kW_285_10
  have e19 : (0 : Int) ≤ hV H0 285 4 ∧ hV H0 285 4 ≤ 2000 := bTo e1 (f10.1.2.2 285 4 _ _ kW_285_4)
  try simp only [e10, e13]
  have y0 := g4.1
  have y1 := g4.2.1
  have y2 := g4.2.2.1
  have y3 := g4.2.2.2.1
  have y4 := g4.2.2.2.2.1
  have y5 := g4.2.2.2.2.2
  have r0_0 := f14.2.1
  have r0_1 := f14.2.2
  have r1_0 := f17.2
  have r2_0 := f26.2.1
  have r2_1 := f26.2.2
  try simp only [e1] at y0
  try simp only [e3, e6] at r0_0
  try simp only [e3] at r0_1
  try simp only [e13, e17] at r2_0
  try simp only [e13] at r2_1
  clear g4
  clear e1 e3 e6 e10 e13 e17
  clear f10 f14 f17 f26
  rw [f21] at f22
  first
  | (have ix0 : n11 = 10 * n0 := Eq.trans f22 (w32_id (by (first | lia | omega)) (by (first | lia | omega))); subst ix0; clear f22)
  | (unfold w32 at f22; have ix0 : n11 = 10 * n0 := (by (first | lia | omega)); subst ix0)
  | skip
  first
  | (have ix1 : n14 = (10 * n0) + n13 := Eq.trans f27 (w32_id (by (first | lia | omega)) (by (first | lia | omega))); subst ix1; clear f27)
  | (unfold w32 at f27; have ix1 : n14 = (10 * n0) + n13 := (by (first | lia | omega)); subst ix1)
  | skip
  first
  | (have ix2 : n16 = ((10 * n0) + n13) - 48 := Eq.trans f29 (w32_id (by (first | lia | omega)) (by (first | lia | omega))); subst ix2; clear f29)
  | (unfold w32 at f29; have ix2 : n16 = ((10 * n0) + n13) - 48 := (by (first | lia | omega)); subst ix2)
  | skip
  first
  | (have ix3 : n17 = n1 + 1 := Eq.trans f30 (w32_id (by (first | lia | omega)) (by (first | lia | omega))); subst ix3; clear f30)
  | (unfold w32 at f30; have ix3 : n17 = n1 + 1 := (by (first | lia | omega)); subst ix3)
  | skip
  try unfold w32 at f11
  try unfold w32 at f22
  try unfold w32 at f23
  try unfold w32 at f27
  try unfold w32 at f29
  try unfold w32 at f30
  refine ⟨?_, fun q hq => ?_⟩
  · refine ⟨?_, ?_, ?_, ?_, ?_, ?_⟩ <;> first | assumption | (first | lia | omega) | trivial
  · have g6 := Option.some.inj hq
    subst g6
    (first | lia | omega)
def g_214_208_17 : vG := ([(10, [17, 4], [], 1), (2, [16, 14, 15], [], 0), (0, [15], [], 48), (1, [14, 11, 13], [], 0), (1208, [13, 1, 12], [3, 4], 0), (90, [13], [], 0), (91, [13], [], 255), (1, [12, 2, 4], [], 0), (3, [11, 10, 5], [], 0), (0, [10], [], 10), (42, [4, 9], [], 0), (0, [9], [], 4), (31, [8], [], 0), (1209, [8, 7], [2, 3], 0), (90, [8], [], 0), (91, [8], [], 1), (1208, [7, 1, 6], [1, 2], 0), (90, [7], [], 0), (91, [7], [], 255), (1, [6, 2, 4], [], 0), (5000, [0, 1, 2, 3, 4, 5], [0, 1], 208), (0, [0], [], 285), (0, [1], [], 285), (90, [2], [], 0), (91, [2], [], 2000), (90, [3], [], -2147483648), (91, [3], [], 2147483647), (90, [4], [], 0), (91, [4], [], 2000), (90, [5], [], 0), (91, [5], [], 9999)], (4000, [1, 2, 3, 17, 16], [4], 208))
theorem c_214_208_17 {q0 : Nat} : vOkm T0 (eP e_214 L_214 A_214 mu_214 (some q0)) 1 g_214_208_17 := vOk_inI fun ρ η f0 f1 f2 f3 f4 f5 f6 f7 f8 f9 f10 f11 f12 f13 f14 f15 f16 f17 f18 f19 f20 f21 f22 f23 f24 f25 f26 f27 f28 f29 f30 => q_214_70 (q0 := q0) (n0 := ρ 5) (n1 := ρ 4) (n2 := ρ 3) (n3 := ρ 2) (n4 := ρ 1) (n5 := ρ 0) (n6 := ρ 6) (n7 := ρ 7) (n8 := ρ 8) (n9 := ρ 9) (n10 := ρ 10) (n11 := ρ 11) (n12 := ρ 12) (n13 := ρ 13) (n14 := ρ 14) (n15 := ρ 15) (n16 := ρ 16) (n17 := ρ 17) (H0 := η 0) (H1 := η 1) (H2 := η 2) (H3 := η 3) (H4 := η 4) f30 f29 f28 f27 f26 f25 f24 f23 f22 f21 f20 f19 f18 f17 f16 f15 f14 f13 f12 f11 f10 f9 f8 f7 f6 f5 f4 f3 f2 f1 f0
def p_214_208 : List vG := [g_214_208_0,
  g_214_208_1,
  g_214_208_2,
  g_214_208_3,
  g_214_208_4,
  g_214_208_5,
  g_214_208_6,
  g_214_208_7,
  g_214_208_8,
  g_214_208_9,
  g_214_208_10,
  g_214_208_11,
  g_214_208_12,
  g_214_208_13,
  g_214_208_14,
  g_214_208_15,
  g_214_208_16,
  g_214_208_17]
theorem r_214_208 : vCovO true (eRc e_214 L_214 cs_214 2000 (208, [(0, (3, 12, 285, 0)), (1, (0, 0, 2000, 0)), (2, (0, -2147483648, 2147483647, 0)), (3, (0, 0, 2000, 0)), (4, (0, 0, 9999, 0))])) p_214_208 = true := by decide +kernel
theorem m_214 (d : Nat) : eC e_214 (d + 3) := eC_ok (e := e_214) (L := L_214) (cs := cs_214) (n := 2000) (d := d + 2) (A := A_214) (μ := mu_214) (tp := true) (p0 := p_214_s) rfl ⟨m_208 (d + 1), ⟨m_209 (d + 1), ⟨m_210 (d + 1), ⟨m_211 (d + 1), ⟨m_213 (d + 1), ⟨m_215 d, trivial⟩⟩⟩⟩⟩⟩ rfl (.inr pre0_ok) (by decide +kernel) (fun _ => post0_ok) r_214_s (allC c_214_s_0 allN) (allC (.inl ⟨p_214_7, r_214_7, fun q0 => (allC c_214_7_0 (allC c_214_7_1 (allC c_214_7_2 (allC c_214_7_3 (allC c_214_7_4 (allC c_214_7_5 (allC c_214_7_6 (allC c_214_7_7 (allC c_214_7_8 (allC c_214_7_9 (allC c_214_7_10 (allC c_214_7_11 (allC c_214_7_12 (allC c_214_7_13 (allC c_214_7_14 (allC c_214_7_15 (allC c_214_7_16 (allC c_214_7_17 (allC c_214_7_18 (allC c_214_7_19 (allC c_214_7_20 allN)))))))))))))))))))))⟩) (allC (.inl ⟨p_214_85, r_214_85, fun q0 => (allC c_214_85_0 (allC c_214_85_1 (allC c_214_85_2 (allC c_214_85_3 (allC c_214_85_4 (allC c_214_85_5 (allC c_214_85_6 (allC c_214_85_7 (allC c_214_85_8 (allC c_214_85_9 (allC c_214_85_10 (allC c_214_85_11 (allC c_214_85_12 (allC c_214_85_13 (allC c_214_85_14 (allC c_214_85_15 (allC c_214_85_16 (allC c_214_85_17 allN))))))))))))))))))⟩) (allC (.inl ⟨p_214_146, r_214_146, fun q0 => (allC c_214_146_0 (allC c_214_146_1 (allC c_214_146_2 (allC c_214_146_3 (allC c_214_146_4 (allC c_214_146_5 (allC c_214_146_6 (allC c_214_146_7 (allC c_214_146_8 (allC c_214_146_9 (allC c_214_146_10 (allC c_214_146_11 (allC c_214_146_12 allN)))))))))))))⟩) (allC (.inl ⟨p_214_208, r_214_208, fun q0 => (allC c_214_208_0 (allC c_214_208_1 (allC c_214_208_2 (allC c_214_208_3 (allC c_214_208_4 (allC c_214_208_5 (allC c_214_208_6 (allC c_214_208_7 (allC c_214_208_8 (allC c_214_208_9 (allC c_214_208_10 (allC c_214_208_11 (allC c_214_208_12 (allC c_214_208_13 (allC c_214_208_14 (allC c_214_208_15 (allC c_214_208_16 (allC c_214_208_17 allN))))))))))))))))))⟩) allN))))
