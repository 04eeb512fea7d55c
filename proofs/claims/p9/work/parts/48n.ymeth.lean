/-! CONTRACTS of methods (printed by wip/gen/emit.py). -/
/- MixStageModel.hiss (I)I -/
noncomputable def s_291 : vM := ([(3, 12, 285, 0), (0, 0, 19, 0)], (0, -2147483648, 2147483647, 0), 1, 0, [(12, 82), (580, 0), (588, 0), (596, 0), (604, 0), (612, 0), (668, 0)])
def preb_291 (a0 a1 : Int) (h : gH) : Prop := SO h ∧ PG h
def pre_291 : List Int → gH → Prop := fun xs h => match xs with
  | [a0, a1] => preb_291 a0 a1 h
  | _ => False
noncomputable def e_291 : vE := (291, s_291, pre_291, post0)
noncomputable def L_291 : List vE := [e_278]
def cs_291 : List vC := [(2, [(0, (3, 12, 285, 0)), (1, (0, 0, 19, 0)), (2, (0, 0, 20, 0))]), (51, [(0, (3, 12, 285, 0)), (1, (0, 0, 19, 0)), (2, (0, 0, 20, 0))]), (59, [(0, (3, 12, 285, 0)), (1, (0, 0, 19, 0)), (2, (0, 0, 19, 0)), (3, (0, 0, 20, 0))]), (109, [(0, (3, 12, 285, 0)), (1, (0, 0, 19, 0)), (2, (0, 0, 19, 0)), (3, (0, 0, 19, 0)), (4, (0, -2147483648, 2147483647, 0)), (5, (0, -2147483648, 2147483647, 0)), (6, (0, 0, 20, 0))])]
def Ab_291_2 (a0 a1 x0 x1 x2 : Int) (h0 h : gH) : Prop := x1 = a1 ∧ True
def mub_291_2 (a0 a1 x0 x1 x2 : Int) (h0 h : gH) : Nat := (17179869184 + (2147483648 - x2).toNat) * 1208925819614629174706176 + 1208925819614629174706175
def Ab_291_51 (a0 a1 x0 x1 x2 : Int) (h0 h : gH) : Prop := x1 = a1 ∧ True
def mub_291_51 (a0 a1 x0 x1 x2 : Int) (h0 h : gH) : Nat := (8589934592 + (2147483648 - x2).toNat) * 1208925819614629174706176 + 1208925819614629174706175
def Ab_291_59 (a0 a1 x0 x1 x2 x3 : Int) (h0 h : gH) : Prop := x1 = a1 ∧ True
def mub_291_59 (a0 a1 x0 x1 x2 x3 : Int) (h0 h : gH) : Nat := (8589934592 + (2147483648 - x2).toNat) * 1208925819614629174706176 + (8589934592 + (2147483648 - x3).toNat) * 1099511627776 + 1099511627775
def Ab_291_109 (a0 a1 x0 x1 x2 x3 x4 x5 x6 : Int) (h0 h : gH) : Prop := x1 = a1 ∧ x3 < hV h 285 64
def mub_291_109 (a0 a1 x0 x1 x2 x3 x4 x5 x6 : Int) (h0 h : gH) : Nat := (8589934592 + (2147483648 - x2).toNat) * 1208925819614629174706176 + (8589934592 + (2147483648 - x3).toNat) * 1099511627776 + (8589934592 + (2147483648 - x6).toNat) * 1
def A_291 : Int → List Int → gH → gH → Prop := fun c xs h0 h => match c.toNat with
  | 2 => (match xs with
    | [a0, a1, x0, x1, x2] => Ab_291_2 a0 a1 x0 x1 x2 h0 h
    | _ => False)
  | 51 => (match xs with
    | [a0, a1, x0, x1, x2] => Ab_291_51 a0 a1 x0 x1 x2 h0 h
    | _ => False)
  | 59 => (match xs with
    | [a0, a1, x0, x1, x2, x3] => Ab_291_59 a0 a1 x0 x1 x2 x3 h0 h
    | _ => False)
  | 109 => (match xs with
    | [a0, a1, x0, x1, x2, x3, x4, x5, x6] => Ab_291_109 a0 a1 x0 x1 x2 x3 x4 x5 x6 h0 h
    | _ => False)
  | _ => True
def mu_291 : Int → List Int → gH → gH → Nat := fun c xs h0 h => match c.toNat with
  | 2 => (match xs with
    | [a0, a1, x0, x1, x2] => mub_291_2 a0 a1 x0 x1 x2 h0 h
    | _ => 0)
  | 51 => (match xs with
    | [a0, a1, x0, x1, x2] => mub_291_51 a0 a1 x0 x1 x2 h0 h
    | _ => 0)
  | 59 => (match xs with
    | [a0, a1, x0, x1, x2, x3] => mub_291_59 a0 a1 x0 x1 x2 x3 h0 h
    | _ => 0)
  | 109 => (match xs with
    | [a0, a1, x0, x1, x2, x3, x4, x5, x6] => mub_291_109 a0 a1 x0 x1 x2 x3 x4 x5 x6 h0 h
    | _ => 0)
  | _ => 0
theorem q_291_0 {n0 n1 n2 : Int} {H0 : gH} (f0 : n0 = 285) (f1 : n1 = 0) : Ab_291_2 n0 n2 n0 n2 n1 H0 H0 ∧ ∀ q, none = some q → mub_291_2 n0 n2 n0 n2 n1 H0 H0 < q := by
  unfold Ab_291_2
  refine ⟨?_, fun q hq => ?_⟩
  · refine ⟨?_, ?_⟩ <;> first | assumption | omega | trivial
  · exact nomatch hq
def g_291_s_0 : vG := ([(0, [2], [], 0), (0, [0], [], 285)], (4000, [0, 1, 2], [0], 2))
theorem c_291_s_0 : vOkm T0 (eP e_291 L_291 A_291 mu_291 none) 2 g_291_s_0 := vOk_inI fun ρ η f0 f1 => q_291_0 (n0 := ρ 0) (n1 := ρ 2) (n2 := ρ 1) (H0 := η 0) f1 f0
def p_291_s : List vG := [g_291_s_0]
theorem r_291_s : vCovO true (eR0 e_291 L_291 cs_291 2000) p_291_s = true := by decide +kernel
theorem kF_291_285_64 : vFree s_291.2.2.2.2 285 64 = true := by decide +kernel
theorem q_291_1 {q0 : Nat} {n0 n1 n2 n3 n4 n5 n6 : Int} {H0 H1 : gH} (f0 : n0 ≤ 20) (f1 : 0 ≤ n0) (f2 : n1 ≤ 19) (f3 : 0 ≤ n1) (f4 : n2 = 285) (f5 : n3 ≤ 19) (f6 : 0 ≤ n3) (f7 : n4 = 285) (f8 : (hLe T0 H0 H1 ∧ hFr s_291.2.2.2.2 H0 H1 ∧ hWt T0 H1) ∧ (Ab_291_2 n4 n3 n2 n1 n0 H0 H1 ∧ preb_291 n4 n3 H0) ∧ some q0 = some (mub_291_2 n4 n3 n2 n1 n0 H0 H1)) (f9 : n5 ≤ 20) (f10 : 0 ≤ n5) (f11 : n5 = hV H1 (n2).toNat 64) (f12 : n5 ≤ n0) (f13 : n6 = 0) : Ab_291_51 n4 n3 n2 n1 n6 H0 H1 ∧ ∀ q, some q0 = some q → mub_291_51 n4 n3 n2 n1 n6 H0 H1 < q := by
  have g4 := f8.2.1.1
  unfold Ab_291_2 at g4
  have g3 := f8.2.1.2
  unfold preb_291 at g3
  have g5 := Option.some.inj f8.2.2
  unfold mub_291_2 at g5
  unfold Ab_291_51
  unfold mub_291_51
  have e1 : n5 = hV H0 285 64 := (by rw [f4] at f11; exact f11 : n5 = hV H1 285 64).trans ((f8.1.2.1.1 285 64 kF_291_285_64))
  have k0 := g4.1
  have y0 := g4.2
  have p0 := g3.1
  have p1 := g3.2
  clear g3
  clear g4
  clear f11
  clear f8
  subst e1
  try subst k0
  refine ⟨?_, fun q hq => ?_⟩
  · refine ⟨?_, ?_⟩ <;> first | assumption | omega | trivial
  · have g6 := Option.some.inj hq
    subst g6
    omega
def g_291_2_0 : vG := ([(0, [6], [], 0), (43, [4, 5], [], 0), (20, [5, 2], [1], 64), (90, [5], [], 0), (91, [5], [], 20), (5000, [0, 1, 2, 3, 4], [0, 1], 2), (0, [0], [], 285), (90, [1], [], 0), (91, [1], [], 19), (0, [2], [], 285), (90, [3], [], 0), (91, [3], [], 19), (90, [4], [], 0), (91, [4], [], 20)], (4000, [2, 3, 6], [1], 51))
theorem c_291_2_0 {q0 : Nat} : vOkm T0 (eP e_291 L_291 A_291 mu_291 (some q0)) 2 g_291_2_0 := vOk_inI fun ρ η f0 f1 f2 f3 f4 f5 f6 f7 f8 f9 f10 f11 f12 f13 => q_291_1 (q0 := q0) (n0 := ρ 4) (n1 := ρ 3) (n2 := ρ 2) (n3 := ρ 1) (n4 := ρ 0) (n5 := ρ 5) (n6 := ρ 6) (H0 := η 0) (H1 := η 1) f13 f12 f11 f10 f9 f8 f7 f6 f5 f4 f3 f2 f1 f0
theorem q_291_2 {q0 : Nat} {n0 n1 : Int} {H0 : gH} (f0 : 0 ≤ n0) (f1 : n1 ≤ 20) (f2 : n0 < n1) : 0 ≤ n0 ∧ n0 < 20 := by
  omega
def g_291_2_1 : vG := ([(42, [4, 5], [], 0), (91, [5], [], 20), (90, [4], [], 0)], (70, [4], [], 20))
theorem c_291_2_1 {q0 : Nat} : vOkm T0 (eP e_291 L_291 A_291 mu_291 (some q0)) 2 g_291_2_1 := vOk_inI fun ρ η f0 f1 f2 => q_291_2 (q0 := q0) (n0 := ρ 4) (n1 := ρ 5) (H0 := η 0) f2 f1 f0
def g_291_2_2 : vG := ([(42, [4, 5], [], 0), (91, [5], [], 20), (90, [4], [], 0)], (70, [4], [], 20))
theorem c_291_2_2 {q0 : Nat} : vOkm T0 (eP e_291 L_291 A_291 mu_291 (some q0)) 2 g_291_2_2 := vOk_inI fun ρ η f0 f1 f2 => q_291_2 (q0 := q0) (n0 := ρ 4) (n1 := ρ 5) (H0 := η 0) f2 f1 f0
theorem q_291_3 {q0 : Nat} {n0 n1 n2 n3 n4 n5 : Int} {H0 H1 : gH} (f0 : n0 = 334) (f1 : n1 = hV H1 (n0).toNat (n2).toNat) (f2 : n3 = 7) (f3 : n1 ≤ n3) (f4 : n4 = 334) (f5 : 0 ≤ n5) (f6 : n5 = hV H1 (n4).toNat (n2).toNat) : 0 ≤ n5 ∧ n5 < 8 := by
  have e0 : n1 = hV H1 334 (n2).toNat := (by rw [f0] at f1; exact f1 : n1 = hV H1 334 (n2).toNat)
  have e1 : n5 = hV H1 334 (n2).toNat := (by rw [f4] at f6; exact f6 : n5 = hV H1 334 (n2).toNat)
  clear f1 f6
  subst e0
  subst e1
  omega
def g_291_2_3 : vG := ([(22, [12, 11, 4], [1], 0), (90, [12], [], 0), (0, [11], [], 334), (45, [9, 10], [], 0), (0, [10], [], 7), (22, [9, 8, 4], [1], 0), (0, [8], [], 334)], (70, [12], [], 8))
theorem c_291_2_3 {q0 : Nat} : vOkm T0 (eP e_291 L_291 A_291 mu_291 (some q0)) 2 g_291_2_3 := vOk_inI fun ρ η f0 f1 f2 f3 f4 f5 f6 => q_291_3 (q0 := q0) (n0 := ρ 8) (n1 := ρ 9) (n2 := ρ 4) (n3 := ρ 10) (n4 := ρ 11) (n5 := ρ 12) (H0 := η 0) (H1 := η 1) f6 f5 f4 f3 f2 f1 f0
def g_291_2_4 : vG := ([(42, [4, 5], [], 0), (91, [5], [], 20), (90, [4], [], 0)], (70, [4], [], 20))
theorem c_291_2_4 {q0 : Nat} : vOkm T0 (eP e_291 L_291 A_291 mu_291 (some q0)) 2 g_291_2_4 := vOk_inI fun ρ η f0 f1 f2 => q_291_2 (q0 := q0) (n0 := ρ 4) (n1 := ρ 5) (H0 := η 0) f2 f1 f0
theorem q_291_4 {q0 : Nat} {n0 n1 n2 : Int} {H0 : gH} (f0 : 0 ≤ n0) (f1 : n1 ≤ 20) (f2 : n0 < n1) (f3 : n2 = w32 (n0 + 1)) : 0 ≤ n2 := by
  first
  | (have ix0 : n2 = n0 + 1 := Eq.trans f3 (w32_id (by omega) (by omega)); subst ix0; clear f3)
  | (unfold w32 at f3; have ix0 : n2 = n0 + 1 := (by omega); subst ix0)
  | skip
  try unfold w32 at f3
  omega
def g_291_2_5 : vG := ([(10, [14, 4], [], 1), (42, [4, 5], [], 0), (91, [5], [], 20), (90, [4], [], 0)], (90, [14], [], 0))
theorem c_291_2_5 {q0 : Nat} : vOkm T0 (eP e_291 L_291 A_291 mu_291 (some q0)) 2 g_291_2_5 := vOk_inI fun ρ η f0 f1 f2 f3 => q_291_4 (q0 := q0) (n0 := ρ 4) (n1 := ρ 5) (n2 := ρ 14) (H0 := η 0) f3 f2 f1 f0
theorem q_291_5 {q0 : Nat} {n0 n1 n2 : Int} {H0 : gH} (f0 : 0 ≤ n0) (f1 : n1 ≤ 20) (f2 : n0 < n1) (f3 : n2 = w32 (n0 + 1)) : n2 ≤ 20 := by
  first
  | (have ix0 : n2 = n0 + 1 := Eq.trans f3 (w32_id (by omega) (by omega)); subst ix0; clear f3)
  | (unfold w32 at f3; have ix0 : n2 = n0 + 1 := (by omega); subst ix0)
  | skip
  try unfold w32 at f3
  omega
def g_291_2_6 : vG := ([(10, [14, 4], [], 1), (42, [4, 5], [], 0), (91, [5], [], 20), (90, [4], [], 0)], (91, [14], [], 20))
theorem c_291_2_6 {q0 : Nat} : vOkm T0 (eP e_291 L_291 A_291 mu_291 (some q0)) 2 g_291_2_6 := vOk_inI fun ρ η f0 f1 f2 f3 => q_291_5 (q0 := q0) (n0 := ρ 4) (n1 := ρ 5) (n2 := ρ 14) (H0 := η 0) f3 f2 f1 f0
theorem kR_291_334 : vFreeR s_291.2.2.2.2 334 = true := by decide +kernel
theorem kR_291_342 : vFreeR s_291.2.2.2.2 342 = true := by decide +kernel
theorem q_291_6 {q0 : Nat} {n0 n1 n2 n3 n4 n5 n6 n7 n8 n9 n10 n11 n12 n13 n14 : Int} {H0 H1 H2 : gH} (f0 : n0 ≤ 20) (f1 : 0 ≤ n0) (f2 : n1 ≤ 19) (f3 : 0 ≤ n1) (f4 : n2 = 285) (f5 : n3 ≤ 19) (f6 : 0 ≤ n3) (f7 : n4 = 285) (f8 : (hLe T0 H0 H1 ∧ hFr s_291.2.2.2.2 H0 H1 ∧ hWt T0 H1) ∧ (Ab_291_2 n4 n3 n2 n1 n0 H0 H1 ∧ preb_291 n4 n3 H0) ∧ some q0 = some (mub_291_2 n4 n3 n2 n1 n0 H0 H1)) (f9 : n5 ≤ 20) (f10 : 0 ≤ n5) (f11 : n5 = hV H1 (n2).toNat 64) (f12 : n0 < n5) (f13 : n6 = 355) (f14 : n6 = hV H1 (n2).toNat 97) (f15 : n7 = 342) (f16 : n7 = hV H1 (n2).toNat 80) (f17 : n8 = 334) (f18 : n8 = hV H1 (n2).toNat 72) (f19 : n9 ≤ 2147483647) (f20 : 0 ≤ n9) (f21 : n9 = hV H1 (n8).toNat (n0).toNat) (f22 : n10 = 7) (f23 : n9 ≤ n10) (f24 : n11 = 334) (f25 : n11 = hV H1 (n2).toNat 72) (f26 : n12 ≤ 2147483647) (f27 : 0 ≤ n12) (f28 : n12 = hV H1 (n11).toNat (n0).toNat) (f29 : n13 ≤ 999) (f30 : 0 ≤ n13) (f31 : n13 = hV H1 (n7).toNat (n12).toNat) (f32 : hUpd H2 H1 n6 n0 n13) (f33 : n14 = w32 (n0 + 1)) : Ab_291_2 n4 n3 n2 n1 n14 H0 H2 ∧ ∀ q, some q0 = some q → mub_291_2 n4 n3 n2 n1 n14 H0 H2 < q := by
  have g4 := f8.2.1.1
  unfold Ab_291_2 at g4
  have g3 := f8.2.1.2
  unfold preb_291 at g3
  have g5 := Option.some.inj f8.2.2
  unfold mub_291_2 at g5
  unfold Ab_291_2
  unfold mub_291_2
  have e1 : n5 = hV H0 285 64 := (by rw [f4] at f11; exact f11 : n5 = hV H1 285 64).trans ((f8.1.2.1.1 285 64 kF_291_285_64))
  have e3 : n9 = hV H0 334 (n0).toNat := (by rw [f17] at f21; exact f21 : n9 = hV H1 334 (n0).toNat).trans ((congrFun (fRow f8.1.2.1 334 kR_291_334) _))
  have e4 : n12 = hV H0 334 (n0).toNat := (by rw [f24] at f28; exact f28 : n12 = hV H1 334 (n0).toNat).trans ((congrFun (fRow f8.1.2.1 334 kR_291_334) _))
  have e6 : n13 = hV H0 342 (n12).toNat := (by rw [f15] at f31; exact f31 : n13 = hV H1 342 (n12).toNat).trans ((congrFun (fRow f8.1.2.1 342 kR_291_342) _))
  have k0 := g4.1
  have y0 := g4.2
  have p0 := g3.1
  have p1 := g3.2
  clear g3
  clear g4
  clear f11 f14 f16 f18 f21 f25 f28 f31
  clear f8
  subst e1
  subst e3
  subst e4
  subst e6
  first
  | (have ix0 : n14 = n0 + 1 := Eq.trans f33 (w32_iv (Iad (Iat f1 f0) (IC 1)) (by decide)); subst ix0; clear f33)
  | (have ix0 : n14 = n0 + 1 := Eq.trans f33 (w32_id (by omega) (by omega)); subst ix0; clear f33)
  | (unfold w32 at f33; have ix0 : n14 = n0 + 1 := (by omega); subst ix0)
  | skip
  try unfold w32 at f33
  try subst k0
  refine ⟨?_, fun q hq => ?_⟩
  · refine ⟨?_, ?_⟩ <;> first | assumption | omega | trivial
  · have g6 := Option.some.inj hq
    subst g6
    omega
def g_291_2_7 : vG := ([(10, [14, 4], [], 1), (80, [6, 4, 13], [2, 1], 0), (22, [13, 7, 12], [1], 0), (90, [13], [], 0), (91, [13], [], 999), (22, [12, 11, 4], [1], 0), (90, [12], [], 0), (91, [12], [], 2147483647), (20, [11, 2], [1], 72), (0, [11], [], 334), (45, [9, 10], [], 0), (0, [10], [], 7), (22, [9, 8, 4], [1], 0), (90, [9], [], 0), (91, [9], [], 2147483647), (20, [8, 2], [1], 72), (0, [8], [], 334), (20, [7, 2], [1], 80), (0, [7], [], 342), (20, [6, 2], [1], 97), (0, [6], [], 355), (42, [4, 5], [], 0), (20, [5, 2], [1], 64), (90, [5], [], 0), (91, [5], [], 20), (5000, [0, 1, 2, 3, 4], [0, 1], 2), (0, [0], [], 285), (90, [1], [], 0), (91, [1], [], 19), (0, [2], [], 285), (90, [3], [], 0), (91, [3], [], 19), (90, [4], [], 0), (91, [4], [], 20)], (4000, [2, 3, 14], [2], 2))
theorem c_291_2_7 {q0 : Nat} : vOkm T0 (eP e_291 L_291 A_291 mu_291 (some q0)) 2 g_291_2_7 := vOk_inI fun ρ η f0 f1 f2 f3 f4 f5 f6 f7 f8 f9 f10 f11 f12 f13 f14 f15 f16 f17 f18 f19 f20 f21 f22 f23 f24 f25 f26 f27 f28 f29 f30 f31 f32 f33 => q_291_6 (q0 := q0) (n0 := ρ 4) (n1 := ρ 3) (n2 := ρ 2) (n3 := ρ 1) (n4 := ρ 0) (n5 := ρ 5) (n6 := ρ 6) (n7 := ρ 7) (n8 := ρ 8) (n9 := ρ 9) (n10 := ρ 10) (n11 := ρ 11) (n12 := ρ 12) (n13 := ρ 13) (n14 := ρ 14) (H0 := η 0) (H1 := η 1) (H2 := η 2) f33 f32 f31 f30 f29 f28 f27 f26 f25 f24 f23 f22 f21 f20 f19 f18 f17 f16 f15 f14 f13 f12 f11 f10 f9 f8 f7 f6 f5 f4 f3 f2 f1 f0
def g_291_2_8 : vG := ([(42, [4, 5], [], 0), (91, [5], [], 20), (90, [4], [], 0)], (70, [4], [], 20))
theorem c_291_2_8 {q0 : Nat} : vOkm T0 (eP e_291 L_291 A_291 mu_291 (some q0)) 2 g_291_2_8 := vOk_inI fun ρ η f0 f1 f2 => q_291_2 (q0 := q0) (n0 := ρ 4) (n1 := ρ 5) (H0 := η 0) f2 f1 f0
def g_291_2_9 : vG := ([(10, [13, 4], [], 1), (42, [4, 5], [], 0), (91, [5], [], 20), (90, [4], [], 0)], (90, [13], [], 0))
theorem c_291_2_9 {q0 : Nat} : vOkm T0 (eP e_291 L_291 A_291 mu_291 (some q0)) 2 g_291_2_9 := vOk_inI fun ρ η f0 f1 f2 f3 => q_291_4 (q0 := q0) (n0 := ρ 4) (n1 := ρ 5) (n2 := ρ 13) (H0 := η 0) f3 f2 f1 f0
def g_291_2_10 : vG := ([(10, [13, 4], [], 1), (42, [4, 5], [], 0), (91, [5], [], 20), (90, [4], [], 0)], (91, [13], [], 20))
theorem c_291_2_10 {q0 : Nat} : vOkm T0 (eP e_291 L_291 A_291 mu_291 (some q0)) 2 g_291_2_10 := vOk_inI fun ρ η f0 f1 f2 f3 => q_291_5 (q0 := q0) (n0 := ρ 4) (n1 := ρ 5) (n2 := ρ 13) (H0 := η 0) f3 f2 f1 f0
theorem q_291_7 {q0 : Nat} {n0 n1 n2 n3 n4 n5 n6 n7 n8 n9 n10 : Int} {H0 H1 H2 : gH} (f0 : n0 ≤ 20) (f1 : 0 ≤ n0) (f2 : n1 ≤ 19) (f3 : 0 ≤ n1) (f4 : n2 = 285) (f5 : n3 ≤ 19) (f6 : 0 ≤ n3) (f7 : n4 = 285) (f8 : (hLe T0 H0 H1 ∧ hFr s_291.2.2.2.2 H0 H1 ∧ hWt T0 H1) ∧ (Ab_291_2 n4 n3 n2 n1 n0 H0 H1 ∧ preb_291 n4 n3 H0) ∧ some q0 = some (mub_291_2 n4 n3 n2 n1 n0 H0 H1)) (f9 : n5 ≤ 20) (f10 : 0 ≤ n5) (f11 : n5 = hV H1 (n2).toNat 64) (f12 : n0 < n5) (f13 : n6 = 355) (f14 : n6 = hV H1 (n2).toNat 97) (f15 : n7 = 342) (f16 : n7 = hV H1 (n2).toNat 80) (f17 : n8 = 7) (f18 : n9 ≤ 999) (f19 : 0 ≤ n9) (f20 : n9 = hV H1 (n7).toNat (n8).toNat) (f21 : hUpd H2 H1 n6 n0 n9) (f22 : n10 = w32 (n0 + 1)) : Ab_291_2 n4 n3 n2 n1 n10 H0 H2 ∧ ∀ q, some q0 = some q → mub_291_2 n4 n3 n2 n1 n10 H0 H2 < q := by
  have g4 := f8.2.1.1
  unfold Ab_291_2 at g4
  have g3 := f8.2.1.2
  unfold preb_291 at g3
  have g5 := Option.some.inj f8.2.2
  unfold mub_291_2 at g5
  unfold Ab_291_2
  unfold mub_291_2
  have e1 : n5 = hV H0 285 64 := (by rw [f4] at f11; exact f11 : n5 = hV H1 285 64).trans ((f8.1.2.1.1 285 64 kF_291_285_64))
  have e3 : n9 = hV H0 342 (n8).toNat := (by rw [f15] at f20; exact f20 : n9 = hV H1 342 (n8).toNat).trans ((congrFun (fRow f8.1.2.1 342 kR_291_342) _))
  have k0 := g4.1
  have y0 := g4.2
  have p0 := g3.1
  have p1 := g3.2
  clear g3
  clear g4
  clear f11 f14 f16 f20
  clear f8
  subst e1
  first
  | (have ix0 : n10 = n0 + 1 := Eq.trans f22 (w32_iv (Iad (Iat f1 f0) (IC 1)) (by decide)); subst ix0; clear f22)
  | (have ix0 : n10 = n0 + 1 := Eq.trans f22 (w32_id (by omega) (by omega)); subst ix0; clear f22)
  | (unfold w32 at f22; have ix0 : n10 = n0 + 1 := (by omega); subst ix0)
  | skip
  try unfold w32 at f22
  try subst k0
  refine ⟨?_, fun q hq => ?_⟩
  · refine ⟨?_, ?_⟩ <;> first | assumption | omega | trivial
  · have g6 := Option.some.inj hq
    subst g6
    omega
def g_291_2_11 : vG := ([(10, [13, 4], [], 1), (80, [6, 4, 12], [2, 1], 0), (22, [12, 7, 11], [1], 0), (90, [12], [], 0), (91, [12], [], 999), (0, [11], [], 7), (20, [7, 2], [1], 80), (0, [7], [], 342), (20, [6, 2], [1], 97), (0, [6], [], 355), (42, [4, 5], [], 0), (20, [5, 2], [1], 64), (90, [5], [], 0), (91, [5], [], 20), (5000, [0, 1, 2, 3, 4], [0, 1], 2), (0, [0], [], 285), (90, [1], [], 0), (91, [1], [], 19), (0, [2], [], 285), (90, [3], [], 0), (91, [3], [], 19), (90, [4], [], 0), (91, [4], [], 20)], (4000, [2, 3, 13], [2], 2))
theorem c_291_2_11 {q0 : Nat} : vOkm T0 (eP e_291 L_291 A_291 mu_291 (some q0)) 2 g_291_2_11 := vOk_inI fun ρ η f0 f1 f2 f3 f4 f5 f6 f7 f8 f9 f10 f11 f12 f13 f14 f15 f16 f17 f18 f19 f20 f21 f22 => q_291_7 (q0 := q0) (n0 := ρ 4) (n1 := ρ 3) (n2 := ρ 2) (n3 := ρ 1) (n4 := ρ 0) (n5 := ρ 5) (n6 := ρ 6) (n7 := ρ 7) (n8 := ρ 11) (n9 := ρ 12) (n10 := ρ 13) (H0 := η 0) (H1 := η 1) (H2 := η 2) f22 f21 f20 f19 f18 f17 f16 f15 f14 f13 f12 f11 f10 f9 f8 f7 f6 f5 f4 f3 f2 f1 f0
def p_291_2 : List vG := [g_291_2_0,
  g_291_2_1,
  g_291_2_2,
  g_291_2_3,
  g_291_2_4,
  g_291_2_5,
  g_291_2_6,
  g_291_2_7,
  g_291_2_8,
  g_291_2_9,
  g_291_2_10,
  g_291_2_11]
theorem r_291_2 : vCovO true (eRc e_291 L_291 cs_291 2000 (2, [(0, (3, 12, 285, 0)), (1, (0, 0, 19, 0)), (2, (0, 0, 20, 0))])) p_291_2 = true := by decide +kernel
theorem q_291_8 {q0 : Nat} {n0 n1 : Int} {H0 : gH} (f0 : n0 = 20) (f1 : n1 < n0) : n1 ≤ 19 := by
  omega
def g_291_51_0 : vG := ([(42, [4, 5], [], 0), (0, [5], [], 20)], (91, [4], [], 19))
theorem c_291_51_0 {q0 : Nat} : vOkm T0 (eP e_291 L_291 A_291 mu_291 (some q0)) 2 g_291_51_0 := vOk_inI fun ρ η f0 f1 => q_291_8 (q0 := q0) (n0 := ρ 5) (n1 := ρ 4) (H0 := η 0) f1 f0
theorem q_291_9 {q0 : Nat} {n0 n1 n2 n3 n4 n5 n6 : Int} {H0 H1 : gH} (f0 : n0 ≤ 20) (f1 : 0 ≤ n0) (f2 : n1 ≤ 19) (f3 : 0 ≤ n1) (f4 : n2 = 285) (f5 : n3 ≤ 19) (f6 : 0 ≤ n3) (f7 : n4 = 285) (f8 : (hLe T0 H0 H1 ∧ hFr s_291.2.2.2.2 H0 H1 ∧ hWt T0 H1) ∧ (Ab_291_51 n4 n3 n2 n1 n0 H0 H1 ∧ preb_291 n4 n3 H0) ∧ some q0 = some (mub_291_51 n4 n3 n2 n1 n0 H0 H1)) (f9 : n5 = 20) (f10 : n0 < n5) (f11 : n6 = 0) : Ab_291_59 n4 n3 n2 n1 n0 n6 H0 H1 ∧ ∀ q, some q0 = some q → mub_291_59 n4 n3 n2 n1 n0 n6 H0 H1 < q := by
  have g4 := f8.2.1.1
  unfold Ab_291_51 at g4
  have g3 := f8.2.1.2
  unfold preb_291 at g3
  have g5 := Option.some.inj f8.2.2
  unfold mub_291_51 at g5
  unfold Ab_291_59
  unfold mub_291_59
  have k0 := g4.1
  have y0 := g4.2
  have p0 := g3.1
  have p1 := g3.2
  clear g3
  clear g4
  clear f8
  try subst k0
  refine ⟨?_, fun q hq => ?_⟩
  · refine ⟨?_, ?_⟩ <;> first | assumption | omega | trivial
  · have g6 := Option.some.inj hq
    subst g6
    omega
def g_291_51_1 : vG := ([(0, [6], [], 0), (42, [4, 5], [], 0), (0, [5], [], 20), (5000, [0, 1, 2, 3, 4], [0, 1], 51), (0, [0], [], 285), (90, [1], [], 0), (91, [1], [], 19), (0, [2], [], 285), (90, [3], [], 0), (91, [3], [], 19), (90, [4], [], 0), (91, [4], [], 20)], (4000, [2, 3, 4, 6], [1], 59))
theorem c_291_51_1 {q0 : Nat} : vOkm T0 (eP e_291 L_291 A_291 mu_291 (some q0)) 2 g_291_51_1 := vOk_inI fun ρ η f0 f1 f2 f3 f4 f5 f6 f7 f8 f9 f10 f11 => q_291_9 (q0 := q0) (n0 := ρ 4) (n1 := ρ 3) (n2 := ρ 2) (n3 := ρ 1) (n4 := ρ 0) (n5 := ρ 5) (n6 := ρ 6) (H0 := η 0) (H1 := η 1) f11 f10 f9 f8 f7 f6 f5 f4 f3 f2 f1 f0
def p_291_51 : List vG := [g_291_51_0,
  g_291_51_1]
theorem r_291_51 : vCovO true (eRc e_291 L_291 cs_291 2000 (51, [(0, (3, 12, 285, 0)), (1, (0, 0, 19, 0)), (2, (0, 0, 20, 0))])) p_291_51 = true := by decide +kernel
theorem q_291_10 {q0 : Nat} {n0 n1 : Int} {H0 : gH} (f0 : n0 ≤ 19) (f1 : 0 ≤ n0) (f2 : n1 = w32 (n0 + 1)) : 0 ≤ n1 := by
  first
  | (have ix0 : n1 = n0 + 1 := Eq.trans f2 (w32_iv (Iad (Iat f1 f0) (IC 1)) (by decide)); subst ix0; clear f2)
  | (have ix0 : n1 = n0 + 1 := Eq.trans f2 (w32_id (by omega) (by omega)); subst ix0; clear f2)
  | (unfold w32 at f2; have ix0 : n1 = n0 + 1 := (by omega); subst ix0)
  | skip
  try unfold w32 at f2
  omega
def g_291_59_0 : vG := ([(10, [7, 4], [], 1), (90, [4], [], 0), (91, [4], [], 19)], (90, [7], [], 0))
theorem c_291_59_0 {q0 : Nat} : vOkm T0 (eP e_291 L_291 A_291 mu_291 (some q0)) 2 g_291_59_0 := vOk_inI fun ρ η f0 f1 f2 => q_291_10 (q0 := q0) (n0 := ρ 4) (n1 := ρ 7) (H0 := η 0) f2 f1 f0
theorem q_291_11 {q0 : Nat} {n0 n1 : Int} {H0 : gH} (f0 : n0 ≤ 19) (f1 : 0 ≤ n0) (f2 : n1 = w32 (n0 + 1)) : n1 ≤ 20 := by
  first
  | (have ix0 : n1 = n0 + 1 := Eq.trans f2 (w32_iv (Iad (Iat f1 f0) (IC 1)) (by decide)); subst ix0; clear f2)
  | (have ix0 : n1 = n0 + 1 := Eq.trans f2 (w32_id (by omega) (by omega)); subst ix0; clear f2)
  | (unfold w32 at f2; have ix0 : n1 = n0 + 1 := (by omega); subst ix0)
  | skip
  try unfold w32 at f2
  omega
def g_291_59_1 : vG := ([(10, [7, 4], [], 1), (90, [4], [], 0), (91, [4], [], 19)], (91, [7], [], 20))
theorem c_291_59_1 {q0 : Nat} : vOkm T0 (eP e_291 L_291 A_291 mu_291 (some q0)) 2 g_291_59_1 := vOk_inI fun ρ η f0 f1 f2 => q_291_11 (q0 := q0) (n0 := ρ 4) (n1 := ρ 7) (H0 := η 0) f2 f1 f0
theorem q_291_12 {q0 : Nat} {n0 n1 n2 n3 n4 n5 n6 n7 : Int} {H0 H1 : gH} (f0 : n0 ≤ 20) (f1 : 0 ≤ n0) (f2 : n1 ≤ 19) (f3 : 0 ≤ n1) (f4 : n2 ≤ 19) (f5 : 0 ≤ n2) (f6 : n3 = 285) (f7 : n4 ≤ 19) (f8 : 0 ≤ n4) (f9 : n5 = 285) (f10 : (hLe T0 H0 H1 ∧ hFr s_291.2.2.2.2 H0 H1 ∧ hWt T0 H1) ∧ (Ab_291_59 n5 n4 n3 n2 n1 n0 H0 H1 ∧ preb_291 n5 n4 H0) ∧ some q0 = some (mub_291_59 n5 n4 n3 n2 n1 n0 H0 H1)) (f11 : n6 ≤ 20) (f12 : 0 ≤ n6) (f13 : n6 = hV H1 (n3).toNat 64) (f14 : n6 ≤ n0) (f15 : n7 = w32 (n1 + 1)) : Ab_291_51 n5 n4 n3 n2 n7 H0 H1 ∧ ∀ q, some q0 = some q → mub_291_51 n5 n4 n3 n2 n7 H0 H1 < q := by
  have g4 := f10.2.1.1
  unfold Ab_291_59 at g4
  have g3 := f10.2.1.2
  unfold preb_291 at g3
  have g5 := Option.some.inj f10.2.2
  unfold mub_291_59 at g5
  unfold Ab_291_51
  unfold mub_291_51
  have e1 : n6 = hV H0 285 64 := (by rw [f6] at f13; exact f13 : n6 = hV H1 285 64).trans ((f10.1.2.1.1 285 64 kF_291_285_64))
  have k0 := g4.1
  have y0 := g4.2
  have p0 := g3.1
  have p1 := g3.2
  clear g3
  clear g4
  clear f13
  clear f10
  subst e1
  try have sm := SOm p0 (s := (n0).toNat) (by omega) (by omega)
  first
  | (have ix0 : n7 = n1 + 1 := Eq.trans f15 (w32_iv (Iad (Iat f3 f2) (IC 1)) (by decide)); subst ix0; clear f15)
  | (have ix0 : n7 = n1 + 1 := Eq.trans f15 (w32_id (by omega) (by omega)); subst ix0; clear f15)
  | (unfold w32 at f15; have ix0 : n7 = n1 + 1 := (by omega); subst ix0)
  | skip
  try unfold w32 at f15
  try subst k0
  refine ⟨?_, fun q hq => ?_⟩
  · refine ⟨?_, ?_⟩ <;> first | assumption | omega | trivial
  · have g6 := Option.some.inj hq
    subst g6
    omega
def g_291_59_2 : vG := ([(10, [7, 4], [], 1), (43, [5, 6], [], 0), (20, [6, 2], [1], 64), (90, [6], [], 0), (91, [6], [], 20), (5000, [0, 1, 2, 3, 4, 5], [0, 1], 59), (0, [0], [], 285), (90, [1], [], 0), (91, [1], [], 19), (0, [2], [], 285), (90, [3], [], 0), (91, [3], [], 19), (90, [4], [], 0), (91, [4], [], 19), (90, [5], [], 0), (91, [5], [], 20)], (4000, [2, 3, 7], [1], 51))
theorem c_291_59_2 {q0 : Nat} : vOkm T0 (eP e_291 L_291 A_291 mu_291 (some q0)) 2 g_291_59_2 := vOk_inI fun ρ η f0 f1 f2 f3 f4 f5 f6 f7 f8 f9 f10 f11 f12 f13 f14 f15 => q_291_12 (q0 := q0) (n0 := ρ 5) (n1 := ρ 4) (n2 := ρ 3) (n3 := ρ 2) (n4 := ρ 1) (n5 := ρ 0) (n6 := ρ 6) (n7 := ρ 7) (H0 := η 0) (H1 := η 1) f15 f14 f13 f12 f11 f10 f9 f8 f7 f6 f5 f4 f3 f2 f1 f0
def g_291_59_3 : vG := ([(42, [5, 6], [], 0), (91, [6], [], 20), (90, [5], [], 0)], (70, [5], [], 20))
theorem c_291_59_3 {q0 : Nat} : vOkm T0 (eP e_291 L_291 A_291 mu_291 (some q0)) 2 g_291_59_3 := vOk_inI fun ρ η f0 f1 f2 => q_291_2 (q0 := q0) (n0 := ρ 5) (n1 := ρ 6) (H0 := η 0) f2 f1 f0
def g_291_59_4 : vG := ([(10, [10, 5], [], 1), (42, [5, 6], [], 0), (91, [6], [], 20), (90, [5], [], 0)], (90, [10], [], 0))
theorem c_291_59_4 {q0 : Nat} : vOkm T0 (eP e_291 L_291 A_291 mu_291 (some q0)) 2 g_291_59_4 := vOk_inI fun ρ η f0 f1 f2 f3 => q_291_4 (q0 := q0) (n0 := ρ 5) (n1 := ρ 6) (n2 := ρ 10) (H0 := η 0) f3 f2 f1 f0
def g_291_59_5 : vG := ([(10, [10, 5], [], 1), (42, [5, 6], [], 0), (91, [6], [], 20), (90, [5], [], 0)], (91, [10], [], 20))
theorem c_291_59_5 {q0 : Nat} : vOkm T0 (eP e_291 L_291 A_291 mu_291 (some q0)) 2 g_291_59_5 := vOk_inI fun ρ η f0 f1 f2 f3 => q_291_5 (q0 := q0) (n0 := ρ 5) (n1 := ρ 6) (n2 := ρ 10) (H0 := η 0) f3 f2 f1 f0
theorem kR_291_328 : vFreeR s_291.2.2.2.2 328 = true := by decide +kernel
theorem q_291_13 {q0 : Nat} {n0 n1 n2 n3 n4 n5 n6 n7 n8 n9 n10 : Int} {H0 H1 : gH} (f0 : n0 ≤ 20) (f1 : 0 ≤ n0) (f2 : n1 ≤ 19) (f3 : 0 ≤ n1) (f4 : n2 ≤ 19) (f5 : 0 ≤ n2) (f6 : n3 = 285) (f7 : n4 ≤ 19) (f8 : 0 ≤ n4) (f9 : n5 = 285) (f10 : (hLe T0 H0 H1 ∧ hFr s_291.2.2.2.2 H0 H1 ∧ hWt T0 H1) ∧ (Ab_291_59 n5 n4 n3 n2 n1 n0 H0 H1 ∧ preb_291 n5 n4 H0) ∧ some q0 = some (mub_291_59 n5 n4 n3 n2 n1 n0 H0 H1)) (f11 : n6 ≤ 20) (f12 : 0 ≤ n6) (f13 : n6 = hV H1 (n3).toNat 64) (f14 : n0 < n6) (f15 : n7 = 328) (f16 : n7 = hV H1 (n3).toNat 66) (f17 : n8 ≤ 6) (f18 : 0 ≤ n8) (f19 : n8 = hV H1 (n7).toNat (n0).toNat) (f20 : n9 = 6) (f21 : n8 ≠ n9) (f22 : n10 = w32 (n0 + 1)) : Ab_291_59 n5 n4 n3 n2 n1 n10 H0 H1 ∧ ∀ q, some q0 = some q → mub_291_59 n5 n4 n3 n2 n1 n10 H0 H1 < q := by
  have g4 := f10.2.1.1
  unfold Ab_291_59 at g4
  have g3 := f10.2.1.2
  unfold preb_291 at g3
  have g5 := Option.some.inj f10.2.2
  unfold mub_291_59 at g5
  unfold Ab_291_59
  unfold mub_291_59
  have e1 : n6 = hV H0 285 64 := (by rw [f6] at f13; exact f13 : n6 = hV H1 285 64).trans ((f10.1.2.1.1 285 64 kF_291_285_64))
  have e3 : n8 = hV H0 328 (n0).toNat := (by rw [f15] at f19; exact f19 : n8 = hV H1 328 (n0).toNat).trans ((congrFun (fRow f10.1.2.1 328 kR_291_328) _))
  have k0 := g4.1
  have y0 := g4.2
  have p0 := g3.1
  have p1 := g3.2
  clear g3
  clear g4
  clear f13 f16 f19
  clear f10
  subst e1
  subst e3
  try have sm := SOm p0 (s := (n0).toNat) (by omega) (by omega)
  first
  | (have ix0 : n10 = n0 + 1 := Eq.trans f22 (w32_iv (Iad (Iat f1 f0) (IC 1)) (by decide)); subst ix0; clear f22)
  | (have ix0 : n10 = n0 + 1 := Eq.trans f22 (w32_id (by omega) (by omega)); subst ix0; clear f22)
  | (unfold w32 at f22; have ix0 : n10 = n0 + 1 := (by omega); subst ix0)
  | skip
  try unfold w32 at f22
  try subst k0
  refine ⟨?_, fun q hq => ?_⟩
  · refine ⟨?_, ?_⟩ <;> first | assumption | omega | trivial
  · have g6 := Option.some.inj hq
    subst g6
    omega
def g_291_59_6 : vG := ([(10, [10, 5], [], 1), (41, [8, 9], [], 0), (0, [9], [], 6), (22, [8, 7, 5], [1], 0), (90, [8], [], 0), (91, [8], [], 6), (20, [7, 2], [1], 66), (0, [7], [], 328), (42, [5, 6], [], 0), (20, [6, 2], [1], 64), (90, [6], [], 0), (91, [6], [], 20), (5000, [0, 1, 2, 3, 4, 5], [0, 1], 59), (0, [0], [], 285), (90, [1], [], 0), (91, [1], [], 19), (0, [2], [], 285), (90, [3], [], 0), (91, [3], [], 19), (90, [4], [], 0), (91, [4], [], 19), (90, [5], [], 0), (91, [5], [], 20)], (4000, [2, 3, 4, 10], [1], 59))
theorem c_291_59_6 {q0 : Nat} : vOkm T0 (eP e_291 L_291 A_291 mu_291 (some q0)) 2 g_291_59_6 := vOk_inI fun ρ η f0 f1 f2 f3 f4 f5 f6 f7 f8 f9 f10 f11 f12 f13 f14 f15 f16 f17 f18 f19 f20 f21 f22 => q_291_13 (q0 := q0) (n0 := ρ 5) (n1 := ρ 4) (n2 := ρ 3) (n3 := ρ 2) (n4 := ρ 1) (n5 := ρ 0) (n6 := ρ 6) (n7 := ρ 7) (n8 := ρ 8) (n9 := ρ 9) (n10 := ρ 10) (H0 := η 0) (H1 := η 1) f22 f21 f20 f19 f18 f17 f16 f15 f14 f13 f12 f11 f10 f9 f8 f7 f6 f5 f4 f3 f2 f1 f0
def g_291_59_7 : vG := ([(42, [5, 6], [], 0), (91, [6], [], 20), (90, [5], [], 0)], (70, [5], [], 20))
theorem c_291_59_7 {q0 : Nat} : vOkm T0 (eP e_291 L_291 A_291 mu_291 (some q0)) 2 g_291_59_7 := vOk_inI fun ρ η f0 f1 f2 => q_291_2 (q0 := q0) (n0 := ρ 5) (n1 := ρ 6) (H0 := η 0) f2 f1 f0
def g_291_59_8 : vG := ([(42, [5, 6], [], 0), (91, [6], [], 20), (90, [5], [], 0)], (70, [5], [], 20))
theorem c_291_59_8 {q0 : Nat} : vOkm T0 (eP e_291 L_291 A_291 mu_291 (some q0)) 2 g_291_59_8 := vOk_inI fun ρ η f0 f1 f2 => q_291_2 (q0 := q0) (n0 := ρ 5) (n1 := ρ 6) (H0 := η 0) f2 f1 f0
theorem q_291_14 {q0 : Nat} {n0 n1 n2 n3 n4 n5 : Int} {H0 H1 : gH} (f0 : n0 = 335) (f1 : n1 = hV H1 (n0).toNat (n2).toNat) (f2 : n3 = (-1)) (f3 : n1 ≠ n3) (f4 : n4 = 335) (f5 : (-1) ≤ n5) (f6 : n5 = hV H1 (n4).toNat (n2).toNat) : 0 ≤ n5 := by
  have e0 : n1 = hV H1 335 (n2).toNat := (by rw [f0] at f1; exact f1 : n1 = hV H1 335 (n2).toNat)
  have e1 : n5 = hV H1 335 (n2).toNat := (by rw [f4] at f6; exact f6 : n5 = hV H1 335 (n2).toNat)
  clear f1 f6
  subst e0
  subst e1
  omega
def g_291_59_9 : vG := ([(22, [14, 13, 5], [1], 0), (90, [14], [], -1), (0, [13], [], 335), (41, [11, 12], [], 0), (0, [12], [], -1), (22, [11, 10, 5], [1], 0), (0, [10], [], 335)], (90, [14], [], 0))
theorem c_291_59_9 {q0 : Nat} : vOkm T0 (eP e_291 L_291 A_291 mu_291 (some q0)) 2 g_291_59_9 := vOk_inI fun ρ η f0 f1 f2 f3 f4 f5 f6 => q_291_14 (q0 := q0) (n0 := ρ 10) (n1 := ρ 11) (n2 := ρ 5) (n3 := ρ 12) (n4 := ρ 13) (n5 := ρ 14) (H0 := η 0) (H1 := η 1) f6 f5 f4 f3 f2 f1 f0
theorem kR_291_335 : vFreeR s_291.2.2.2.2 335 = true := by decide +kernel
theorem kF_291_285_18 : vFree s_291.2.2.2.2 285 18 = true := by decide +kernel
theorem q_291_15 {q0 : Nat} {n0 n1 n2 n3 n4 n5 n6 n7 n8 n9 n10 n11 n12 n13 n14 : Int} {H0 H1 : gH} (f0 : n0 ≤ 20) (f1 : 0 ≤ n0) (f2 : n1 ≤ 19) (f3 : 0 ≤ n1) (f4 : n2 ≤ 19) (f5 : 0 ≤ n2) (f6 : n3 = 285) (f7 : n4 ≤ 19) (f8 : 0 ≤ n4) (f9 : n5 = 285) (f10 : (hLe T0 H0 H1 ∧ hFr s_291.2.2.2.2 H0 H1 ∧ hWt T0 H1) ∧ (Ab_291_59 n5 n4 n3 n2 n1 n0 H0 H1 ∧ preb_291 n5 n4 H0) ∧ some q0 = some (mub_291_59 n5 n4 n3 n2 n1 n0 H0 H1)) (f11 : n6 ≤ 20) (f12 : 0 ≤ n6) (f13 : n6 = hV H1 (n3).toNat 64) (f14 : n0 < n6) (f15 : n7 = 328) (f16 : n7 = hV H1 (n3).toNat 66) (f17 : n8 ≤ 6) (f18 : 0 ≤ n8) (f19 : n8 = hV H1 (n7).toNat (n0).toNat) (f20 : n9 = 6) (f21 : n8 = n9) (f22 : n10 = 335) (f23 : n10 = hV H1 (n3).toNat 73) (f24 : n11 ≤ 7) (f25 : (-1) ≤ n11) (f26 : n11 = hV H1 (n10).toNat (n0).toNat) (f27 : n12 = (-1)) (f28 : n11 ≠ n12) (f29 : n13 = 335) (f30 : n13 = hV H1 (n3).toNat 73) (f31 : n14 ≤ 7) (f32 : (-1) ≤ n14) (f33 : n14 = hV H1 (n13).toNat (n0).toNat) : preb_278 n3 n14 H1 := by
  have g4 := f10.2.1.1
  unfold Ab_291_59 at g4
  have g3 := f10.2.1.2
  unfold preb_291 at g3
  unfold preb_278
  have e1 : n6 = hV H0 285 64 := (by rw [f6] at f13; exact f13 : n6 = hV H1 285 64).trans ((f10.1.2.1.1 285 64 kF_291_285_64))
  have e3 : n8 = hV H0 328 (n0).toNat := (by rw [f15] at f19; exact f19 : n8 = hV H1 328 (n0).toNat).trans ((congrFun (fRow f10.1.2.1 328 kR_291_328) _))
  have e5 : n11 = hV H0 335 (n0).toNat := (by rw [f22] at f26; exact f26 : n11 = hV H1 335 (n0).toNat).trans ((congrFun (fRow f10.1.2.1 335 kR_291_335) _))
  have e6 : n14 = hV H0 335 (n0).toNat := (by rw [f29] at f33; exact f33 : n14 = hV H1 335 (n0).toNat).trans ((congrFun (fRow f10.1.2.1 335 kR_291_335) _))
  have e8 : hV H1 285 18 = hV H0 285 18 := (f10.1.2.1.1 285 18 kF_291_285_18)
  have e9 : PG H1 = PG H0 := PG_fr f10.1.2.1 (by decide +kernel)
  have e10 : (0 : Int) ≤ hV H0 285 18 ∧ hV H0 285 18 ≤ 8 := bTo e8 (f10.1.2.2 285 18 _ _ kW_285_18)
  try simp only [e8, e9]
  have k0 := g4.1
  have y0 := g4.2
  have p0 := g3.1
  have p1 := g3.2
  clear g3
  clear g4
  clear f13 f16 f19 f23 f26 f30 f33 e8 e9
  clear f10
  subst e1
  subst e3
  subst e5
  subst e6
  try have sm := SOm p0 (s := (n0).toNat) (by omega) (by omega)
  try subst k0
  refine ⟨?_, ?_⟩ <;> first | assumption | omega | trivial
def g_291_59_10 : vG := ([(22, [14, 13, 5], [1], 0), (90, [14], [], -1), (91, [14], [], 7), (20, [13, 2], [1], 73), (0, [13], [], 335), (41, [11, 12], [], 0), (0, [12], [], -1), (22, [11, 10, 5], [1], 0), (90, [11], [], -1), (91, [11], [], 7), (20, [10, 2], [1], 73), (0, [10], [], 335), (40, [8, 9], [], 0), (0, [9], [], 6), (22, [8, 7, 5], [1], 0), (90, [8], [], 0), (91, [8], [], 6), (20, [7, 2], [1], 66), (0, [7], [], 328), (42, [5, 6], [], 0), (20, [6, 2], [1], 64), (90, [6], [], 0), (91, [6], [], 20), (5000, [0, 1, 2, 3, 4, 5], [0, 1], 59), (0, [0], [], 285), (90, [1], [], 0), (91, [1], [], 19), (0, [2], [], 285), (90, [3], [], 0), (91, [3], [], 19), (90, [4], [], 0), (91, [4], [], 19), (90, [5], [], 0), (91, [5], [], 20)], (2278, [2, 14], [1], 0))
theorem c_291_59_10 {q0 : Nat} : vOkm T0 (eP e_291 L_291 A_291 mu_291 (some q0)) 2 g_291_59_10 := vOk_inI fun ρ η f0 f1 f2 f3 f4 f5 f6 f7 f8 f9 f10 f11 f12 f13 f14 f15 f16 f17 f18 f19 f20 f21 f22 f23 f24 f25 f26 f27 f28 f29 f30 f31 f32 f33 => q_291_15 (q0 := q0) (n0 := ρ 5) (n1 := ρ 4) (n2 := ρ 3) (n3 := ρ 2) (n4 := ρ 1) (n5 := ρ 0) (n6 := ρ 6) (n7 := ρ 7) (n8 := ρ 8) (n9 := ρ 9) (n10 := ρ 10) (n11 := ρ 11) (n12 := ρ 12) (n13 := ρ 13) (n14 := ρ 14) (H0 := η 0) (H1 := η 1) f33 f32 f31 f30 f29 f28 f27 f26 f25 f24 f23 f22 f21 f20 f19 f18 f17 f16 f15 f14 f13 f12 f11 f10 f9 f8 f7 f6 f5 f4 f3 f2 f1 f0
theorem q_291_16 {q0 : Nat} {n0 n1 : Int} {H0 : gH} (f0 : n0 ≤ 20) (f1 : n1 < n0) : n1 ≤ 19 := by
  omega
def g_291_59_11 : vG := ([(42, [5, 6], [], 0), (91, [6], [], 20)], (91, [5], [], 19))
theorem c_291_59_11 {q0 : Nat} : vOkm T0 (eP e_291 L_291 A_291 mu_291 (some q0)) 2 g_291_59_11 := vOk_inI fun ρ η f0 f1 => q_291_16 (q0 := q0) (n0 := ρ 6) (n1 := ρ 5) (H0 := η 0) f1 f0
theorem kR_291_296 : vFreeR s_291.2.2.2.2 296 = true := by decide +kernel
theorem kR_291_298 : vFreeR s_291.2.2.2.2 298 = true := by decide +kernel
theorem kR_291_300 : vFreeR s_291.2.2.2.2 300 = true := by decide +kernel
theorem q_291_17 {q0 : Nat} {n0 n1 n2 n3 n4 n5 n6 n7 n8 n9 n10 n11 n12 n13 n14 n15 n16 n17 : Int} {H0 H1 H2 : gH} (f0 : n0 ≤ 20) (f1 : 0 ≤ n0) (f2 : n1 ≤ 19) (f3 : 0 ≤ n1) (f4 : n2 ≤ 19) (f5 : 0 ≤ n2) (f6 : n3 = 285) (f7 : n4 ≤ 19) (f8 : 0 ≤ n4) (f9 : n5 = 285) (f10 : (hLe T0 H0 H1 ∧ hFr s_291.2.2.2.2 H0 H1 ∧ hWt T0 H1) ∧ (Ab_291_59 n5 n4 n3 n2 n1 n0 H0 H1 ∧ preb_291 n5 n4 H0) ∧ some q0 = some (mub_291_59 n5 n4 n3 n2 n1 n0 H0 H1)) (f11 : n6 ≤ 20) (f12 : 0 ≤ n6) (f13 : n6 = hV H1 (n3).toNat 64) (f14 : n0 < n6) (f15 : n7 = 328) (f16 : n7 = hV H1 (n3).toNat 66) (f17 : n8 ≤ 6) (f18 : 0 ≤ n8) (f19 : n8 = hV H1 (n7).toNat (n0).toNat) (f20 : n9 = 6) (f21 : n8 = n9) (f22 : n10 = 335) (f23 : n10 = hV H1 (n3).toNat 73) (f24 : n11 ≤ 7) (f25 : (-1) ≤ n11) (f26 : n11 = hV H1 (n10).toNat (n0).toNat) (f27 : n12 = (-1)) (f28 : n11 ≠ n12) (f29 : n13 = 335) (f30 : n13 = hV H1 (n3).toNat 73) (f31 : n14 ≤ 7) (f32 : (-1) ≤ n14) (f33 : n14 = hV H1 (n13).toNat (n0).toNat) (f34 : n15 ≤ 2147483647) (f35 : (-2147483648) ≤ n15) (f36 : (hLe T0 H1 H2 ∧ hFr s_278.2.2.2.2 H1 H2 ∧ ((0 : Int) = 0 → H2.length = H1.length) ∧ hWt T0 H2) ∧ postb_278 n15 n3 n14 H1 H2) (f37 : n16 = 0) (f38 : n17 = 0) : Ab_291_109 n5 n4 n3 n2 n1 n0 n15 n16 n17 H0 H2 ∧ ∀ q, some q0 = some q → mub_291_109 n5 n4 n3 n2 n1 n0 n15 n16 n17 H0 H2 < q := by
  have g4 := f10.2.1.1
  unfold Ab_291_59 at g4
  have g3 := f10.2.1.2
  unfold preb_291 at g3
  have g5 := Option.some.inj f10.2.2
  unfold mub_291_59 at g5
  unfold postb_278 at f36
  unfold Ab_291_109
  unfold mub_291_109
  have e1 : n6 = hV H0 285 64 := (by rw [f6] at f13; exact f13 : n6 = hV H1 285 64).trans ((f10.1.2.1.1 285 64 kF_291_285_64))
  have e3 : n8 = hV H0 328 (n0).toNat := (by rw [f15] at f19; exact f19 : n8 = hV H1 328 (n0).toNat).trans ((congrFun (fRow f10.1.2.1 328 kR_291_328) _))
  have e5 : n11 = hV H0 335 (n0).toNat := (by rw [f22] at f26; exact f26 : n11 = hV H1 335 (n0).toNat).trans ((congrFun (fRow f10.1.2.1 335 kR_291_335) _))
  have e6 : n14 = hV H0 335 (n0).toNat := (by rw [f29] at f33; exact f33 : n14 = hV H1 335 (n0).toNat).trans ((congrFun (fRow f10.1.2.1 335 kR_291_335) _))
  have e9 : hV H2 285 64 = hV H0 285 64 := ((f36.1.2.1.1 285 64 kF_278_285_64)).trans (f10.1.2.1.1 285 64 kF_291_285_64)
  have e12 : hV H2 296 = hV H0 296 := (fRow f36.1.2.1 296 kR_278_296).trans (fRow f10.1.2.1 296 kR_291_296)
  have e15 : hV H2 298 = hV H0 298 := (fRow f36.1.2.1 298 kR_278_298).trans (fRow f10.1.2.1 298 kR_291_298)
  have e18 : hV H2 300 = hV H0 300 := (fRow f36.1.2.1 300 kR_278_300).trans (fRow f10.1.2.1 300 kR_291_300)
  have e19 : (0 : Int) ≤ hV H0 285 64 ∧ hV H0 285 64 ≤ 20 := bTo ((f10.1.2.1.1 285 64 kF_291_285_64)) (f10.1.2.2 285 64 _ _ kW_285_64)
  try simp only [e9]
  have k0 := g4.1
  have y0 := g4.2
  have p0 := g3.1
  have p1 := g3.2
  have r0_0 := f36.2
  try simp only [e12, e15, e18] at r0_0
  clear g3
  clear g4
  clear f13 f16 f19 f23 f26 f30 f33 e9 e12 e15 e18
  clear f10 f36
  subst e1
  subst e3
  subst e5
  subst e6
  try have sm := SOm p0 (s := (n0).toNat) (by omega) (by omega)
  try subst k0
  refine ⟨?_, fun q hq => ?_⟩
  · refine ⟨?_, ?_⟩ <;> first | assumption | omega | trivial
  · have g6 := Option.some.inj hq
    subst g6
    omega
def g_291_59_12 : vG := ([(0, [17], [], 0), (0, [16], [], 0), (1278, [15, 2, 14], [1, 2], 0), (90, [15], [], -2147483648), (91, [15], [], 2147483647), (22, [14, 13, 5], [1], 0), (90, [14], [], -1), (91, [14], [], 7), (20, [13, 2], [1], 73), (0, [13], [], 335), (41, [11, 12], [], 0), (0, [12], [], -1), (22, [11, 10, 5], [1], 0), (90, [11], [], -1), (91, [11], [], 7), (20, [10, 2], [1], 73), (0, [10], [], 335), (40, [8, 9], [], 0), (0, [9], [], 6), (22, [8, 7, 5], [1], 0), (90, [8], [], 0), (91, [8], [], 6), (20, [7, 2], [1], 66), (0, [7], [], 328), (42, [5, 6], [], 0), (20, [6, 2], [1], 64), (90, [6], [], 0), (91, [6], [], 20), (5000, [0, 1, 2, 3, 4, 5], [0, 1], 59), (0, [0], [], 285), (90, [1], [], 0), (91, [1], [], 19), (0, [2], [], 285), (90, [3], [], 0), (91, [3], [], 19), (90, [4], [], 0), (91, [4], [], 19), (90, [5], [], 0), (91, [5], [], 20)], (4000, [2, 3, 4, 5, 15, 16, 17], [2], 109))
theorem c_291_59_12 {q0 : Nat} : vOkm T0 (eP e_291 L_291 A_291 mu_291 (some q0)) 2 g_291_59_12 := vOk_inI fun ρ η f0 f1 f2 f3 f4 f5 f6 f7 f8 f9 f10 f11 f12 f13 f14 f15 f16 f17 f18 f19 f20 f21 f22 f23 f24 f25 f26 f27 f28 f29 f30 f31 f32 f33 f34 f35 f36 f37 f38 => q_291_17 (q0 := q0) (n0 := ρ 5) (n1 := ρ 4) (n2 := ρ 3) (n3 := ρ 2) (n4 := ρ 1) (n5 := ρ 0) (n6 := ρ 6) (n7 := ρ 7) (n8 := ρ 8) (n9 := ρ 9) (n10 := ρ 10) (n11 := ρ 11) (n12 := ρ 12) (n13 := ρ 13) (n14 := ρ 14) (n15 := ρ 15) (n16 := ρ 16) (n17 := ρ 17) (H0 := η 0) (H1 := η 1) (H2 := η 2) f38 f37 f36 f35 f34 f33 f32 f31 f30 f29 f28 f27 f26 f25 f24 f23 f22 f21 f20 f19 f18 f17 f16 f15 f14 f13 f12 f11 f10 f9 f8 f7 f6 f5 f4 f3 f2 f1 f0
def g_291_59_13 : vG := ([(10, [13, 5], [], 1), (42, [5, 6], [], 0), (91, [6], [], 20), (90, [5], [], 0)], (90, [13], [], 0))
theorem c_291_59_13 {q0 : Nat} : vOkm T0 (eP e_291 L_291 A_291 mu_291 (some q0)) 2 g_291_59_13 := vOk_inI fun ρ η f0 f1 f2 f3 => q_291_4 (q0 := q0) (n0 := ρ 5) (n1 := ρ 6) (n2 := ρ 13) (H0 := η 0) f3 f2 f1 f0
def g_291_59_14 : vG := ([(10, [13, 5], [], 1), (42, [5, 6], [], 0), (91, [6], [], 20), (90, [5], [], 0)], (91, [13], [], 20))
theorem c_291_59_14 {q0 : Nat} : vOkm T0 (eP e_291 L_291 A_291 mu_291 (some q0)) 2 g_291_59_14 := vOk_inI fun ρ η f0 f1 f2 f3 => q_291_5 (q0 := q0) (n0 := ρ 5) (n1 := ρ 6) (n2 := ρ 13) (H0 := η 0) f3 f2 f1 f0
theorem q_291_18 {q0 : Nat} {n0 n1 n2 n3 n4 n5 n6 n7 n8 n9 n10 n11 n12 n13 : Int} {H0 H1 : gH} (f0 : n0 ≤ 20) (f1 : 0 ≤ n0) (f2 : n1 ≤ 19) (f3 : 0 ≤ n1) (f4 : n2 ≤ 19) (f5 : 0 ≤ n2) (f6 : n3 = 285) (f7 : n4 ≤ 19) (f8 : 0 ≤ n4) (f9 : n5 = 285) (f10 : (hLe T0 H0 H1 ∧ hFr s_291.2.2.2.2 H0 H1 ∧ hWt T0 H1) ∧ (Ab_291_59 n5 n4 n3 n2 n1 n0 H0 H1 ∧ preb_291 n5 n4 H0) ∧ some q0 = some (mub_291_59 n5 n4 n3 n2 n1 n0 H0 H1)) (f11 : n6 ≤ 20) (f12 : 0 ≤ n6) (f13 : n6 = hV H1 (n3).toNat 64) (f14 : n0 < n6) (f15 : n7 = 328) (f16 : n7 = hV H1 (n3).toNat 66) (f17 : n8 ≤ 6) (f18 : 0 ≤ n8) (f19 : n8 = hV H1 (n7).toNat (n0).toNat) (f20 : n9 = 6) (f21 : n8 = n9) (f22 : n10 = 335) (f23 : n10 = hV H1 (n3).toNat 73) (f24 : n11 ≤ 7) (f25 : (-1) ≤ n11) (f26 : n11 = hV H1 (n10).toNat (n0).toNat) (f27 : n12 = (-1)) (f28 : n11 = n12) (f29 : n13 = w32 (n0 + 1)) : Ab_291_59 n5 n4 n3 n2 n1 n13 H0 H1 ∧ ∀ q, some q0 = some q → mub_291_59 n5 n4 n3 n2 n1 n13 H0 H1 < q := by
  have g4 := f10.2.1.1
  unfold Ab_291_59 at g4
  have g3 := f10.2.1.2
  unfold preb_291 at g3
  have g5 := Option.some.inj f10.2.2
  unfold mub_291_59 at g5
  unfold Ab_291_59
  unfold mub_291_59
  have e1 : n6 = hV H0 285 64 := (by rw [f6] at f13; exact f13 : n6 = hV H1 285 64).trans ((f10.1.2.1.1 285 64 kF_291_285_64))
  have e3 : n8 = hV H0 328 (n0).toNat := (by rw [f15] at f19; exact f19 : n8 = hV H1 328 (n0).toNat).trans ((congrFun (fRow f10.1.2.1 328 kR_291_328) _))
  have e5 : n11 = hV H0 335 (n0).toNat := (by rw [f22] at f26; exact f26 : n11 = hV H1 335 (n0).toNat).trans ((congrFun (fRow f10.1.2.1 335 kR_291_335) _))
  have k0 := g4.1
  have y0 := g4.2
  have p0 := g3.1
  have p1 := g3.2
  clear g3
  clear g4
  clear f13 f16 f19 f23 f26
  clear f10
  subst e1
  subst e3
  subst e5
  try have sm := SOm p0 (s := (n0).toNat) (by omega) (by omega)
  first
  | (have ix0 : n13 = n0 + 1 := Eq.trans f29 (w32_iv (Iad (Iat f1 f0) (IC 1)) (by decide)); subst ix0; clear f29)
  | (have ix0 : n13 = n0 + 1 := Eq.trans f29 (w32_id (by omega) (by omega)); subst ix0; clear f29)
  | (unfold w32 at f29; have ix0 : n13 = n0 + 1 := (by omega); subst ix0)
  | skip
  try unfold w32 at f29
  try subst k0
  refine ⟨?_, fun q hq => ?_⟩
  · refine ⟨?_, ?_⟩ <;> first | assumption | omega | trivial
  · have g6 := Option.some.inj hq
    subst g6
    omega
def g_291_59_15 : vG := ([(10, [13, 5], [], 1), (40, [11, 12], [], 0), (0, [12], [], -1), (22, [11, 10, 5], [1], 0), (90, [11], [], -1), (91, [11], [], 7), (20, [10, 2], [1], 73), (0, [10], [], 335), (40, [8, 9], [], 0), (0, [9], [], 6), (22, [8, 7, 5], [1], 0), (90, [8], [], 0), (91, [8], [], 6), (20, [7, 2], [1], 66), (0, [7], [], 328), (42, [5, 6], [], 0), (20, [6, 2], [1], 64), (90, [6], [], 0), (91, [6], [], 20), (5000, [0, 1, 2, 3, 4, 5], [0, 1], 59), (0, [0], [], 285), (90, [1], [], 0), (91, [1], [], 19), (0, [2], [], 285), (90, [3], [], 0), (91, [3], [], 19), (90, [4], [], 0), (91, [4], [], 19), (90, [5], [], 0), (91, [5], [], 20)], (4000, [2, 3, 4, 13], [1], 59))
theorem c_291_59_15 {q0 : Nat} : vOkm T0 (eP e_291 L_291 A_291 mu_291 (some q0)) 2 g_291_59_15 := vOk_inI fun ρ η f0 f1 f2 f3 f4 f5 f6 f7 f8 f9 f10 f11 f12 f13 f14 f15 f16 f17 f18 f19 f20 f21 f22 f23 f24 f25 f26 f27 f28 f29 => q_291_18 (q0 := q0) (n0 := ρ 5) (n1 := ρ 4) (n2 := ρ 3) (n3 := ρ 2) (n4 := ρ 1) (n5 := ρ 0) (n6 := ρ 6) (n7 := ρ 7) (n8 := ρ 8) (n9 := ρ 9) (n10 := ρ 10) (n11 := ρ 11) (n12 := ρ 12) (n13 := ρ 13) (H0 := η 0) (H1 := η 1) f29 f28 f27 f26 f25 f24 f23 f22 f21 f20 f19 f18 f17 f16 f15 f14 f13 f12 f11 f10 f9 f8 f7 f6 f5 f4 f3 f2 f1 f0
def p_291_59 : List vG := [g_291_59_0,
  g_291_59_1,
  g_291_59_2,
  g_291_59_3,
  g_291_59_4,
  g_291_59_5,
  g_291_59_6,
  g_291_59_7,
  g_291_59_8,
  g_291_59_9,
  g_291_59_10,
  g_291_59_11,
  g_291_59_12,
  g_291_59_13,
  g_291_59_14,
  g_291_59_15]
theorem r_291_59 : vCovO true (eRc e_291 L_291 cs_291 2000 (59, [(0, (3, 12, 285, 0)), (1, (0, 0, 19, 0)), (2, (0, 0, 19, 0)), (3, (0, 0, 20, 0))])) p_291_59 = true := by decide +kernel
def g_291_109_0 : vG := ([(22, [16, 15, 5], [1], 0), (90, [16], [], 0), (0, [15], [], 334), (45, [13, 14], [], 0), (0, [14], [], 7), (22, [13, 12, 5], [1], 0), (0, [12], [], 334)], (70, [16], [], 8))
theorem c_291_109_0 {q0 : Nat} : vOkm T0 (eP e_291 L_291 A_291 mu_291 (some q0)) 2 g_291_109_0 := vOk_inI fun ρ η f0 f1 f2 f3 f4 f5 f6 => q_291_3 (q0 := q0) (n0 := ρ 12) (n1 := ρ 13) (n2 := ρ 5) (n3 := ρ 14) (n4 := ρ 15) (n5 := ρ 16) (H0 := η 0) (H1 := η 1) f6 f5 f4 f3 f2 f1 f0
def g_291_109_1 : vG := ([(10, [19, 5], [], 1), (90, [5], [], 0), (91, [5], [], 19)], (90, [19], [], 0))
theorem c_291_109_1 {q0 : Nat} : vOkm T0 (eP e_291 L_291 A_291 mu_291 (some q0)) 2 g_291_109_1 := vOk_inI fun ρ η f0 f1 f2 => q_291_10 (q0 := q0) (n0 := ρ 5) (n1 := ρ 19) (H0 := η 0) f2 f1 f0
def g_291_109_2 : vG := ([(10, [19, 5], [], 1), (90, [5], [], 0), (91, [5], [], 19)], (91, [19], [], 20))
theorem c_291_109_2 {q0 : Nat} : vOkm T0 (eP e_291 L_291 A_291 mu_291 (some q0)) 2 g_291_109_2 := vOk_inI fun ρ η f0 f1 f2 => q_291_11 (q0 := q0) (n0 := ρ 5) (n1 := ρ 19) (H0 := η 0) f2 f1 f0
theorem q_291_19 {q0 : Nat} {n0 n1 n2 n3 n4 n5 n6 n7 n8 n9 n10 n11 n12 n13 n14 n15 n16 n17 n18 n19 : Int} {H0 H1 H2 : gH} (f0 : n0 ≤ 20) (f1 : 0 ≤ n0) (f2 : n1 ≤ 2147483647) (f3 : (-2147483648) ≤ n1) (f4 : n2 ≤ 2147483647) (f5 : (-2147483648) ≤ n2) (f6 : n3 ≤ 19) (f7 : 0 ≤ n3) (f8 : n4 ≤ 19) (f9 : 0 ≤ n4) (f10 : n5 ≤ 19) (f11 : 0 ≤ n5) (f12 : n6 = 285) (f13 : n7 ≤ 19) (f14 : 0 ≤ n7) (f15 : n8 = 285) (f16 : (hLe T0 H0 H1 ∧ hFr s_291.2.2.2.2 H0 H1 ∧ hWt T0 H1) ∧ (Ab_291_109 n8 n7 n6 n5 n4 n3 n2 n1 n0 H0 H1 ∧ preb_291 n8 n7 H0) ∧ some q0 = some (mub_291_109 n8 n7 n6 n5 n4 n3 n2 n1 n0 H0 H1)) (f17 : n9 ≤ 20) (f18 : 0 ≤ n9) (f19 : n9 = hV H1 (n6).toNat 64) (f20 : n9 ≤ n0) (f21 : n10 = 355) (f22 : n10 = hV H1 (n6).toNat 97) (f23 : n11 = 342) (f24 : n11 = hV H1 (n6).toNat 80) (f25 : n12 = 334) (f26 : n12 = hV H1 (n6).toNat 72) (f27 : n13 ≤ 2147483647) (f28 : 0 ≤ n13) (f29 : n13 = hV H1 (n12).toNat (n3).toNat) (f30 : n14 = 7) (f31 : n13 ≤ n14) (f32 : n15 = 334) (f33 : n15 = hV H1 (n6).toNat 72) (f34 : n16 ≤ 2147483647) (f35 : 0 ≤ n16) (f36 : n16 = hV H1 (n15).toNat (n3).toNat) (f37 : n17 ≤ 999) (f38 : 0 ≤ n17) (f39 : n17 = hV H1 (n11).toNat (n16).toNat) (f40 : n18 = w32 (n17 + n1)) (f41 : hUpd H2 H1 n10 n3 n18) (f42 : n19 = w32 (n3 + 1)) : Ab_291_59 n8 n7 n6 n5 n4 n19 H0 H2 ∧ ∀ q, some q0 = some q → mub_291_59 n8 n7 n6 n5 n4 n19 H0 H2 < q := by
  have g4 := f16.2.1.1
  unfold Ab_291_109 at g4
  have g3 := f16.2.1.2
  unfold preb_291 at g3
  have g5 := Option.some.inj f16.2.2
  unfold mub_291_109 at g5
  unfold Ab_291_59
  unfold mub_291_59
  have e1 : n9 = hV H0 285 64 := (by rw [f12] at f19; exact f19 : n9 = hV H1 285 64).trans ((f16.1.2.1.1 285 64 kF_291_285_64))
  have e3 : n13 = hV H0 334 (n3).toNat := (by rw [f25] at f29; exact f29 : n13 = hV H1 334 (n3).toNat).trans ((congrFun (fRow f16.1.2.1 334 kR_291_334) _))
  have e4 : n16 = hV H0 334 (n3).toNat := (by rw [f32] at f36; exact f36 : n16 = hV H1 334 (n3).toNat).trans ((congrFun (fRow f16.1.2.1 334 kR_291_334) _))
  have e6 : n17 = hV H0 342 (n16).toNat := (by rw [f23] at f39; exact f39 : n17 = hV H1 342 (n16).toNat).trans ((congrFun (fRow f16.1.2.1 342 kR_291_342) _))
  have e7 : hV H1 285 64 = hV H0 285 64 := (f16.1.2.1.1 285 64 kF_291_285_64)
  have e8 : (0 : Int) ≤ hV H0 285 64 ∧ hV H0 285 64 ≤ 20 := bTo e7 (f16.1.2.2 285 64 _ _ kW_285_64)
  try simp only [e7]
  have k0 := g4.1
  have y0 := g4.2
  have p0 := g3.1
  have p1 := g3.2
  try simp only [e7] at y0
  clear g3
  clear g4
  clear f19 f22 f24 f26 f29 f33 f36 f39 e7
  clear f16
  subst e1
  subst e3
  subst e4
  subst e6
  first
  | (have ix0 : n18 = hV H0 342 (hV H0 334 (n3).toNat).toNat + n1 := Eq.trans f40 (w32_id (by omega) (by omega)); subst ix0; clear f40)
  | (unfold w32 at f40; have ix0 : n18 = hV H0 342 (hV H0 334 (n3).toNat).toNat + n1 := (by omega); subst ix0)
  | skip
  first
  | (have ix1 : n19 = n3 + 1 := Eq.trans f42 (w32_iv (Iad (Iat f7 f6) (IC 1)) (by decide)); subst ix1; clear f42)
  | (have ix1 : n19 = n3 + 1 := Eq.trans f42 (w32_id (by omega) (by omega)); subst ix1; clear f42)
  | (unfold w32 at f42; have ix1 : n19 = n3 + 1 := (by omega); subst ix1)
  | skip
  try unfold w32 at f40
  try unfold w32 at f42
  try subst k0
  refine ⟨?_, fun q hq => ?_⟩
  · refine ⟨?_, ?_⟩ <;> first | assumption | omega | trivial
  · have g6 := Option.some.inj hq
    subst g6
    omega
def g_291_109_3 : vG := ([(10, [19, 5], [], 1), (80, [10, 5, 18], [2, 1], 0), (1, [18, 17, 7], [], 0), (22, [17, 11, 16], [1], 0), (90, [17], [], 0), (91, [17], [], 999), (22, [16, 15, 5], [1], 0), (90, [16], [], 0), (91, [16], [], 2147483647), (20, [15, 2], [1], 72), (0, [15], [], 334), (45, [13, 14], [], 0), (0, [14], [], 7), (22, [13, 12, 5], [1], 0), (90, [13], [], 0), (91, [13], [], 2147483647), (20, [12, 2], [1], 72), (0, [12], [], 334), (20, [11, 2], [1], 80), (0, [11], [], 342), (20, [10, 2], [1], 97), (0, [10], [], 355), (43, [8, 9], [], 0), (20, [9, 2], [1], 64), (90, [9], [], 0), (91, [9], [], 20), (5000, [0, 1, 2, 3, 4, 5, 6, 7, 8], [0, 1], 109), (0, [0], [], 285), (90, [1], [], 0), (91, [1], [], 19), (0, [2], [], 285), (90, [3], [], 0), (91, [3], [], 19), (90, [4], [], 0), (91, [4], [], 19), (90, [5], [], 0), (91, [5], [], 19), (90, [6], [], -2147483648), (91, [6], [], 2147483647), (90, [7], [], -2147483648), (91, [7], [], 2147483647), (90, [8], [], 0), (91, [8], [], 20)], (4000, [2, 3, 4, 19], [2], 59))
theorem c_291_109_3 {q0 : Nat} : vOkm T0 (eP e_291 L_291 A_291 mu_291 (some q0)) 2 g_291_109_3 := vOk_inI fun ρ η f0 f1 f2 f3 f4 f5 f6 f7 f8 f9 f10 f11 f12 f13 f14 f15 f16 f17 f18 f19 f20 f21 f22 f23 f24 f25 f26 f27 f28 f29 f30 f31 f32 f33 f34 f35 f36 f37 f38 f39 f40 f41 f42 => q_291_19 (q0 := q0) (n0 := ρ 8) (n1 := ρ 7) (n2 := ρ 6) (n3 := ρ 5) (n4 := ρ 4) (n5 := ρ 3) (n6 := ρ 2) (n7 := ρ 1) (n8 := ρ 0) (n9 := ρ 9) (n10 := ρ 10) (n11 := ρ 11) (n12 := ρ 12) (n13 := ρ 13) (n14 := ρ 14) (n15 := ρ 15) (n16 := ρ 16) (n17 := ρ 17) (n18 := ρ 18) (n19 := ρ 19) (H0 := η 0) (H1 := η 1) (H2 := η 2) f42 f41 f40 f39 f38 f37 f36 f35 f34 f33 f32 f31 f30 f29 f28 f27 f26 f25 f24 f23 f22 f21 f20 f19 f18 f17 f16 f15 f14 f13 f12 f11 f10 f9 f8 f7 f6 f5 f4 f3 f2 f1 f0
def g_291_109_4 : vG := ([(10, [18, 5], [], 1), (90, [5], [], 0), (91, [5], [], 19)], (90, [18], [], 0))
theorem c_291_109_4 {q0 : Nat} : vOkm T0 (eP e_291 L_291 A_291 mu_291 (some q0)) 2 g_291_109_4 := vOk_inI fun ρ η f0 f1 f2 => q_291_10 (q0 := q0) (n0 := ρ 5) (n1 := ρ 18) (H0 := η 0) f2 f1 f0
def g_291_109_5 : vG := ([(10, [18, 5], [], 1), (90, [5], [], 0), (91, [5], [], 19)], (91, [18], [], 20))
theorem c_291_109_5 {q0 : Nat} : vOkm T0 (eP e_291 L_291 A_291 mu_291 (some q0)) 2 g_291_109_5 := vOk_inI fun ρ η f0 f1 f2 => q_291_11 (q0 := q0) (n0 := ρ 5) (n1 := ρ 18) (H0 := η 0) f2 f1 f0
theorem q_291_20 {q0 : Nat} {n0 n1 n2 n3 n4 n5 n6 n7 n8 n9 n10 n11 n12 n13 n14 n15 : Int} {H0 H1 H2 : gH} (f0 : n0 ≤ 20) (f1 : 0 ≤ n0) (f2 : n1 ≤ 2147483647) (f3 : (-2147483648) ≤ n1) (f4 : n2 ≤ 2147483647) (f5 : (-2147483648) ≤ n2) (f6 : n3 ≤ 19) (f7 : 0 ≤ n3) (f8 : n4 ≤ 19) (f9 : 0 ≤ n4) (f10 : n5 ≤ 19) (f11 : 0 ≤ n5) (f12 : n6 = 285) (f13 : n7 ≤ 19) (f14 : 0 ≤ n7) (f15 : n8 = 285) (f16 : (hLe T0 H0 H1 ∧ hFr s_291.2.2.2.2 H0 H1 ∧ hWt T0 H1) ∧ (Ab_291_109 n8 n7 n6 n5 n4 n3 n2 n1 n0 H0 H1 ∧ preb_291 n8 n7 H0) ∧ some q0 = some (mub_291_109 n8 n7 n6 n5 n4 n3 n2 n1 n0 H0 H1)) (f17 : n9 ≤ 20) (f18 : 0 ≤ n9) (f19 : n9 = hV H1 (n6).toNat 64) (f20 : n9 ≤ n0) (f21 : n10 = 355) (f22 : n10 = hV H1 (n6).toNat 97) (f23 : n11 = 342) (f24 : n11 = hV H1 (n6).toNat 80) (f25 : n12 = 7) (f26 : n13 ≤ 999) (f27 : 0 ≤ n13) (f28 : n13 = hV H1 (n11).toNat (n12).toNat) (f29 : n14 = w32 (n13 + n1)) (f30 : hUpd H2 H1 n10 n3 n14) (f31 : n15 = w32 (n3 + 1)) : Ab_291_59 n8 n7 n6 n5 n4 n15 H0 H2 ∧ ∀ q, some q0 = some q → mub_291_59 n8 n7 n6 n5 n4 n15 H0 H2 < q := by
  have g4 := f16.2.1.1
  unfold Ab_291_109 at g4
  have g3 := f16.2.1.2
  unfold preb_291 at g3
  have g5 := Option.some.inj f16.2.2
  unfold mub_291_109 at g5
  unfold Ab_291_59
  unfold mub_291_59
  have e1 : n9 = hV H0 285 64 := (by rw [f12] at f19; exact f19 : n9 = hV H1 285 64).trans ((f16.1.2.1.1 285 64 kF_291_285_64))
  have e3 : n13 = hV H0 342 (n12).toNat := (by rw [f23] at f28; exact f28 : n13 = hV H1 342 (n12).toNat).trans ((congrFun (fRow f16.1.2.1 342 kR_291_342) _))
  have e4 : hV H1 285 64 = hV H0 285 64 := (f16.1.2.1.1 285 64 kF_291_285_64)
  have e5 : (0 : Int) ≤ hV H0 285 64 ∧ hV H0 285 64 ≤ 20 := bTo e4 (f16.1.2.2 285 64 _ _ kW_285_64)
  try simp only [e4]
  have k0 := g4.1
  have y0 := g4.2
  have p0 := g3.1
  have p1 := g3.2
  try simp only [e4] at y0
  clear g3
  clear g4
  clear f19 f22 f24 f28 e4
  clear f16
  subst e1
  first
  | (have ix0 : n14 = n13 + n1 := Eq.trans f29 (w32_id (by omega) (by omega)); subst ix0; clear f29)
  | (unfold w32 at f29; have ix0 : n14 = n13 + n1 := (by omega); subst ix0)
  | skip
  first
  | (have ix1 : n15 = n3 + 1 := Eq.trans f31 (w32_iv (Iad (Iat f7 f6) (IC 1)) (by decide)); subst ix1; clear f31)
  | (have ix1 : n15 = n3 + 1 := Eq.trans f31 (w32_id (by omega) (by omega)); subst ix1; clear f31)
  | (unfold w32 at f31; have ix1 : n15 = n3 + 1 := (by omega); subst ix1)
  | skip
  try unfold w32 at f29
  try unfold w32 at f31
  try subst k0
  refine ⟨?_, fun q hq => ?_⟩
  · refine ⟨?_, ?_⟩ <;> first | assumption | omega | trivial
  · have g6 := Option.some.inj hq
    subst g6
    omega
def g_291_109_6 : vG := ([(10, [18, 5], [], 1), (80, [10, 5, 17], [2, 1], 0), (1, [17, 16, 7], [], 0), (22, [16, 11, 15], [1], 0), (90, [16], [], 0), (91, [16], [], 999), (0, [15], [], 7), (20, [11, 2], [1], 80), (0, [11], [], 342), (20, [10, 2], [1], 97), (0, [10], [], 355), (43, [8, 9], [], 0), (20, [9, 2], [1], 64), (90, [9], [], 0), (91, [9], [], 20), (5000, [0, 1, 2, 3, 4, 5, 6, 7, 8], [0, 1], 109), (0, [0], [], 285), (90, [1], [], 0), (91, [1], [], 19), (0, [2], [], 285), (90, [3], [], 0), (91, [3], [], 19), (90, [4], [], 0), (91, [4], [], 19), (90, [5], [], 0), (91, [5], [], 19), (90, [6], [], -2147483648), (91, [6], [], 2147483647), (90, [7], [], -2147483648), (91, [7], [], 2147483647), (90, [8], [], 0), (91, [8], [], 20)], (4000, [2, 3, 4, 18], [2], 59))
theorem c_291_109_6 {q0 : Nat} : vOkm T0 (eP e_291 L_291 A_291 mu_291 (some q0)) 2 g_291_109_6 := vOk_inI fun ρ η f0 f1 f2 f3 f4 f5 f6 f7 f8 f9 f10 f11 f12 f13 f14 f15 f16 f17 f18 f19 f20 f21 f22 f23 f24 f25 f26 f27 f28 f29 f30 f31 => q_291_20 (q0 := q0) (n0 := ρ 8) (n1 := ρ 7) (n2 := ρ 6) (n3 := ρ 5) (n4 := ρ 4) (n5 := ρ 3) (n6 := ρ 2) (n7 := ρ 1) (n8 := ρ 0) (n9 := ρ 9) (n10 := ρ 10) (n11 := ρ 11) (n12 := ρ 15) (n13 := ρ 16) (n14 := ρ 17) (n15 := ρ 18) (H0 := η 0) (H1 := η 1) (H2 := η 2) f31 f30 f29 f28 f27 f26 f25 f24 f23 f22 f21 f20 f19 f18 f17 f16 f15 f14 f13 f12 f11 f10 f9 f8 f7 f6 f5 f4 f3 f2 f1 f0
def g_291_109_7 : vG := ([(10, [14, 8], [], 1), (42, [8, 9], [], 0), (91, [9], [], 20), (90, [8], [], 0)], (90, [14], [], 0))
theorem c_291_109_7 {q0 : Nat} : vOkm T0 (eP e_291 L_291 A_291 mu_291 (some q0)) 2 g_291_109_7 := vOk_inI fun ρ η f0 f1 f2 f3 => q_291_4 (q0 := q0) (n0 := ρ 8) (n1 := ρ 9) (n2 := ρ 14) (H0 := η 0) f3 f2 f1 f0
def g_291_109_8 : vG := ([(10, [14, 8], [], 1), (42, [8, 9], [], 0), (91, [9], [], 20), (90, [8], [], 0)], (91, [14], [], 20))
theorem c_291_109_8 {q0 : Nat} : vOkm T0 (eP e_291 L_291 A_291 mu_291 (some q0)) 2 g_291_109_8 := vOk_inI fun ρ η f0 f1 f2 f3 => q_291_5 (q0 := q0) (n0 := ρ 8) (n1 := ρ 9) (n2 := ρ 14) (H0 := η 0) f3 f2 f1 f0
theorem q_291_21 {q0 : Nat} {n0 n1 n2 n3 n4 n5 n6 n7 n8 n9 n10 n11 n12 n13 n14 : Int} {H0 H1 : gH} (f0 : n0 ≤ 20) (f1 : 0 ≤ n0) (f2 : n1 ≤ 2147483647) (f3 : (-2147483648) ≤ n1) (f4 : n2 ≤ 2147483647) (f5 : (-2147483648) ≤ n2) (f6 : n3 ≤ 19) (f7 : 0 ≤ n3) (f8 : n4 ≤ 19) (f9 : 0 ≤ n4) (f10 : n5 ≤ 19) (f11 : 0 ≤ n5) (f12 : n6 = 285) (f13 : n7 ≤ 19) (f14 : 0 ≤ n7) (f15 : n8 = 285) (f16 : (hLe T0 H0 H1 ∧ hFr s_291.2.2.2.2 H0 H1 ∧ hWt T0 H1) ∧ (Ab_291_109 n8 n7 n6 n5 n4 n3 n2 n1 n0 H0 H1 ∧ preb_291 n8 n7 H0) ∧ some q0 = some (mub_291_109 n8 n7 n6 n5 n4 n3 n2 n1 n0 H0 H1)) (f17 : n9 ≤ 20) (f18 : 0 ≤ n9) (f19 : n9 = hV H1 (n6).toNat 64) (f20 : n0 < n9) (f21 : n10 = o32 (fun x y => x >>> (y &&& 31)) n2 n0) (f22 : n11 = 1) (f23 : n12 = o32 (fun x y => x &&& y) n10 n11) (f24 : n13 = 1) (f25 : n12 ≠ n13) (f26 : n14 = w32 (n0 + 1)) : Ab_291_109 n8 n7 n6 n5 n4 n3 n2 n1 n14 H0 H1 ∧ ∀ q, some q0 = some q → mub_291_109 n8 n7 n6 n5 n4 n3 n2 n1 n14 H0 H1 < q := by
  have g4 := f16.2.1.1
  unfold Ab_291_109 at g4
  have g3 := f16.2.1.2
  unfold preb_291 at g3
  have g5 := Option.some.inj f16.2.2
  unfold mub_291_109 at g5
  unfold Ab_291_109
  unfold mub_291_109
  have e1 : n9 = hV H0 285 64 := (by rw [f12] at f19; exact f19 : n9 = hV H1 285 64).trans ((f16.1.2.1.1 285 64 kF_291_285_64))
  have e2 : hV H1 285 64 = hV H0 285 64 := (f16.1.2.1.1 285 64 kF_291_285_64)
  have e3 : (0 : Int) ≤ hV H0 285 64 ∧ hV H0 285 64 ≤ 20 := bTo e2 (f16.1.2.2 285 64 _ _ kW_285_64)
  try simp only [e2]
  have k0 := g4.1
  have y0 := g4.2
  have p0 := g3.1
  have p1 := g3.2
  try simp only [e2] at y0
  clear g3
  clear g4
  clear f19 e2
  clear f16
  subst e1
  have b23 := o32_and_r f23 (by omega) (by omega)
  first
  | (have ix0 : n14 = n0 + 1 := Eq.trans f26 (w32_iv (Iad (Iat f1 f0) (IC 1)) (by decide)); subst ix0; clear f26)
  | (have ix0 : n14 = n0 + 1 := Eq.trans f26 (w32_id (by omega) (by omega)); subst ix0; clear f26)
  | (unfold w32 at f26; have ix0 : n14 = n0 + 1 := (by omega); subst ix0)
  | skip
  try unfold w32 at f26
  try subst k0
  refine ⟨?_, fun q hq => ?_⟩
  · refine ⟨?_, ?_⟩ <;> first | assumption | omega | trivial
  · have g6 := Option.some.inj hq
    subst g6
    omega
def g_291_109_9 : vG := ([(10, [14, 8], [], 1), (41, [12, 13], [], 0), (0, [13], [], 1), (4, [12, 10, 11], [], 0), (0, [11], [], 1), (8, [10, 6, 8], [], 0), (42, [8, 9], [], 0), (20, [9, 2], [1], 64), (90, [9], [], 0), (91, [9], [], 20), (5000, [0, 1, 2, 3, 4, 5, 6, 7, 8], [0, 1], 109), (0, [0], [], 285), (90, [1], [], 0), (91, [1], [], 19), (0, [2], [], 285), (90, [3], [], 0), (91, [3], [], 19), (90, [4], [], 0), (91, [4], [], 19), (90, [5], [], 0), (91, [5], [], 19), (90, [6], [], -2147483648), (91, [6], [], 2147483647), (90, [7], [], -2147483648), (91, [7], [], 2147483647), (90, [8], [], 0), (91, [8], [], 20)], (4000, [2, 3, 4, 5, 6, 7, 14], [1], 109))
theorem c_291_109_9 {q0 : Nat} : vOkm T0 (eP e_291 L_291 A_291 mu_291 (some q0)) 2 g_291_109_9 := vOk_inI fun ρ η f0 f1 f2 f3 f4 f5 f6 f7 f8 f9 f10 f11 f12 f13 f14 f15 f16 f17 f18 f19 f20 f21 f22 f23 f24 f25 f26 => q_291_21 (q0 := q0) (n0 := ρ 8) (n1 := ρ 7) (n2 := ρ 6) (n3 := ρ 5) (n4 := ρ 4) (n5 := ρ 3) (n6 := ρ 2) (n7 := ρ 1) (n8 := ρ 0) (n9 := ρ 9) (n10 := ρ 10) (n11 := ρ 11) (n12 := ρ 12) (n13 := ρ 13) (n14 := ρ 14) (H0 := η 0) (H1 := η 1) f26 f25 f24 f23 f22 f21 f20 f19 f18 f17 f16 f15 f14 f13 f12 f11 f10 f9 f8 f7 f6 f5 f4 f3 f2 f1 f0
def g_291_109_10 : vG := ([(42, [8, 9], [], 0), (91, [9], [], 20), (90, [8], [], 0)], (70, [8], [], 20))
theorem c_291_109_10 {q0 : Nat} : vOkm T0 (eP e_291 L_291 A_291 mu_291 (some q0)) 2 g_291_109_10 := vOk_inI fun ρ η f0 f1 f2 => q_291_2 (q0 := q0) (n0 := ρ 8) (n1 := ρ 9) (H0 := η 0) f2 f1 f0
def g_291_109_11 : vG := ([(10, [16, 8], [], 1), (42, [8, 9], [], 0), (91, [9], [], 20), (90, [8], [], 0)], (90, [16], [], 0))
theorem c_291_109_11 {q0 : Nat} : vOkm T0 (eP e_291 L_291 A_291 mu_291 (some q0)) 2 g_291_109_11 := vOk_inI fun ρ η f0 f1 f2 f3 => q_291_4 (q0 := q0) (n0 := ρ 8) (n1 := ρ 9) (n2 := ρ 16) (H0 := η 0) f3 f2 f1 f0
def g_291_109_12 : vG := ([(10, [16, 8], [], 1), (42, [8, 9], [], 0), (91, [9], [], 20), (90, [8], [], 0)], (91, [16], [], 20))
theorem c_291_109_12 {q0 : Nat} : vOkm T0 (eP e_291 L_291 A_291 mu_291 (some q0)) 2 g_291_109_12 := vOk_inI fun ρ η f0 f1 f2 f3 => q_291_5 (q0 := q0) (n0 := ρ 8) (n1 := ρ 9) (n2 := ρ 16) (H0 := η 0) f3 f2 f1 f0
theorem q_291_22 {q0 : Nat} {n0 n1 n2 n3 n4 n5 n6 n7 n8 n9 n10 n11 n12 n13 n14 n15 n16 : Int} {H0 H1 : gH} (f0 : n0 ≤ 20) (f1 : 0 ≤ n0) (f2 : n1 ≤ 2147483647) (f3 : (-2147483648) ≤ n1) (f4 : n2 ≤ 2147483647) (f5 : (-2147483648) ≤ n2) (f6 : n3 ≤ 19) (f7 : 0 ≤ n3) (f8 : n4 ≤ 19) (f9 : 0 ≤ n4) (f10 : n5 ≤ 19) (f11 : 0 ≤ n5) (f12 : n6 = 285) (f13 : n7 ≤ 19) (f14 : 0 ≤ n7) (f15 : n8 = 285) (f16 : (hLe T0 H0 H1 ∧ hFr s_291.2.2.2.2 H0 H1 ∧ hWt T0 H1) ∧ (Ab_291_109 n8 n7 n6 n5 n4 n3 n2 n1 n0 H0 H1 ∧ preb_291 n8 n7 H0) ∧ some q0 = some (mub_291_109 n8 n7 n6 n5 n4 n3 n2 n1 n0 H0 H1)) (f17 : n9 ≤ 20) (f18 : 0 ≤ n9) (f19 : n9 = hV H1 (n6).toNat 64) (f20 : n0 < n9) (f21 : n10 = o32 (fun x y => x >>> (y &&& 31)) n2 n0) (f22 : n11 = 1) (f23 : n12 = o32 (fun x y => x &&& y) n10 n11) (f24 : n13 = 1) (f25 : n12 = n13) (f26 : n14 = 355) (f27 : n14 = hV H1 (n6).toNat 97) (f28 : n15 ≤ 2147483647) (f29 : (-2147483648) ≤ n15) (f30 : n15 = hV H1 (n14).toNat (n0).toNat) (f31 : n15 ≤ n1) (f32 : n16 = w32 (n0 + 1)) : Ab_291_109 n8 n7 n6 n5 n4 n3 n2 n1 n16 H0 H1 ∧ ∀ q, some q0 = some q → mub_291_109 n8 n7 n6 n5 n4 n3 n2 n1 n16 H0 H1 < q := by
  have g4 := f16.2.1.1
  unfold Ab_291_109 at g4
  have g3 := f16.2.1.2
  unfold preb_291 at g3
  have g5 := Option.some.inj f16.2.2
  unfold mub_291_109 at g5
  unfold Ab_291_109
  unfold mub_291_109
  have e1 : n9 = hV H0 285 64 := (by rw [f12] at f19; exact f19 : n9 = hV H1 285 64).trans ((f16.1.2.1.1 285 64 kF_291_285_64))
  have e2 : n15 = hV H1 355 (n0).toNat := (by rw [f26] at f30; exact f30 : n15 = hV H1 355 (n0).toNat)
  have e3 : hV H1 285 64 = hV H0 285 64 := (f16.1.2.1.1 285 64 kF_291_285_64)
  have e4 : (0 : Int) ≤ hV H0 285 64 ∧ hV H0 285 64 ≤ 20 := bTo e3 (f16.1.2.2 285 64 _ _ kW_285_64)
  try simp only [e3]
  have k0 := g4.1
  have y0 := g4.2
  have p0 := g3.1
  have p1 := g3.2
  try simp only [e3] at y0
  clear g3
  clear g4
  clear f19 f27 f30 e3
  clear f16
  subst e1
  subst e2
  have b23 := o32_and_r f23 (by omega) (by omega)
  first
  | (have ix0 : n16 = n0 + 1 := Eq.trans f32 (w32_iv (Iad (Iat f1 f0) (IC 1)) (by decide)); subst ix0; clear f32)
  | (have ix0 : n16 = n0 + 1 := Eq.trans f32 (w32_id (by omega) (by omega)); subst ix0; clear f32)
  | (unfold w32 at f32; have ix0 : n16 = n0 + 1 := (by omega); subst ix0)
  | skip
  try unfold w32 at f32
  try subst k0
  refine ⟨?_, fun q hq => ?_⟩
  · refine ⟨?_, ?_⟩ <;> first | assumption | omega | trivial
  · have g6 := Option.some.inj hq
    subst g6
    omega
def g_291_109_13 : vG := ([(10, [16, 8], [], 1), (45, [15, 7], [], 0), (22, [15, 14, 8], [1], 0), (90, [15], [], -2147483648), (91, [15], [], 2147483647), (20, [14, 2], [1], 97), (0, [14], [], 355), (40, [12, 13], [], 0), (0, [13], [], 1), (4, [12, 10, 11], [], 0), (0, [11], [], 1), (8, [10, 6, 8], [], 0), (42, [8, 9], [], 0), (20, [9, 2], [1], 64), (90, [9], [], 0), (91, [9], [], 20), (5000, [0, 1, 2, 3, 4, 5, 6, 7, 8], [0, 1], 109), (0, [0], [], 285), (90, [1], [], 0), (91, [1], [], 19), (0, [2], [], 285), (90, [3], [], 0), (91, [3], [], 19), (90, [4], [], 0), (91, [4], [], 19), (90, [5], [], 0), (91, [5], [], 19), (90, [6], [], -2147483648), (91, [6], [], 2147483647), (90, [7], [], -2147483648), (91, [7], [], 2147483647), (90, [8], [], 0), (91, [8], [], 20)], (4000, [2, 3, 4, 5, 6, 7, 16], [1], 109))
theorem c_291_109_13 {q0 : Nat} : vOkm T0 (eP e_291 L_291 A_291 mu_291 (some q0)) 2 g_291_109_13 := vOk_inI fun ρ η f0 f1 f2 f3 f4 f5 f6 f7 f8 f9 f10 f11 f12 f13 f14 f15 f16 f17 f18 f19 f20 f21 f22 f23 f24 f25 f26 f27 f28 f29 f30 f31 f32 => q_291_22 (q0 := q0) (n0 := ρ 8) (n1 := ρ 7) (n2 := ρ 6) (n3 := ρ 5) (n4 := ρ 4) (n5 := ρ 3) (n6 := ρ 2) (n7 := ρ 1) (n8 := ρ 0) (n9 := ρ 9) (n10 := ρ 10) (n11 := ρ 11) (n12 := ρ 12) (n13 := ρ 13) (n14 := ρ 14) (n15 := ρ 15) (n16 := ρ 16) (H0 := η 0) (H1 := η 1) f32 f31 f30 f29 f28 f27 f26 f25 f24 f23 f22 f21 f20 f19 f18 f17 f16 f15 f14 f13 f12 f11 f10 f9 f8 f7 f6 f5 f4 f3 f2 f1 f0
def g_291_109_14 : vG := ([(42, [8, 9], [], 0), (91, [9], [], 20), (90, [8], [], 0)], (70, [8], [], 20))
theorem c_291_109_14 {q0 : Nat} : vOkm T0 (eP e_291 L_291 A_291 mu_291 (some q0)) 2 g_291_109_14 := vOk_inI fun ρ η f0 f1 f2 => q_291_2 (q0 := q0) (n0 := ρ 8) (n1 := ρ 9) (H0 := η 0) f2 f1 f0
def g_291_109_15 : vG := ([(10, [18, 8], [], 1), (42, [8, 9], [], 0), (91, [9], [], 20), (90, [8], [], 0)], (90, [18], [], 0))
theorem c_291_109_15 {q0 : Nat} : vOkm T0 (eP e_291 L_291 A_291 mu_291 (some q0)) 2 g_291_109_15 := vOk_inI fun ρ η f0 f1 f2 f3 => q_291_4 (q0 := q0) (n0 := ρ 8) (n1 := ρ 9) (n2 := ρ 18) (H0 := η 0) f3 f2 f1 f0
def g_291_109_16 : vG := ([(10, [18, 8], [], 1), (42, [8, 9], [], 0), (91, [9], [], 20), (90, [8], [], 0)], (91, [18], [], 20))
theorem c_291_109_16 {q0 : Nat} : vOkm T0 (eP e_291 L_291 A_291 mu_291 (some q0)) 2 g_291_109_16 := vOk_inI fun ρ η f0 f1 f2 f3 => q_291_5 (q0 := q0) (n0 := ρ 8) (n1 := ρ 9) (n2 := ρ 18) (H0 := η 0) f3 f2 f1 f0
theorem q_291_23 {q0 : Nat} {n0 n1 n2 n3 n4 n5 n6 n7 n8 n9 n10 n11 n12 n13 n14 n15 n16 n17 n18 : Int} {H0 H1 : gH} (f0 : n0 ≤ 20) (f1 : 0 ≤ n0) (f2 : n1 ≤ 2147483647) (f3 : (-2147483648) ≤ n1) (f4 : n2 ≤ 2147483647) (f5 : (-2147483648) ≤ n2) (f6 : n3 ≤ 19) (f7 : 0 ≤ n3) (f8 : n4 ≤ 19) (f9 : 0 ≤ n4) (f10 : n5 ≤ 19) (f11 : 0 ≤ n5) (f12 : n6 = 285) (f13 : n7 ≤ 19) (f14 : 0 ≤ n7) (f15 : n8 = 285) (f16 : (hLe T0 H0 H1 ∧ hFr s_291.2.2.2.2 H0 H1 ∧ hWt T0 H1) ∧ (Ab_291_109 n8 n7 n6 n5 n4 n3 n2 n1 n0 H0 H1 ∧ preb_291 n8 n7 H0) ∧ some q0 = some (mub_291_109 n8 n7 n6 n5 n4 n3 n2 n1 n0 H0 H1)) (f17 : n9 ≤ 20) (f18 : 0 ≤ n9) (f19 : n9 = hV H1 (n6).toNat 64) (f20 : n0 < n9) (f21 : n10 = o32 (fun x y => x >>> (y &&& 31)) n2 n0) (f22 : n11 = 1) (f23 : n12 = o32 (fun x y => x &&& y) n10 n11) (f24 : n13 = 1) (f25 : n12 = n13) (f26 : n14 = 355) (f27 : n14 = hV H1 (n6).toNat 97) (f28 : n15 ≤ 2147483647) (f29 : (-2147483648) ≤ n15) (f30 : n15 = hV H1 (n14).toNat (n0).toNat) (f31 : n1 < n15) (f32 : n16 = 355) (f33 : n16 = hV H1 (n6).toNat 97) (f34 : n17 ≤ 2147483647) (f35 : (-2147483648) ≤ n17) (f36 : n17 = hV H1 (n16).toNat (n0).toNat) (f37 : n18 = w32 (n0 + 1)) : Ab_291_109 n8 n7 n6 n5 n4 n3 n2 n17 n18 H0 H1 ∧ ∀ q, some q0 = some q → mub_291_109 n8 n7 n6 n5 n4 n3 n2 n17 n18 H0 H1 < q := by
  have g4 := f16.2.1.1
  unfold Ab_291_109 at g4
  have g3 := f16.2.1.2
  unfold preb_291 at g3
  have g5 := Option.some.inj f16.2.2
  unfold mub_291_109 at g5
  unfold Ab_291_109
  unfold mub_291_109
  have e1 : n9 = hV H0 285 64 := (by rw [f12] at f19; exact f19 : n9 = hV H1 285 64).trans ((f16.1.2.1.1 285 64 kF_291_285_64))
  have e2 : n15 = hV H1 355 (n0).toNat := (by rw [f26] at f30; exact f30 : n15 = hV H1 355 (n0).toNat)
  have e3 : n17 = hV H1 355 (n0).toNat := (by rw [f32] at f36; exact f36 : n17 = hV H1 355 (n0).toNat)
  have e4 : hV H1 285 64 = hV H0 285 64 := (f16.1.2.1.1 285 64 kF_291_285_64)
  have e5 : (0 : Int) ≤ hV H0 285 64 ∧ hV H0 285 64 ≤ 20 := bTo e4 (f16.1.2.2 285 64 _ _ kW_285_64)
  try simp only [e4]
  have k0 := g4.1
  have y0 := g4.2
  have p0 := g3.1
  have p1 := g3.2
  try simp only [e4] at y0
  clear g3
  clear g4
  clear f19 f27 f30 f33 f36 e4
  clear f16
  subst e1
  subst e2
  subst e3
  have b23 := o32_and_r f23 (by omega) (by omega)
  first
  | (have ix0 : n18 = n0 + 1 := Eq.trans f37 (w32_iv (Iad (Iat f1 f0) (IC 1)) (by decide)); subst ix0; clear f37)
  | (have ix0 : n18 = n0 + 1 := Eq.trans f37 (w32_id (by omega) (by omega)); subst ix0; clear f37)
  | (unfold w32 at f37; have ix0 : n18 = n0 + 1 := (by omega); subst ix0)
  | skip
  try unfold w32 at f37
  try subst k0
  refine ⟨?_, fun q hq => ?_⟩
  · refine ⟨?_, ?_⟩ <;> first | assumption | omega | trivial
  · have g6 := Option.some.inj hq
    subst g6
    omega
def g_291_109_17 : vG := ([(10, [18, 8], [], 1), (22, [17, 16, 8], [1], 0), (90, [17], [], -2147483648), (91, [17], [], 2147483647), (20, [16, 2], [1], 97), (0, [16], [], 355), (44, [15, 7], [], 0), (22, [15, 14, 8], [1], 0), (90, [15], [], -2147483648), (91, [15], [], 2147483647), (20, [14, 2], [1], 97), (0, [14], [], 355), (40, [12, 13], [], 0), (0, [13], [], 1), (4, [12, 10, 11], [], 0), (0, [11], [], 1), (8, [10, 6, 8], [], 0), (42, [8, 9], [], 0), (20, [9, 2], [1], 64), (90, [9], [], 0), (91, [9], [], 20), (5000, [0, 1, 2, 3, 4, 5, 6, 7, 8], [0, 1], 109), (0, [0], [], 285), (90, [1], [], 0), (91, [1], [], 19), (0, [2], [], 285), (90, [3], [], 0), (91, [3], [], 19), (90, [4], [], 0), (91, [4], [], 19), (90, [5], [], 0), (91, [5], [], 19), (90, [6], [], -2147483648), (91, [6], [], 2147483647), (90, [7], [], -2147483648), (91, [7], [], 2147483647), (90, [8], [], 0), (91, [8], [], 20)], (4000, [2, 3, 4, 5, 6, 17, 18], [1], 109))
theorem c_291_109_17 {q0 : Nat} : vOkm T0 (eP e_291 L_291 A_291 mu_291 (some q0)) 2 g_291_109_17 := vOk_inI fun ρ η f0 f1 f2 f3 f4 f5 f6 f7 f8 f9 f10 f11 f12 f13 f14 f15 f16 f17 f18 f19 f20 f21 f22 f23 f24 f25 f26 f27 f28 f29 f30 f31 f32 f33 f34 f35 f36 f37 => q_291_23 (q0 := q0) (n0 := ρ 8) (n1 := ρ 7) (n2 := ρ 6) (n3 := ρ 5) (n4 := ρ 4) (n5 := ρ 3) (n6 := ρ 2) (n7 := ρ 1) (n8 := ρ 0) (n9 := ρ 9) (n10 := ρ 10) (n11 := ρ 11) (n12 := ρ 12) (n13 := ρ 13) (n14 := ρ 14) (n15 := ρ 15) (n16 := ρ 16) (n17 := ρ 17) (n18 := ρ 18) (H0 := η 0) (H1 := η 1) f37 f36 f35 f34 f33 f32 f31 f30 f29 f28 f27 f26 f25 f24 f23 f22 f21 f20 f19 f18 f17 f16 f15 f14 f13 f12 f11 f10 f9 f8 f7 f6 f5 f4 f3 f2 f1 f0
def p_291_109 : List vG := [g_291_109_0,
  g_291_109_1,
  g_291_109_2,
  g_291_109_3,
  g_291_109_4,
  g_291_109_5,
  g_291_109_6,
  g_291_109_7,
  g_291_109_8,
  g_291_109_9,
  g_291_109_10,
  g_291_109_11,
  g_291_109_12,
  g_291_109_13,
  g_291_109_14,
  g_291_109_15,
  g_291_109_16,
  g_291_109_17]
theorem r_291_109 : vCovO true (eRc e_291 L_291 cs_291 2000 (109, [(0, (3, 12, 285, 0)), (1, (0, 0, 19, 0)), (2, (0, 0, 19, 0)), (3, (0, 0, 19, 0)), (4, (0, -2147483648, 2147483647, 0)), (5, (0, -2147483648, 2147483647, 0)), (6, (0, 0, 20, 0))])) p_291_109 = true := by decide +kernel
theorem m_291 (d : Nat) : eC e_291 (d + 4) := eC_ok (e := e_291) (L := L_291) (cs := cs_291) (n := 2000) (d := d + 3) (A := A_291) (μ := mu_291) (tp := true) (p0 := p_291_s) rfl ⟨m_278 d, trivial⟩ rfl (.inl rfl) (by decide +kernel) (fun _ => post0_ok) r_291_s (allC c_291_s_0 allN) (allC (.inl ⟨p_291_2, r_291_2, fun q0 => (allC c_291_2_0 (allC c_291_2_1 (allC c_291_2_2 (allC c_291_2_3 (allC c_291_2_4 (allC c_291_2_5 (allC c_291_2_6 (allC c_291_2_7 (allC c_291_2_8 (allC c_291_2_9 (allC c_291_2_10 (allC c_291_2_11 allN))))))))))))⟩) (allC (.inl ⟨p_291_51, r_291_51, fun q0 => (allC c_291_51_0 (allC c_291_51_1 allN))⟩) (allC (.inl ⟨p_291_59, r_291_59, fun q0 => (allC c_291_59_0 (allC c_291_59_1 (allC c_291_59_2 (allC c_291_59_3 (allC c_291_59_4 (allC c_291_59_5 (allC c_291_59_6 (allC c_291_59_7 (allC c_291_59_8 (allC c_291_59_9 (allC c_291_59_10 (allC c_291_59_11 (allC c_291_59_12 (allC c_291_59_13 (allC c_291_59_14 (allC c_291_59_15 allN))))))))))))))))⟩) (allC (.inl ⟨p_291_109, r_291_109, fun q0 => (allC c_291_109_0 (allC c_291_109_1 (allC c_291_109_2 (allC c_291_109_3 (allC c_291_109_4 (allC c_291_109_5 (allC c_291_109_6 (allC c_291_109_7 (allC c_291_109_8 (allC c_291_109_9 (allC c_291_109_10 (allC c_291_109_11 (allC c_291_109_12 (allC c_291_109_13 (allC c_291_109_14 (allC c_291_109_15 (allC c_291_109_16 (allC c_291_109_17 allN))))))))))))))))))⟩) allN))))
/- MixStageModel.about (II)I -/
noncomputable def s_292 : vM := ([(3, 12, 285, 0), (0, -2147483648, 2147483647, 0), (0, -2147483648, 2147483647, 0)], (0, -2147483648, 2147483647, 0), 1, 0, [(12, 82), (580, 0), (588, 0), (596, 0), (604, 0), (612, 0), (652, 0), (663, 0), (668, 0)])
def preb_292 (a0 a1 a2 : Int) (h : gH) : Prop := SO h ∧ PG h ∧ SS h ∧ AC h
def pre_292 : List Int → gH → Prop := fun xs h => match xs with
  | [a0, a1, a2] => preb_292 a0 a1 a2 h
  | _ => False
noncomputable def e_292 : vE := (292, s_292, pre_292, post0)
noncomputable def L_292 : List vE := [e_250, e_288, e_291]
def cs_292 : List vC := []
def A_292 : Int → List Int → gH → gH → Prop := fun c xs h0 h => True
def mu_292 : Int → List Int → gH → gH → Nat := fun c xs h0 h => 0
theorem q_292_0 {n0 n1 n2 n3 : Int} {H0 H1 : gH} (f0 : n0 = 285) (f1 : hWt T0 H0 ∧ preb_292 n0 n1 n2 H0) (f2 : 0 ≤ n3) (f3 : (hLe T0 H0 H1 ∧ hFr s_250.2.2.2.2 H0 H1 ∧ ((0 : Int) = 0 → H1.length = H0.length) ∧ hWt T0 H1) ∧ postb_250 n3 n0 n1 H0 H1) (f4 : n3 ≠ 0) (f5 : n2 = 0) : 0 ≤ n1 ∧ n1 < 20 := by
  unfold preb_292 at f1
  unfold postb_250 at f3
  have e1 : hV H1 285 64 = hV H0 285 64 := (f3.1.2.1.1 285 64 kF_250_285_64)
  have e2 : (0 : Int) ≤ hV H0 285 64 ∧ hV H0 285 64 ≤ 20 := bTo e1 (f3.1.2.2.2 285 64 _ _ kW_285_64)
  have p0 := f1.2.1
  have p1 := f1.2.2.1
  have p2 := f1.2.2.2.1
  have p3 := f1.2.2.2.2
  have r0_0 := f3.2
  try simp only [e1] at r0_0
  clear e1
  clear f1 f3
  omega
def g_292_s_0 : vG := ([(0, [2], [], 0), (31, [3], [], 0), (1250, [3, 0, 1], [0, 1], 0), (90, [3], [], 0), (6000, [0, 1, 2], [0], 0), (0, [0], [], 285)], (70, [1], [], 20))
theorem c_292_s_0 : vOkm T0 (eP e_292 L_292 A_292 mu_292 none) 3 g_292_s_0 := vOk_inI fun ρ η f0 f1 f2 f3 f4 f5 => q_292_0 (n0 := ρ 0) (n1 := ρ 1) (n2 := ρ 2) (n3 := ρ 3) (H0 := η 0) (H1 := η 1) f5 f4 f3 f2 f1 f0
theorem q_292_1 {n0 n1 n2 n3 : Int} {H0 H1 : gH} (f0 : n0 = 285) (f1 : hWt T0 H0 ∧ preb_292 n0 n1 n2 H0) (f2 : 0 ≤ n3) (f3 : (hLe T0 H0 H1 ∧ hFr s_250.2.2.2.2 H0 H1 ∧ ((0 : Int) = 0 → H1.length = H0.length) ∧ hWt T0 H1) ∧ postb_250 n3 n0 n1 H0 H1) (f4 : n3 ≠ 0) (f5 : n2 = 1) : 0 ≤ n1 ∧ n1 < 20 := by
  unfold preb_292 at f1
  unfold postb_250 at f3
  have e1 : hV H1 285 64 = hV H0 285 64 := (f3.1.2.1.1 285 64 kF_250_285_64)
  have e2 : (0 : Int) ≤ hV H0 285 64 ∧ hV H0 285 64 ≤ 20 := bTo e1 (f3.1.2.2.2 285 64 _ _ kW_285_64)
  have p0 := f1.2.1
  have p1 := f1.2.2.1
  have p2 := f1.2.2.2.1
  have p3 := f1.2.2.2.2
  have r0_0 := f3.2
  try simp only [e1] at r0_0
  clear e1
  clear f1 f3
  omega
def g_292_s_1 : vG := ([(0, [2], [], 1), (31, [3], [], 0), (1250, [3, 0, 1], [0, 1], 0), (90, [3], [], 0), (6000, [0, 1, 2], [0], 0), (0, [0], [], 285)], (70, [1], [], 20))
theorem c_292_s_1 : vOkm T0 (eP e_292 L_292 A_292 mu_292 none) 3 g_292_s_1 := vOk_inI fun ρ η f0 f1 f2 f3 f4 f5 => q_292_1 (n0 := ρ 0) (n1 := ρ 1) (n2 := ρ 2) (n3 := ρ 3) (H0 := η 0) (H1 := η 1) f5 f4 f3 f2 f1 f0
theorem q_292_2 {n0 n1 n2 : Int} {H0 H1 : gH} (f0 : n0 = 285) (f1 : (hLe T0 H0 H1 ∧ hFr s_250.2.2.2.2 H0 H1 ∧ ((0 : Int) = 0 → H1.length = H0.length) ∧ hWt T0 H1) ∧ postb_250 n1 n0 n2 H0 H1) (f2 : n1 ≠ 0) : 0 ≤ n2 := by
  unfold postb_250 at f1
  have e1 : hV H1 285 64 = hV H0 285 64 := (f1.1.2.1.1 285 64 kF_250_285_64)
  have e2 : (0 : Int) ≤ hV H0 285 64 ∧ hV H0 285 64 ≤ 20 := bTo e1 (f1.1.2.2.2 285 64 _ _ kW_285_64)
  have r0_0 := f1.2
  try simp only [e1] at r0_0
  clear e1
  clear f1
  omega
def g_292_s_2 : vG := ([(31, [3], [], 0), (1250, [3, 0, 1], [0, 1], 0), (0, [0], [], 285)], (90, [1], [], 0))
theorem c_292_s_2 : vOkm T0 (eP e_292 L_292 A_292 mu_292 none) 3 g_292_s_2 := vOk_inI fun ρ η f0 f1 f2 => q_292_2 (n0 := ρ 0) (n1 := ρ 3) (n2 := ρ 1) (H0 := η 0) (H1 := η 1) f2 f1 f0
theorem q_292_3 {n0 n1 n2 n3 : Int} {H0 H1 : gH} (f0 : n0 = 285) (f1 : hWt T0 H0 ∧ preb_292 n0 n1 n2 H0) (f2 : (hLe T0 H0 H1 ∧ hFr s_250.2.2.2.2 H0 H1 ∧ ((0 : Int) = 0 → H1.length = H0.length) ∧ hWt T0 H1) ∧ postb_250 n3 n0 n1 H0 H1) (f3 : n3 ≠ 0) (f4 : n2 = 2) : n1 ≤ 19 := by
  unfold preb_292 at f1
  unfold postb_250 at f2
  have e1 : hV H1 285 64 = hV H0 285 64 := (f2.1.2.1.1 285 64 kF_250_285_64)
  have e2 : (0 : Int) ≤ hV H0 285 64 ∧ hV H0 285 64 ≤ 20 := bTo e1 (f2.1.2.2.2 285 64 _ _ kW_285_64)
  have p0 := f1.2.1
  have p1 := f1.2.2.1
  have p2 := f1.2.2.2.1
  have p3 := f1.2.2.2.2
  have r0_0 := f2.2
  try simp only [e1] at r0_0
  clear e1
  clear f1 f2
  omega
def g_292_s_3 : vG := ([(0, [2], [], 2), (31, [3], [], 0), (1250, [3, 0, 1], [0, 1], 0), (6000, [0, 1, 2], [0], 0), (0, [0], [], 285)], (91, [1], [], 19))
theorem c_292_s_3 : vOkm T0 (eP e_292 L_292 A_292 mu_292 none) 3 g_292_s_3 := vOk_inI fun ρ η f0 f1 f2 f3 f4 => q_292_3 (n0 := ρ 0) (n1 := ρ 1) (n2 := ρ 2) (n3 := ρ 3) (H0 := η 0) (H1 := η 1) f4 f3 f2 f1 f0
theorem q_292_4 {n0 n1 n2 n3 : Int} {H0 H1 : gH} (f0 : n0 ≤ 2147483647) (f1 : (-2147483648) ≤ n0) (f2 : n1 ≤ 2147483647) (f3 : (-2147483648) ≤ n1) (f4 : n2 = 285) (f5 : hWt T0 H0 ∧ preb_292 n2 n1 n0 H0) (f6 : n3 ≤ 1) (f7 : 0 ≤ n3) (f8 : (hLe T0 H0 H1 ∧ hFr s_250.2.2.2.2 H0 H1 ∧ ((0 : Int) = 0 → H1.length = H0.length) ∧ hWt T0 H1) ∧ postb_250 n3 n2 n1 H0 H1) (f9 : n3 ≠ 0) (f10 : n0 = 2) : preb_291 n2 n1 H1 := by
  unfold preb_292 at f5
  unfold postb_250 at f8
  unfold preb_291
  have e1 : hV H1 285 64 = hV H0 285 64 := (f8.1.2.1.1 285 64 kF_250_285_64)
  have e2 : PG H1 = PG H0 := PG_fr f8.1.2.1 (by decide +kernel)
  have e3 : SO H1 = SO H0 := SO_fr f8.1.2.1 (by decide +kernel)
  have e4 : (0 : Int) ≤ hV H0 285 64 ∧ hV H0 285 64 ≤ 20 := bTo e1 (f8.1.2.2.2 285 64 _ _ kW_285_64)
  try simp only [e2, e3]
  have p0 := f5.2.1
  have p1 := f5.2.2.1
  have p2 := f5.2.2.2.1
  have p3 := f5.2.2.2.2
  have r0_0 := f8.2
  try simp only [e1] at r0_0
  clear e1 e2 e3
  clear f5 f8
  refine ⟨?_, ?_⟩ <;> first | assumption | omega | trivial
def g_292_s_4 : vG := ([(0, [2], [], 2), (31, [3], [], 0), (1250, [3, 0, 1], [0, 1], 0), (90, [3], [], 0), (91, [3], [], 1), (6000, [0, 1, 2], [0], 0), (0, [0], [], 285), (90, [1], [], -2147483648), (91, [1], [], 2147483647), (90, [2], [], -2147483648), (91, [2], [], 2147483647)], (2291, [0, 1], [1], 0))
theorem c_292_s_4 : vOkm T0 (eP e_292 L_292 A_292 mu_292 none) 3 g_292_s_4 := vOk_inI fun ρ η f0 f1 f2 f3 f4 f5 f6 f7 f8 f9 f10 => q_292_4 (n0 := ρ 2) (n1 := ρ 1) (n2 := ρ 0) (n3 := ρ 3) (H0 := η 0) (H1 := η 1) f10 f9 f8 f7 f6 f5 f4 f3 f2 f1 f0
theorem q_292_5 {n0 n1 n2 n3 : Int} {H0 H1 : gH} (f0 : n0 = 285) (f1 : hWt T0 H0 ∧ preb_292 n0 n1 n2 H0) (f2 : 0 ≤ n3) (f3 : (hLe T0 H0 H1 ∧ hFr s_250.2.2.2.2 H0 H1 ∧ ((0 : Int) = 0 → H1.length = H0.length) ∧ hWt T0 H1) ∧ postb_250 n3 n0 n1 H0 H1) (f4 : n3 ≠ 0) (f5 : n2 = 3) : 0 ≤ n1 ∧ n1 < 20 := by
  unfold preb_292 at f1
  unfold postb_250 at f3
  have e1 : hV H1 285 64 = hV H0 285 64 := (f3.1.2.1.1 285 64 kF_250_285_64)
  have e2 : (0 : Int) ≤ hV H0 285 64 ∧ hV H0 285 64 ≤ 20 := bTo e1 (f3.1.2.2.2 285 64 _ _ kW_285_64)
  have p0 := f1.2.1
  have p1 := f1.2.2.1
  have p2 := f1.2.2.2.1
  have p3 := f1.2.2.2.2
  have r0_0 := f3.2
  try simp only [e1] at r0_0
  clear e1
  clear f1 f3
  omega
def g_292_s_5 : vG := ([(0, [2], [], 3), (31, [3], [], 0), (1250, [3, 0, 1], [0, 1], 0), (90, [3], [], 0), (6000, [0, 1, 2], [0], 0), (0, [0], [], 285)], (70, [1], [], 20))
theorem c_292_s_5 : vOkm T0 (eP e_292 L_292 A_292 mu_292 none) 3 g_292_s_5 := vOk_inI fun ρ η f0 f1 f2 f3 f4 f5 => q_292_5 (n0 := ρ 0) (n1 := ρ 1) (n2 := ρ 2) (n3 := ρ 3) (H0 := η 0) (H1 := η 1) f5 f4 f3 f2 f1 f0
theorem q_292_6 {n0 n1 n2 n3 : Int} {H0 H1 : gH} (f0 : n0 ≤ 2147483647) (f1 : (-2147483648) ≤ n0) (f2 : n1 ≤ 2147483647) (f3 : (-2147483648) ≤ n1) (f4 : n2 = 285) (f5 : hWt T0 H0 ∧ preb_292 n2 n1 n0 H0) (f6 : n3 ≤ 1) (f7 : 0 ≤ n3) (f8 : (hLe T0 H0 H1 ∧ hFr s_250.2.2.2.2 H0 H1 ∧ ((0 : Int) = 0 → H1.length = H0.length) ∧ hWt T0 H1) ∧ postb_250 n3 n2 n1 H0 H1) (f9 : n3 ≠ 0) (f10 : n0 = 4) : preb_288 n2 H1 := by
  unfold preb_292 at f5
  unfold postb_250 at f8
  unfold preb_288
  have e1 : hV H1 285 64 = hV H0 285 64 := (f8.1.2.1.1 285 64 kF_250_285_64)
  have e2 : AC H1 = AC H0 := AC_fr f8.1.2.1 (by decide +kernel)
  have e3 : PG H1 = PG H0 := PG_fr f8.1.2.1 (by decide +kernel)
  have e4 : SO H1 = SO H0 := SO_fr f8.1.2.1 (by decide +kernel)
  have e5 : SS H1 = SS H0 := SS_fr f8.1.2.1 (by decide +kernel)
  have e6 : (0 : Int) ≤ hV H0 285 64 ∧ hV H0 285 64 ≤ 20 := bTo e1 (f8.1.2.2.2 285 64 _ _ kW_285_64)
  try simp only [e2, e3, e4, e5]
  have p0 := f5.2.1
  have p1 := f5.2.2.1
  have p2 := f5.2.2.2.1
  have p3 := f5.2.2.2.2
  have r0_0 := f8.2
  try simp only [e1] at r0_0
  clear e1 e2 e3 e4 e5
  clear f5 f8
  refine ⟨?_, ?_, ?_, ?_⟩ <;> first | assumption | omega | trivial
def g_292_s_6 : vG := ([(0, [2], [], 4), (31, [3], [], 0), (1250, [3, 0, 1], [0, 1], 0), (90, [3], [], 0), (91, [3], [], 1), (6000, [0, 1, 2], [0], 0), (0, [0], [], 285), (90, [1], [], -2147483648), (91, [1], [], 2147483647), (90, [2], [], -2147483648), (91, [2], [], 2147483647)], (2288, [0], [1], 0))
theorem c_292_s_6 : vOkm T0 (eP e_292 L_292 A_292 mu_292 none) 3 g_292_s_6 := vOk_inI fun ρ η f0 f1 f2 f3 f4 f5 f6 f7 f8 f9 f10 => q_292_6 (n0 := ρ 2) (n1 := ρ 1) (n2 := ρ 0) (n3 := ρ 3) (H0 := η 0) (H1 := η 1) f10 f9 f8 f7 f6 f5 f4 f3 f2 f1 f0
theorem q_292_7 {n0 n1 n2 n3 : Int} {H0 H1 : gH} (f0 : n0 = 285) (f1 : hWt T0 H0 ∧ preb_292 n0 n1 n2 H0) (f2 : 0 ≤ n3) (f3 : (hLe T0 H0 H1 ∧ hFr s_250.2.2.2.2 H0 H1 ∧ ((0 : Int) = 0 → H1.length = H0.length) ∧ hWt T0 H1) ∧ postb_250 n3 n0 n1 H0 H1) (f4 : n3 ≠ 0) (f5 : n2 = 4) : 0 ≤ n1 ∧ n1 < 20 := by
  unfold preb_292 at f1
  unfold postb_250 at f3
  have e1 : hV H1 285 64 = hV H0 285 64 := (f3.1.2.1.1 285 64 kF_250_285_64)
  have e2 : (0 : Int) ≤ hV H0 285 64 ∧ hV H0 285 64 ≤ 20 := bTo e1 (f3.1.2.2.2 285 64 _ _ kW_285_64)
  have p0 := f1.2.1
  have p1 := f1.2.2.1
  have p2 := f1.2.2.2.1
  have p3 := f1.2.2.2.2
  have r0_0 := f3.2
  try simp only [e1] at r0_0
  clear e1
  clear f1 f3
  omega
def g_292_s_7 : vG := ([(0, [2], [], 4), (31, [3], [], 0), (1250, [3, 0, 1], [0, 1], 0), (90, [3], [], 0), (6000, [0, 1, 2], [0], 0), (0, [0], [], 285)], (70, [1], [], 20))
theorem c_292_s_7 : vOkm T0 (eP e_292 L_292 A_292 mu_292 none) 3 g_292_s_7 := vOk_inI fun ρ η f0 f1 f2 f3 f4 f5 => q_292_7 (n0 := ρ 0) (n1 := ρ 1) (n2 := ρ 2) (n3 := ρ 3) (H0 := η 0) (H1 := η 1) f5 f4 f3 f2 f1 f0
theorem q_292_8 {n0 n1 n2 n3 : Int} {H0 H1 : gH} (f0 : n0 = 285) (f1 : hWt T0 H0 ∧ preb_292 n0 n1 n2 H0) (f2 : 0 ≤ n3) (f3 : (hLe T0 H0 H1 ∧ hFr s_250.2.2.2.2 H0 H1 ∧ ((0 : Int) = 0 → H1.length = H0.length) ∧ hWt T0 H1) ∧ postb_250 n3 n0 n1 H0 H1) (f4 : n3 ≠ 0) (f5 : n2 = 5) : 0 ≤ n1 ∧ n1 < 20 := by
  unfold preb_292 at f1
  unfold postb_250 at f3
  have e1 : hV H1 285 64 = hV H0 285 64 := (f3.1.2.1.1 285 64 kF_250_285_64)
  have e2 : (0 : Int) ≤ hV H0 285 64 ∧ hV H0 285 64 ≤ 20 := bTo e1 (f3.1.2.2.2 285 64 _ _ kW_285_64)
  have p0 := f1.2.1
  have p1 := f1.2.2.1
  have p2 := f1.2.2.2.1
  have p3 := f1.2.2.2.2
  have r0_0 := f3.2
  try simp only [e1] at r0_0
  clear e1
  clear f1 f3
  omega
def g_292_s_8 : vG := ([(0, [2], [], 5), (31, [3], [], 0), (1250, [3, 0, 1], [0, 1], 0), (90, [3], [], 0), (6000, [0, 1, 2], [0], 0), (0, [0], [], 285)], (70, [1], [], 20))
theorem c_292_s_8 : vOkm T0 (eP e_292 L_292 A_292 mu_292 none) 3 g_292_s_8 := vOk_inI fun ρ η f0 f1 f2 f3 f4 f5 => q_292_8 (n0 := ρ 0) (n1 := ρ 1) (n2 := ρ 2) (n3 := ρ 3) (H0 := η 0) (H1 := η 1) f5 f4 f3 f2 f1 f0
theorem q_292_9 {n0 n1 n2 n3 : Int} {H0 H1 : gH} (f0 : n0 = 285) (f1 : hWt T0 H0 ∧ preb_292 n0 n1 n2 H0) (f2 : 0 ≤ n3) (f3 : (hLe T0 H0 H1 ∧ hFr s_250.2.2.2.2 H0 H1 ∧ ((0 : Int) = 0 → H1.length = H0.length) ∧ hWt T0 H1) ∧ postb_250 n3 n0 n1 H0 H1) (f4 : n3 ≠ 0) (f5 : n2 = 6) : 0 ≤ n1 ∧ n1 < 20 := by
  unfold preb_292 at f1
  unfold postb_250 at f3
  have e1 : hV H1 285 64 = hV H0 285 64 := (f3.1.2.1.1 285 64 kF_250_285_64)
  have e2 : (0 : Int) ≤ hV H0 285 64 ∧ hV H0 285 64 ≤ 20 := bTo e1 (f3.1.2.2.2 285 64 _ _ kW_285_64)
  have p0 := f1.2.1
  have p1 := f1.2.2.1
  have p2 := f1.2.2.2.1
  have p3 := f1.2.2.2.2
  have r0_0 := f3.2
  try simp only [e1] at r0_0
  clear e1
  clear f1 f3
  omega
def g_292_s_9 : vG := ([(0, [2], [], 6), (31, [3], [], 0), (1250, [3, 0, 1], [0, 1], 0), (90, [3], [], 0), (6000, [0, 1, 2], [0], 0), (0, [0], [], 285)], (70, [1], [], 20))
theorem c_292_s_9 : vOkm T0 (eP e_292 L_292 A_292 mu_292 none) 3 g_292_s_9 := vOk_inI fun ρ η f0 f1 f2 f3 f4 f5 => q_292_9 (n0 := ρ 0) (n1 := ρ 1) (n2 := ρ 2) (n3 := ρ 3) (H0 := η 0) (H1 := η 1) f5 f4 f3 f2 f1 f0
def p_292_s : List vG := [g_292_s_0,
  g_292_s_1,
  g_292_s_2,
  g_292_s_3,
  g_292_s_4,
  g_292_s_5,
  g_292_s_6,
  g_292_s_7,
  g_292_s_8,
  g_292_s_9]
theorem r_292_s : vCovO true (eR0 e_292 L_292 cs_292 2000) p_292_s = true := by decide +kernel
theorem m_292 (d : Nat) : eC e_292 (d + 8) := eC_ok (e := e_292) (L := L_292) (cs := cs_292) (n := 2000) (d := d + 7) (A := A_292) (μ := mu_292) (tp := true) (p0 := p_292_s) rfl ⟨m_250 (d + 6), ⟨m_288 d, ⟨m_291 (d + 3), trivial⟩⟩⟩ rfl (.inl rfl) (by decide +kernel) (fun _ => post0_ok) r_292_s (allC c_292_s_0 (allC c_292_s_1 (allC c_292_s_2 (allC c_292_s_3 (allC c_292_s_4 (allC c_292_s_5 (allC c_292_s_6 (allC c_292_s_7 (allC c_292_s_8 (allC c_292_s_9 allN)))))))))) allN
