/-! CONTRACTS of methods (printed by wip/gen/emit.py). -/
/- MixStageModel.read ()I -/
noncomputable def s_221 : vM := ([(3, 12, 285, 0)], (0, -2147483648, 2147483647, 0), 1, 0, [(12, 2), (12, 4), (12, 10), (12, 11), (12, 12), (12, 13), (12, 14), (12, 15), (12, 16), (12, 17), (12, 18), (12, 32), (12, 33), (12, 34), (12, 35), (12, 44), (12, 51), (12, 55), (126, 0), (132, 0), (140, 0), (148, 0), (157, 0), (172, 0), (180, 0), (189, 0), (196, 0), (204, 0), (212, 0), (220, 0), (228, 0), (236, 0), (244, 0), (252, 0), (260, 0), (268, 0), (276, 0), (284, 0), (292, 0), (300, 0), (308, 0), (316, 0), (324, 0), (332, 0), (340, 0), (351, 0), (359, 0), (364, 0), (372, 0), (380, 0), (388, 0), (396, 0), (404, 0)])
def preb_221 (a0 : Int) (h : gH) : Prop := PG h ∧ AC h ∧ PQ h ∧ RV h ∧ SO h ∧ RN h
def pre_221 : List Int → gH → Prop := fun xs h => match xs with
  | [a0] => preb_221 a0 h
  | _ => False
def postb_221 (r a0 : Int) (h0 h : gH) : Prop := PG h ∧ AC h ∧ PQ h ∧ RV h ∧ SO h ∧ RN h
def post_221 : List Int → gH → gH → Prop := fun xs h0 h => match xs with
  | [r, a0] => postb_221 r a0 h0 h
  | _ => True
noncomputable def e_221 : vE := (221, s_221, pre_221, post_221)
noncomputable def L_221 : List vE := [e_214, e_216, e_217, e_224, e_231]
def cs_221 : List vC := [(22, [(0, (3, 12, 285, 0)), (1, (0, 0, 2000, 0))]), (117, [(0, (3, 12, 285, 0)), (1, (0, 0, 1, 0))]), (170, [(0, (3, 12, 285, 0)), (1, (0, 0, 1, 0))])]
def Ab_221_22 (a0 x0 x1 : Int) (h0 h : gH) : Prop := PG h ∧ AC h ∧ PQ h ∧ RV h ∧ SO h ∧ RN h ∧ hV h 285 18 ≤ 7
def mub_221_22 (a0 x0 x1 : Int) (h0 h : gH) : Nat := 5000 - (x1).toNat
def Ab_221_117 (a0 x0 x1 : Int) (h0 h : gH) : Prop := PG h ∧ AC h ∧ PQ h ∧ RV h ∧ SO h ∧ RN h ∧ hV h 285 32 = hV h 285 18 ∧ hV h 285 18 ≤ 7 ∧ hV h 285 35 = 1 - hV h 285 34 ∧ (x1 = 0 → hV h 285 13 = 0 → hV h 285 15 = 0 → PGs (hV h 294) (hV h 296) (hV h 298) (hV h 300) (hV h 301) (hV h 302) (hV h 303) (hV h 305) (hV h 285 32).toNat) ∧ (x1 = 1 → hV h 285 13 = 0 → RGs (hV h 306) (hV h 307) (hV h 308) (hV h 309) (hV h 310) (hV h 311) (hV h 317) (hV h 318) (hV h 319) (hV h 320) (hV h 321) (hV h 285 35) (600 * hV h 285 35 + 500) (200 * hV h 285 35 + 200))
def mub_221_117 (a0 x0 x1 : Int) (h0 h : gH) : Nat := 2
def Ab_221_170 (a0 x0 x1 : Int) (h0 h : gH) : Prop := PG h ∧ AC h ∧ PQ h ∧ RV h ∧ SO h ∧ RN h ∧ hV h 285 32 = hV h 285 18 ∧ hV h 285 18 ≤ 7 ∧ hV h 285 35 = 1 - hV h 285 34 ∧ (x1 = 0 → hV h 285 13 = 0 → hV h 285 15 = 0 → PGs (hV h 294) (hV h 296) (hV h 298) (hV h 300) (hV h 301) (hV h 302) (hV h 303) (hV h 305) (hV h 285 32).toNat) ∧ (x1 = 1 → hV h 285 13 = 0 → RGs (hV h 306) (hV h 307) (hV h 308) (hV h 309) (hV h 310) (hV h 311) (hV h 317) (hV h 318) (hV h 319) (hV h 320) (hV h 321) (hV h 285 35) (600 * hV h 285 35 + 500) (200 * hV h 285 35 + 200))
def mub_221_170 (a0 x0 x1 : Int) (h0 h : gH) : Nat := 1
def A_221 : Int → List Int → gH → gH → Prop := fun c xs h0 h => match c.toNat with
  | 22 => PG h ∧ AC h ∧ PQ h ∧ RV h ∧ SO h ∧ RN h ∧ hV h 285 18 ≤ 7
  | 117 => (match xs with
    | [a0, x0, x1] => Ab_221_117 a0 x0 x1 h0 h
    | _ => False)
  | 170 => (match xs with
    | [a0, x0, x1] => Ab_221_170 a0 x0 x1 h0 h
    | _ => False)
  | _ => True
def mu_221 : Int → List Int → gH → gH → Nat := fun c xs h0 h => match c.toNat with
  | 22 => (match xs with
    | [a0, x0, x1] => mub_221_22 a0 x0 x1 h0 h
    | _ => 0)
  | 117 => 2
  | 170 => 1
  | _ => 0
theorem q_221_0 {n0 n1 n2 n3 n4 n5 : Int} {H0 H1 : gH} (f0 : n0 = 285) (f1 : hWt T0 H0 ∧ preb_221 n0 H0) (f2 : n1 ≤ 8) (f3 : 0 ≤ n1) (f4 : n1 = hV H0 (n0).toNat 18) (f5 : n2 = 8) (f6 : n1 ≠ n2) (f7 : n3 ≤ 2000) (f8 : 0 ≤ n3) (f9 : n3 = hV H0 (n0).toNat 2) (f10 : n4 = 4) (f11 : hUpd H1 H0 n0 n4 n3) (f12 : n5 = 0) : Ab_221_22 n0 n0 n5 H0 H1 ∧ ∀ q, none = some q → mub_221_22 n0 n0 n5 H0 H1 < q := by
  unfold preb_221 at f1
  unfold Ab_221_22
  have e0 : n1 = hV H0 285 18 := (by rw [f0] at f4; exact f4 : n1 = hV H0 285 18)
  have e1 : n3 = hV H0 285 2 := (by rw [f0] at f9; exact f9 : n3 = hV H0 285 2)
  have e3 : hV H1 285 18 = hV H0 285 18 := (uSlot f11 285 18 (iS (show n4 = ((4 : Nat) : Int) from f10) rfl))
  have e4 : AC H1 = AC H0 := AC_upF f11 f0 (show n4 = ((4 : Nat) : Int) from f10) (by decide)
  have e5 : PG H1 = PG H0 := PG_upF f11 f0 (show n4 = ((4 : Nat) : Int) from f10) (by decide)
  have e6 : PQ H1 = PQ H0 := PQ_upF f11 f0 (show n4 = ((4 : Nat) : Int) from f10) (by decide)
  have e7 : RN H1 = RN H0 := RN_upF f11 f0 (show n4 = ((4 : Nat) : Int) from f10) (by decide)
  have e8 : RV H1 = RV H0 := RV_upF f11 f0 (show n4 = ((4 : Nat) : Int) from f10) (by decide)
  have e9 : SO H1 = SO H0 := SO_upF f11 f0 (show n4 = ((4 : Nat) : Int) from f10) (by decide)
  have e10 : (0 : Int) ≤ hV H0 285 18 ∧ hV H0 285 18 ≤ 8 := f1.1 285 18 _ _ kW_285_18
  try simp only [e3, e4, e5, e6, e7, e8, e9]
  have p0 := f1.2.1
  have p1 := f1.2.2.1
  have p2 := f1.2.2.2.1
  have p3 := f1.2.2.2.2.1
  have p4 := f1.2.2.2.2.2.1
  have p5 := f1.2.2.2.2.2.2
  clear f4 f9 e3 e4 e5 e6 e7 e8 e9
  clear f1
  subst e0
  subst e1

  refine ⟨⟨?_, ?_, ?_, ?_, ?_, ?_, ?_⟩, fun q hq => ?_⟩
  · exact p0
  · exact p1
  · exact p2
  · exact p3
  · exact p4
  · exact p5
  · first | trivial | (simp only [uF_at]; omega) | omega
  · exact nomatch hq
def g_221_s_0 : vG := ([(0, [5], [], 0), (80, [0, 4, 3], [1, 0], 0), (0, [4], [], 4), (20, [3, 0], [0], 2), (90, [3], [], 0), (91, [3], [], 2000), (41, [1, 2], [], 0), (0, [2], [], 8), (20, [1, 0], [0], 18), (90, [1], [], 0), (91, [1], [], 8), (6000, [0], [0], 0), (0, [0], [], 285)], (4000, [0, 5], [1], 22))
theorem c_221_s_0 : vOkm T0 (eP e_221 L_221 A_221 mu_221 none) 1 g_221_s_0 := vOk_inI fun ρ η f0 f1 f2 f3 f4 f5 f6 f7 f8 f9 f10 f11 f12 => q_221_0 (n0 := ρ 0) (n1 := ρ 1) (n2 := ρ 2) (n3 := ρ 3) (n4 := ρ 4) (n5 := ρ 5) (H0 := η 0) (H1 := η 1) f12 f11 f10 f9 f8 f7 f6 f5 f4 f3 f2 f1 f0
theorem q_221_1 {n0 n1 n2 n3 : Int} {H0 : gH} (f0 : n0 = 285) (f1 : hWt T0 H0 ∧ preb_221 n0 H0) (f2 : n1 ≤ 8) (f3 : 0 ≤ n1) (f4 : n1 = hV H0 (n0).toNat 18) (f5 : n2 = 8) (f6 : n1 = n2) (f7 : n3 = (-2)) : postb_221 n3 n0 H0 H0 := by
  unfold preb_221 at f1
  unfold postb_221
  have e0 : n1 = hV H0 285 18 := (by rw [f0] at f4; exact f4 : n1 = hV H0 285 18)
  have p0 := f1.2.1
  have p1 := f1.2.2.1
  have p2 := f1.2.2.2.1
  have p3 := f1.2.2.2.2.1
  have p4 := f1.2.2.2.2.2.1
  have p5 := f1.2.2.2.2.2.2
  clear f4
  clear f1
  subst e0

  exact ⟨p0, p1, p2, p3, p4, p5⟩
def g_221_s_1 : vG := ([(0, [3], [], -2), (40, [1, 2], [], 0), (0, [2], [], 8), (20, [1, 0], [0], 18), (90, [1], [], 0), (91, [1], [], 8), (6000, [0], [0], 0), (0, [0], [], 285)], (3000, [3], [0], 11))
theorem c_221_s_1 : vOkm T0 (eP e_221 L_221 A_221 mu_221 none) 1 g_221_s_1 := vOk_inI fun ρ η f0 f1 f2 f3 f4 f5 f6 f7 => q_221_1 (n0 := ρ 0) (n1 := ρ 1) (n2 := ρ 2) (n3 := ρ 3) (H0 := η 0) f7 f6 f5 f4 f3 f2 f1 f0
def p_221_s : List vG := [g_221_s_0,
  g_221_s_1]
theorem r_221_s : vCovO false (eR0 e_221 L_221 cs_221 2000) p_221_s = true := by decide +kernel
theorem kF_214_285_18 : vFree s_214.2.2.2.2 285 18 = true := by decide +kernel
theorem q_221_2 {q0 : Nat} {n0 n1 n2 n3 n4 n5 n6 n7 n8 n9 n10 n11 n12 n13 : Int} {H0 H1 H2 H3 H4 H5 H6 H7 : gH} (f0 : n0 = 285) (f1 : n1 = 285) (f2 : (hLe T0 H0 H1 ∧ hFr s_221.2.2.2.2 H0 H1 ∧ hWt T0 H1) ∧ (Ab_221_22 n1 n0 n2 H0 H1 ∧ preb_221 n1 H0) ∧ some q0 = some (mub_221_22 n1 n0 n2 H0 H1)) (f3 : n3 = 0) (f4 : n4 = 2) (f5 : hUpd H2 H1 n0 n4 n3) (f6 : (hLe T0 H2 H3 ∧ hFr s_214.2.2.2.2 H2 H3 ∧ ((0 : Int) = 0 → H3.length = H2.length) ∧ hWt T0 H3) ∧ True) (f7 : n5 = 0) (f8 : n6 = 11) (f9 : hUpd H4 H3 n0 n6 n5) (f10 : n7 = 0) (f11 : n8 = 12) (f12 : hUpd H5 H4 n0 n8 n7) (f13 : n9 = 0) (f14 : n10 = 13) (f15 : hUpd H6 H5 n0 n10 n9) (f16 : n11 = 0) (f17 : n12 = 15) (f18 : hUpd H7 H6 n0 n12 n11) (f19 : n13 = hV H7 (n0).toNat 18) : n13 ≤ 7 := by
  have g4 := f2.2.1.1
  unfold Ab_221_22 at g4
  have g3 := f2.2.1.2
  unfold preb_221 at g3
  have e6 : n13 = hV H1 285 18 := (by rw [f0] at f19; exact f19 : n13 = hV H7 285 18).trans (((uSlot f18 285 18 (iS (show n12 = ((15 : Nat) : Int) from f17) rfl))).trans (((uSlot f15 285 18 (iS (show n10 = ((13 : Nat) : Int) from f14) rfl))).trans (((uSlot f12 285 18 (iS (show n8 = ((12 : Nat) : Int) from f11) rfl))).trans (((uSlot f9 285 18 (iS (show n6 = ((11 : Nat) : Int) from f8) rfl))).trans (((f6.1.2.1.1 285 18 kF_214_285_18)).trans (uSlot f5 285 18 (iS (show n4 = ((2 : Nat) : Int) from f4) rfl)))))))
  have e7 : (0 : Int) ≤ hV H1 285 18 ∧ hV H1 285 18 ≤ 8 := f2.1.2.2 285 18 _ _ kW_285_18
  have y0 := g4.1
  have y1 := g4.2.1
  have y2 := g4.2.2.1
  have y3 := g4.2.2.2.1
  have y4 := g4.2.2.2.2.1
  have y5 := g4.2.2.2.2.2.1
  have y6 := g4.2.2.2.2.2.2
  have p0 := g3.1
  have p1 := g3.2.1
  have p2 := g3.2.2.1
  have p3 := g3.2.2.2.1
  have p4 := g3.2.2.2.2.1
  have p5 := g3.2.2.2.2.2
  clear g3
  clear g4
  clear f19
  clear f2 f6
  subst e6
  omega
def g_221_22_0 : vG := ([(20, [14, 1], [7], 18), (80, [1, 13, 12], [7, 6], 0), (0, [13], [], 15), (0, [12], [], 0), (80, [1, 11, 10], [6, 5], 0), (0, [11], [], 13), (0, [10], [], 0), (80, [1, 9, 8], [5, 4], 0), (0, [9], [], 12), (0, [8], [], 0), (80, [1, 7, 6], [4, 3], 0), (0, [7], [], 11), (0, [6], [], 0), (1214, [1], [2, 3], 0), (80, [1, 5, 4], [2, 1], 0), (0, [5], [], 2), (0, [4], [], 0), (5000, [0, 1, 2], [0, 1], 22), (0, [0], [], 285), (0, [1], [], 285)], (91, [14], [], 7))
theorem c_221_22_0 {q0 : Nat} : vOkm T0 (eP e_221 L_221 A_221 mu_221 (some q0)) 1 g_221_22_0 := vOk_inI fun ρ η f0 f1 f2 f3 f4 f5 f6 f7 f8 f9 f10 f11 f12 f13 f14 f15 f16 f17 f18 f19 => q_221_2 (q0 := q0) (n0 := ρ 1) (n1 := ρ 0) (n2 := ρ 2) (n3 := ρ 4) (n4 := ρ 5) (n5 := ρ 6) (n6 := ρ 7) (n7 := ρ 8) (n8 := ρ 9) (n9 := ρ 10) (n10 := ρ 11) (n11 := ρ 12) (n12 := ρ 13) (n13 := ρ 14) (H0 := η 0) (H1 := η 1) (H2 := η 2) (H3 := η 3) (H4 := η 4) (H5 := η 5) (H6 := η 6) (H7 := η 7) f19 f18 f17 f16 f15 f14 f13 f12 f11 f10 f9 f8 f7 f6 f5 f4 f3 f2 f1 f0
theorem q_221_3 {q0 : Nat} {n0 n1 n2 : Int} {H0 : gH} (f0 : n0 = 1) (f1 : n1 ≤ 1) (f2 : 0 ≤ n1) (f3 : n2 = w32 (n0 - n1)) : 0 ≤ n2 := by
  first
  | (have ix0 : n2 = 1 - n1 := Eq.trans f3 (w32_iv (Isu (IC 1) (Iat f2 f1)) (by decide)); subst ix0; clear f3)
  | (have ix0 : n2 = 1 - n1 := Eq.trans f3 (w32_id (by omega) (by omega)); subst ix0; clear f3)
  | (unfold w32 at f3; have ix0 : n2 = 1 - n1 := (by omega); subst ix0)
  | skip
  try unfold w32 at f3
  omega
def g_221_22_1 : vG := ([(2, [18, 16, 17], [], 0), (90, [17], [], 0), (91, [17], [], 1), (0, [16], [], 1)], (90, [18], [], 0))
theorem c_221_22_1 {q0 : Nat} : vOkm T0 (eP e_221 L_221 A_221 mu_221 (some q0)) 1 g_221_22_1 := vOk_inI fun ρ η f0 f1 f2 f3 => q_221_3 (q0 := q0) (n0 := ρ 16) (n1 := ρ 17) (n2 := ρ 18) (H0 := η 0) f3 f2 f1 f0
theorem q_221_4 {q0 : Nat} {n0 n1 n2 : Int} {H0 : gH} (f0 : n0 = 1) (f1 : n1 ≤ 1) (f2 : 0 ≤ n1) (f3 : n2 = w32 (n0 - n1)) : n2 ≤ 1 := by
  first
  | (have ix0 : n2 = 1 - n1 := Eq.trans f3 (w32_iv (Isu (IC 1) (Iat f2 f1)) (by decide)); subst ix0; clear f3)
  | (have ix0 : n2 = 1 - n1 := Eq.trans f3 (w32_id (by omega) (by omega)); subst ix0; clear f3)
  | (unfold w32 at f3; have ix0 : n2 = 1 - n1 := (by omega); subst ix0)
  | skip
  try unfold w32 at f3
  omega
def g_221_22_2 : vG := ([(2, [18, 16, 17], [], 0), (90, [17], [], 0), (91, [17], [], 1), (0, [16], [], 1)], (91, [18], [], 1))
theorem c_221_22_2 {q0 : Nat} : vOkm T0 (eP e_221 L_221 A_221 mu_221 (some q0)) 1 g_221_22_2 := vOk_inI fun ρ η f0 f1 f2 f3 => q_221_4 (q0 := q0) (n0 := ρ 16) (n1 := ρ 17) (n2 := ρ 18) (H0 := η 0) f3 f2 f1 f0
theorem kF_214_285_34 : vFree s_214.2.2.2.2 285 34 = true := by decide +kernel
theorem q_221_5 {q0 : Nat} {n0 n1 n2 n3 n4 n5 n6 n7 n8 n9 n10 n11 n12 n13 n14 n15 n16 n17 n18 n19 n20 n21 : Int} {H0 H1 H2 H3 H4 H5 H6 H7 H8 H9 H10 : gH} (f0 : n0 ≤ 2000) (f1 : 0 ≤ n0) (f2 : n1 = 285) (f3 : n2 = 285) (f4 : (hLe T0 H0 H1 ∧ hFr s_221.2.2.2.2 H0 H1 ∧ hWt T0 H1) ∧ (Ab_221_22 n2 n1 n0 H0 H1 ∧ preb_221 n2 H0) ∧ some q0 = some (mub_221_22 n2 n1 n0 H0 H1)) (f5 : n3 ≤ 2000) (f6 : 0 ≤ n3) (f7 : n3 = hV H1 (n1).toNat 4) (f8 : n3 ≤ n0) (f9 : n4 = 0) (f10 : n5 = 2) (f11 : hUpd H2 H1 n1 n5 n4) (f12 : (hLe T0 H2 H3 ∧ hFr s_214.2.2.2.2 H2 H3 ∧ ((0 : Int) = 0 → H3.length = H2.length) ∧ hWt T0 H3) ∧ True) (f13 : n6 = 0) (f14 : n7 = 11) (f15 : hUpd H4 H3 n1 n7 n6) (f16 : n8 = 0) (f17 : n9 = 12) (f18 : hUpd H5 H4 n1 n9 n8) (f19 : n10 = 0) (f20 : n11 = 13) (f21 : hUpd H6 H5 n1 n11 n10) (f22 : n12 = 0) (f23 : n13 = 15) (f24 : hUpd H7 H6 n1 n13 n12) (f25 : n14 ≤ 8) (f26 : 0 ≤ n14) (f27 : n14 = hV H7 (n1).toNat 18) (f28 : n15 = 32) (f29 : hUpd H8 H7 n1 n15 n14) (f30 : n16 = 1) (f31 : n17 ≤ 1) (f32 : 0 ≤ n17) (f33 : n17 = hV H8 (n1).toNat 34) (f34 : n18 = w32 (n16 - n17)) (f35 : n19 = 35) (f36 : hUpd H9 H8 n1 n19 n18) (f37 : n20 = 23) (f38 : n21 ≤ 1) (f39 : 0 ≤ n21) (f40 : (hLe T0 H9 H10 ∧ hFr s_216.2.2.2.2 H9 H10 ∧ ((0 : Int) = 0 → H10.length = H9.length) ∧ hWt T0 H10) ∧ postb_216 n21 n1 n20 H9 H10) (f41 : n21 = 0) : preb_224 n1 H10 := by
  have g4 := f4.2.1.1
  unfold Ab_221_22 at g4
  have g3 := f4.2.1.2
  unfold preb_221 at g3
  unfold postb_216 at f40
  unfold preb_224
  have e0 : n3 = hV H1 285 4 := (by rw [f2] at f7; exact f7 : n3 = hV H1 285 4)
  have e7 : n14 = hV H1 285 18 := (by rw [f2] at f27; exact f27 : n14 = hV H7 285 18).trans (((uSlot f24 285 18 (iS (show n13 = ((15 : Nat) : Int) from f23) rfl))).trans (((uSlot f21 285 18 (iS (show n11 = ((13 : Nat) : Int) from f20) rfl))).trans (((uSlot f18 285 18 (iS (show n9 = ((12 : Nat) : Int) from f17) rfl))).trans (((uSlot f15 285 18 (iS (show n7 = ((11 : Nat) : Int) from f14) rfl))).trans (((f12.1.2.1.1 285 18 kF_214_285_18)).trans (uSlot f11 285 18 (iS (show n5 = ((2 : Nat) : Int) from f10) rfl)))))))
  have e15 : n17 = hV H1 285 34 := (by rw [f2] at f33; exact f33 : n17 = hV H8 285 34).trans (((uSlot f29 285 34 (iS (show n15 = ((32 : Nat) : Int) from f28) rfl))).trans (((uSlot f24 285 34 (iS (show n13 = ((15 : Nat) : Int) from f23) rfl))).trans (((uSlot f21 285 34 (iS (show n11 = ((13 : Nat) : Int) from f20) rfl))).trans (((uSlot f18 285 34 (iS (show n9 = ((12 : Nat) : Int) from f17) rfl))).trans (((uSlot f15 285 34 (iS (show n7 = ((11 : Nat) : Int) from f14) rfl))).trans (((f12.1.2.1.1 285 34 kF_214_285_34)).trans (uSlot f11 285 34 (iS (show n5 = ((2 : Nat) : Int) from f10) rfl))))))))
  have e23 : hV H10 285 11 = n6 := ((f40.1.2.1.1 285 11 kF_216_285_11)).trans (((uSlot f36 285 11 (iS (show n19 = ((35 : Nat) : Int) from f35) rfl))).trans (((uSlot f29 285 11 (iS (show n15 = ((32 : Nat) : Int) from f28) rfl))).trans (((uSlot f24 285 11 (iS (show n13 = ((15 : Nat) : Int) from f23) rfl))).trans (((uSlot f21 285 11 (iS (show n11 = ((13 : Nat) : Int) from f20) rfl))).trans (((uSlot f18 285 11 (iS (show n9 = ((12 : Nat) : Int) from f17) rfl))).trans (uSame f15 285 11 f2.symm f14.symm))))))
  have e29 : hV H10 285 13 = n10 := ((f40.1.2.1.1 285 13 kF_216_285_13)).trans (((uSlot f36 285 13 (iS (show n19 = ((35 : Nat) : Int) from f35) rfl))).trans (((uSlot f29 285 13 (iS (show n15 = ((32 : Nat) : Int) from f28) rfl))).trans (((uSlot f24 285 13 (iS (show n13 = ((15 : Nat) : Int) from f23) rfl))).trans (uSame f21 285 13 f2.symm f20.symm))))
  have e33 : hV H10 285 18 = hV H1 285 18 := ((f40.1.2.1.1 285 18 kF_216_285_18)).trans (((uSlot f36 285 18 (iS (show n19 = ((35 : Nat) : Int) from f35) rfl))).trans (((uSlot f29 285 18 (iS (show n15 = ((32 : Nat) : Int) from f28) rfl))).trans (((uSlot f24 285 18 (iS (show n13 = ((15 : Nat) : Int) from f23) rfl))).trans (((uSlot f21 285 18 (iS (show n11 = ((13 : Nat) : Int) from f20) rfl))).trans (((uSlot f18 285 18 (iS (show n9 = ((12 : Nat) : Int) from f17) rfl))).trans (((uSlot f15 285 18 (iS (show n7 = ((11 : Nat) : Int) from f14) rfl))).trans (((f12.1.2.1.1 285 18 kF_214_285_18)).trans (uSlot f11 285 18 (iS (show n5 = ((2 : Nat) : Int) from f10) rfl)))))))))
  have e37 : hV H10 285 32 = n14 := ((f40.1.2.1.1 285 32 kF_216_285_32)).trans (((uSlot f36 285 32 (iS (show n19 = ((35 : Nat) : Int) from f35) rfl))).trans (uSame f29 285 32 f2.symm f28.symm))
  have e50 : hV H10 288 = hV H3 288 := (fRow f40.1.2.1 288 kR_216_288).trans ((uRowNe f36 288 (iS (show n1 = ((285 : Nat) : Int) from f2) rfl)).trans ((uRowNe f29 288 (iS (show n1 = ((285 : Nat) : Int) from f2) rfl)).trans ((uRowNe f24 288 (iS (show n1 = ((285 : Nat) : Int) from f2) rfl)).trans ((uRowNe f21 288 (iS (show n1 = ((285 : Nat) : Int) from f2) rfl)).trans ((uRowNe f18 288 (iS (show n1 = ((285 : Nat) : Int) from f2) rfl)).trans (uRowNe f15 288 (iS (show n1 = ((285 : Nat) : Int) from f2) rfl)))))))
  have e51 : PA H2 = PA H1 := PA_upF f11 f2 (show n5 = ((2 : Nat) : Int) from f10) (by decide)
  have e52 : PA H3 = PA H2 := PA_fr f12.1.2.1 (by decide +kernel)
  have e53 : PA H3 = PA H1 := e52.trans e51
  have e54 : PA H4 = PA H3 := PA_upF f15 f2 (show n7 = ((11 : Nat) : Int) from f14) (by decide)
  have e55 : PA H4 = PA H1 := e54.trans e53
  have e56 : PA H5 = PA H4 := PA_upF f18 f2 (show n9 = ((12 : Nat) : Int) from f17) (by decide)
  have e57 : PA H5 = PA H1 := e56.trans e55
  have e58 : PA H6 = PA H5 := PA_upF f21 f2 (show n11 = ((13 : Nat) : Int) from f20) (by decide)
  have e59 : PA H6 = PA H1 := e58.trans e57
  have e60 : PA H7 = PA H6 := PA_upF f24 f2 (show n13 = ((15 : Nat) : Int) from f23) (by decide)
  have e61 : PA H7 = PA H1 := e60.trans e59
  have e62 : PA H8 = PA H7 := PA_upF f29 f2 (show n15 = ((32 : Nat) : Int) from f28) (by decide)
  have e63 : PA H8 = PA H1 := e62.trans e61
  have e64 : PA H9 = PA H8 := PA_upF f36 f2 (show n19 = ((35 : Nat) : Int) from f35) (by decide)
  have e65 : PA H9 = PA H1 := e64.trans e63
  have e66 : PA H10 = PA H9 := PA_fr f40.1.2.1 (by decide +kernel)
  have e67 : PA H10 = PA H1 := e66.trans e65
  have e68 : PQ H2 = PQ H1 := PQ_upF f11 f2 (show n5 = ((2 : Nat) : Int) from f10) (by decide)
  have e69 : PQ H3 = PQ H2 := PQ_fr f12.1.2.1 (by decide +kernel)
  have e70 : PQ H3 = PQ H1 := e69.trans e68
  have e71 : PQ H4 = PQ H3 := PQ_upF f15 f2 (show n7 = ((11 : Nat) : Int) from f14) (by decide)
  have e72 : PQ H4 = PQ H1 := e71.trans e70
  have e73 : PQ H5 = PQ H4 := PQ_upF f18 f2 (show n9 = ((12 : Nat) : Int) from f17) (by decide)
  have e74 : PQ H5 = PQ H1 := e73.trans e72
  have e75 : PQ H6 = PQ H5 := PQ_upF f21 f2 (show n11 = ((13 : Nat) : Int) from f20) (by decide)
  have e76 : PQ H6 = PQ H1 := e75.trans e74
  have e77 : PQ H7 = PQ H6 := PQ_upF f24 f2 (show n13 = ((15 : Nat) : Int) from f23) (by decide)
  have e78 : PQ H7 = PQ H1 := e77.trans e76
  have e79 : PQ H8 = PQ H7 := PQ_upF f29 f2 (show n15 = ((32 : Nat) : Int) from f28) (by decide)
  have e80 : PQ H8 = PQ H1 := e79.trans e78
  have e81 : PQ H9 = PQ H8 := PQ_upF f36 f2 (show n19 = ((35 : Nat) : Int) from f35) (by decide)
  have e82 : PQ H9 = PQ H1 := e81.trans e80
  have e83 : PQ H10 = PQ H9 := PQ_fr f40.1.2.1 (by decide +kernel)
  have e84 : PQ H10 = PQ H1 := e83.trans e82
  have e85 : (0 : Int) ≤ hV H1 285 11 ∧ hV H1 285 11 ≤ 500 := f4.1.2.2 285 11 _ _ kW_285_11
  have e86 : (0 : Int) ≤ hV H1 285 13 ∧ hV H1 285 13 ≤ 2 := f4.1.2.2 285 13 _ _ kW_285_13
  have e87 : (0 : Int) ≤ hV H1 285 18 ∧ hV H1 285 18 ≤ 8 := f4.1.2.2 285 18 _ _ kW_285_18
  have e88 : (0 : Int) ≤ hV H1 285 32 ∧ hV H1 285 32 ≤ 7 := f4.1.2.2 285 32 _ _ kW_285_32
  have e89 : (0 : Int) ≤ hV H10 285 11 ∧ hV H10 285 11 ≤ 500 := f40.1.2.2.2 285 11 _ _ kW_285_11
  have e90 : (0 : Int) ≤ hV H10 285 13 ∧ hV H10 285 13 ≤ 2 := f40.1.2.2.2 285 13 _ _ kW_285_13
  have e92 : (0 : Int) ≤ hV H10 285 32 ∧ hV H10 285 32 ≤ 7 := f40.1.2.2.2 285 32 _ _ kW_285_32
  try simp only [e23] at e89
  try simp only [e29] at e90
  try simp only [e37] at e92
  try simp only [e33, e37, e67, e84]
  have y0 := g4.1
  have y1 := g4.2.1
  have y2 := g4.2.2.1
  have y3 := g4.2.2.2.1
  have y4 := g4.2.2.2.2.1
  have y5 := g4.2.2.2.2.2.1
  have y6 := g4.2.2.2.2.2.2
  have p0 := g3.1
  have p1 := g3.2.1
  have p2 := g3.2.2.1
  have p3 := g3.2.2.2.1
  have p4 := g3.2.2.2.2.1
  have p5 := g3.2.2.2.2.2
  have r1_0 := f40.2.1
  have r1_1 := f40.2.2
  try simp only [e29] at r1_0
  try simp only [e23, e29, e50] at r1_1
  clear g3
  clear g4
  clear f7 f27 f33 e33 e50 e51 e52 e53 e54 e55 e56 e57 e58 e59 e60 e61 e62 e63 e64 e65 e66 e67 e68 e69 e70 e71 e72 e73 e74 e75 e76 e77 e78 e79 e80 e81 e82 e83 e84
  clear f4 f12 f40
  subst e0
  subst e7
  subst e15
  first
  | (have ix0 : n18 = 1 - (hV H1 285 34) := Eq.trans f34 (w32_iv (Isu (IC 1) (Iat f32 f31)) (by decide)); subst ix0; clear f34)
  | (have ix0 : n18 = 1 - (hV H1 285 34) := Eq.trans f34 (w32_id (by omega) (by omega)); subst ix0; clear f34)
  | (unfold w32 at f34; have ix0 : n18 = 1 - (hV H1 285 34) := (by omega); subst ix0)
  | skip
  try unfold w32 at f34

  exact ⟨⟨y0, y1⟩, y2, by omega, by omega⟩
def g_221_22_3 : vG := ([(30, [21], [], 0), (1216, [21, 1, 20], [9, 10], 0), (90, [21], [], 0), (91, [21], [], 1), (0, [20], [], 23), (80, [1, 19, 18], [9, 8], 0), (0, [19], [], 35), (2, [18, 16, 17], [], 0), (20, [17, 1], [8], 34), (90, [17], [], 0), (91, [17], [], 1), (0, [16], [], 1), (80, [1, 15, 14], [8, 7], 0), (0, [15], [], 32), (20, [14, 1], [7], 18), (90, [14], [], 0), (91, [14], [], 8), (80, [1, 13, 12], [7, 6], 0), (0, [13], [], 15), (0, [12], [], 0), (80, [1, 11, 10], [6, 5], 0), (0, [11], [], 13), (0, [10], [], 0), (80, [1, 9, 8], [5, 4], 0), (0, [9], [], 12), (0, [8], [], 0), (80, [1, 7, 6], [4, 3], 0), (0, [7], [], 11), (0, [6], [], 0), (1214, [1], [2, 3], 0), (80, [1, 5, 4], [2, 1], 0), (0, [5], [], 2), (0, [4], [], 0), (43, [2, 3], [], 0), (20, [3, 1], [1], 4), (90, [3], [], 0), (91, [3], [], 2000), (5000, [0, 1, 2], [0, 1], 22), (0, [0], [], 285), (0, [1], [], 285), (90, [2], [], 0), (91, [2], [], 2000)], (2224, [1], [10], 0))
theorem c_221_22_3 {q0 : Nat} : vOkm T0 (eP e_221 L_221 A_221 mu_221 (some q0)) 1 g_221_22_3 := vOk_inI fun ρ η f0 f1 f2 f3 f4 f5 f6 f7 f8 f9 f10 f11 f12 f13 f14 f15 f16 f17 f18 f19 f20 f21 f22 f23 f24 f25 f26 f27 f28 f29 f30 f31 f32 f33 f34 f35 f36 f37 f38 f39 f40 f41 => q_221_5 (q0 := q0) (n0 := ρ 2) (n1 := ρ 1) (n2 := ρ 0) (n3 := ρ 3) (n4 := ρ 4) (n5 := ρ 5) (n6 := ρ 6) (n7 := ρ 7) (n8 := ρ 8) (n9 := ρ 9) (n10 := ρ 10) (n11 := ρ 11) (n12 := ρ 12) (n13 := ρ 13) (n14 := ρ 14) (n15 := ρ 15) (n16 := ρ 16) (n17 := ρ 17) (n18 := ρ 18) (n19 := ρ 19) (n20 := ρ 20) (n21 := ρ 21) (H0 := η 0) (H1 := η 1) (H2 := η 2) (H3 := η 3) (H4 := η 4) (H5 := η 5) (H6 := η 6) (H7 := η 7) (H8 := η 8) (H9 := η 9) (H10 := η 10) f41 f40 f39 f38 f37 f36 f35 f34 f33 f32 f31 f30 f29 f28 f27 f26 f25 f24 f23 f22 f21 f20 f19 f18 f17 f16 f15 f14 f13 f12 f11 f10 f9 f8 f7 f6 f5 f4 f3 f2 f1 f0
theorem kR_224_306 : vFreeR s_224.2.2.2.2 306 = true := by decide +kernel
theorem kR_214_306 : vFreeR s_214.2.2.2.2 306 = true := by decide +kernel
theorem kR_224_307 : vFreeR s_224.2.2.2.2 307 = true := by decide +kernel
theorem kR_214_307 : vFreeR s_214.2.2.2.2 307 = true := by decide +kernel
theorem kR_224_308 : vFreeR s_224.2.2.2.2 308 = true := by decide +kernel
theorem kR_214_308 : vFreeR s_214.2.2.2.2 308 = true := by decide +kernel
theorem kR_224_309 : vFreeR s_224.2.2.2.2 309 = true := by decide +kernel
theorem kR_214_309 : vFreeR s_214.2.2.2.2 309 = true := by decide +kernel
theorem kR_224_310 : vFreeR s_224.2.2.2.2 310 = true := by decide +kernel
theorem kR_214_310 : vFreeR s_214.2.2.2.2 310 = true := by decide +kernel
theorem kR_224_311 : vFreeR s_224.2.2.2.2 311 = true := by decide +kernel
theorem kR_214_311 : vFreeR s_214.2.2.2.2 311 = true := by decide +kernel
theorem kR_224_317 : vFreeR s_224.2.2.2.2 317 = true := by decide +kernel
theorem kR_214_317 : vFreeR s_214.2.2.2.2 317 = true := by decide +kernel
theorem kR_224_318 : vFreeR s_224.2.2.2.2 318 = true := by decide +kernel
theorem kR_214_318 : vFreeR s_214.2.2.2.2 318 = true := by decide +kernel
theorem kR_224_319 : vFreeR s_224.2.2.2.2 319 = true := by decide +kernel
theorem kR_214_319 : vFreeR s_214.2.2.2.2 319 = true := by decide +kernel
theorem kR_224_320 : vFreeR s_224.2.2.2.2 320 = true := by decide +kernel
theorem kR_214_320 : vFreeR s_214.2.2.2.2 320 = true := by decide +kernel
theorem kR_224_321 : vFreeR s_224.2.2.2.2 321 = true := by decide +kernel
theorem kR_214_321 : vFreeR s_214.2.2.2.2 321 = true := by decide +kernel
theorem kF_224_285_34 : vFree s_224.2.2.2.2 285 34 = true := by decide +kernel
theorem kF_224_285_35 : vFree s_224.2.2.2.2 285 35 = true := by decide +kernel
theorem q_221_6 {q0 : Nat} {n0 n1 n2 n3 n4 n5 n6 n7 n8 n9 n10 n11 n12 n13 n14 n15 n16 n17 n18 n19 n20 n21 : Int} {H0 H1 H2 H3 H4 H5 H6 H7 H8 H9 H10 H11 : gH} (f0 : n0 ≤ 2000) (f1 : 0 ≤ n0) (f2 : n1 = 285) (f3 : n2 = 285) (f4 : (hLe T0 H0 H1 ∧ hFr s_221.2.2.2.2 H0 H1 ∧ hWt T0 H1) ∧ (Ab_221_22 n2 n1 n0 H0 H1 ∧ preb_221 n2 H0) ∧ some q0 = some (mub_221_22 n2 n1 n0 H0 H1)) (f5 : n3 ≤ 2000) (f6 : 0 ≤ n3) (f7 : n3 = hV H1 (n1).toNat 4) (f8 : n3 ≤ n0) (f9 : n4 = 0) (f10 : n5 = 2) (f11 : hUpd H2 H1 n1 n5 n4) (f12 : (hLe T0 H2 H3 ∧ hFr s_214.2.2.2.2 H2 H3 ∧ ((0 : Int) = 0 → H3.length = H2.length) ∧ hWt T0 H3) ∧ True) (f13 : n6 = 0) (f14 : n7 = 11) (f15 : hUpd H4 H3 n1 n7 n6) (f16 : n8 = 0) (f17 : n9 = 12) (f18 : hUpd H5 H4 n1 n9 n8) (f19 : n10 = 0) (f20 : n11 = 13) (f21 : hUpd H6 H5 n1 n11 n10) (f22 : n12 = 0) (f23 : n13 = 15) (f24 : hUpd H7 H6 n1 n13 n12) (f25 : n14 ≤ 8) (f26 : 0 ≤ n14) (f27 : n14 = hV H7 (n1).toNat 18) (f28 : n15 = 32) (f29 : hUpd H8 H7 n1 n15 n14) (f30 : n16 = 1) (f31 : n17 ≤ 1) (f32 : 0 ≤ n17) (f33 : n17 = hV H8 (n1).toNat 34) (f34 : n18 = w32 (n16 - n17)) (f35 : n19 = 35) (f36 : hUpd H9 H8 n1 n19 n18) (f37 : n20 = 23) (f38 : n21 ≤ 1) (f39 : 0 ≤ n21) (f40 : (hLe T0 H9 H10 ∧ hFr s_216.2.2.2.2 H9 H10 ∧ ((0 : Int) = 0 → H10.length = H9.length) ∧ hWt T0 H10) ∧ postb_216 n21 n1 n20 H9 H10) (f41 : n21 = 0) (f42 : (hLe T0 H10 H11 ∧ hFr s_224.2.2.2.2 H10 H11 ∧ ((0 : Int) = 0 → H11.length = H10.length) ∧ hWt T0 H11) ∧ postb_224 n1 H10 H11) : Ab_221_117 n2 n1 n21 H0 H11 ∧ ∀ q, some q0 = some q → mub_221_117 n2 n1 n21 H0 H11 < q := by
  have g4 := f4.2.1.1
  unfold Ab_221_22 at g4
  have g3 := f4.2.1.2
  unfold preb_221 at g3
  have g5 := Option.some.inj f4.2.2
  unfold mub_221_22 at g5
  unfold postb_216 at f40
  unfold postb_224 at f42
  unfold Ab_221_117
  unfold mub_221_117
  have e0 : n3 = hV H1 285 4 := (by rw [f2] at f7; exact f7 : n3 = hV H1 285 4)
  have e7 : n14 = hV H1 285 18 := (by rw [f2] at f27; exact f27 : n14 = hV H7 285 18).trans (((uSlot f24 285 18 (iS (show n13 = ((15 : Nat) : Int) from f23) rfl))).trans (((uSlot f21 285 18 (iS (show n11 = ((13 : Nat) : Int) from f20) rfl))).trans (((uSlot f18 285 18 (iS (show n9 = ((12 : Nat) : Int) from f17) rfl))).trans (((uSlot f15 285 18 (iS (show n7 = ((11 : Nat) : Int) from f14) rfl))).trans (((f12.1.2.1.1 285 18 kF_214_285_18)).trans (uSlot f11 285 18 (iS (show n5 = ((2 : Nat) : Int) from f10) rfl)))))))
  have e15 : n17 = hV H1 285 34 := (by rw [f2] at f33; exact f33 : n17 = hV H8 285 34).trans (((uSlot f29 285 34 (iS (show n15 = ((32 : Nat) : Int) from f28) rfl))).trans (((uSlot f24 285 34 (iS (show n13 = ((15 : Nat) : Int) from f23) rfl))).trans (((uSlot f21 285 34 (iS (show n11 = ((13 : Nat) : Int) from f20) rfl))).trans (((uSlot f18 285 34 (iS (show n9 = ((12 : Nat) : Int) from f17) rfl))).trans (((uSlot f15 285 34 (iS (show n7 = ((11 : Nat) : Int) from f14) rfl))).trans (((f12.1.2.1.1 285 34 kF_214_285_34)).trans (uSlot f11 285 34 (iS (show n5 = ((2 : Nat) : Int) from f10) rfl))))))))
  have e23 : hV H10 285 11 = n6 := ((f40.1.2.1.1 285 11 kF_216_285_11)).trans (((uSlot f36 285 11 (iS (show n19 = ((35 : Nat) : Int) from f35) rfl))).trans (((uSlot f29 285 11 (iS (show n15 = ((32 : Nat) : Int) from f28) rfl))).trans (((uSlot f24 285 11 (iS (show n13 = ((15 : Nat) : Int) from f23) rfl))).trans (((uSlot f21 285 11 (iS (show n11 = ((13 : Nat) : Int) from f20) rfl))).trans (((uSlot f18 285 11 (iS (show n9 = ((12 : Nat) : Int) from f17) rfl))).trans (uSame f15 285 11 f2.symm f14.symm))))))
  have e29 : hV H10 285 13 = n10 := ((f40.1.2.1.1 285 13 kF_216_285_13)).trans (((uSlot f36 285 13 (iS (show n19 = ((35 : Nat) : Int) from f35) rfl))).trans (((uSlot f29 285 13 (iS (show n15 = ((32 : Nat) : Int) from f28) rfl))).trans (((uSlot f24 285 13 (iS (show n13 = ((15 : Nat) : Int) from f23) rfl))).trans (uSame f21 285 13 f2.symm f20.symm))))
  have e42 : hV H10 288 = hV H3 288 := (fRow f40.1.2.1 288 kR_216_288).trans ((uRowNe f36 288 (iS (show n1 = ((285 : Nat) : Int) from f2) rfl)).trans ((uRowNe f29 288 (iS (show n1 = ((285 : Nat) : Int) from f2) rfl)).trans ((uRowNe f24 288 (iS (show n1 = ((285 : Nat) : Int) from f2) rfl)).trans ((uRowNe f21 288 (iS (show n1 = ((285 : Nat) : Int) from f2) rfl)).trans ((uRowNe f18 288 (iS (show n1 = ((285 : Nat) : Int) from f2) rfl)).trans (uRowNe f15 288 (iS (show n1 = ((285 : Nat) : Int) from f2) rfl)))))))
  have e47 : hV H11 285 18 = hV H1 285 18 := ((f42.1.2.1.1 285 18 kF_224_285_18)).trans (((f40.1.2.1.1 285 18 kF_216_285_18)).trans (((uSlot f36 285 18 (iS (show n19 = ((35 : Nat) : Int) from f35) rfl))).trans (((uSlot f29 285 18 (iS (show n15 = ((32 : Nat) : Int) from f28) rfl))).trans (((uSlot f24 285 18 (iS (show n13 = ((15 : Nat) : Int) from f23) rfl))).trans (((uSlot f21 285 18 (iS (show n11 = ((13 : Nat) : Int) from f20) rfl))).trans (((uSlot f18 285 18 (iS (show n9 = ((12 : Nat) : Int) from f17) rfl))).trans (((uSlot f15 285 18 (iS (show n7 = ((11 : Nat) : Int) from f14) rfl))).trans (((f12.1.2.1.1 285 18 kF_214_285_18)).trans (uSlot f11 285 18 (iS (show n5 = ((2 : Nat) : Int) from f10) rfl))))))))))
  have e52 : hV H11 285 32 = n14 := ((f42.1.2.1.1 285 32 kF_224_285_32)).trans (((f40.1.2.1.1 285 32 kF_216_285_32)).trans (((uSlot f36 285 32 (iS (show n19 = ((35 : Nat) : Int) from f35) rfl))).trans (uSame f29 285 32 f2.symm f28.symm)))
  have e56 : hV H11 285 34 = hV H1 285 34 := ((f42.1.2.1.1 285 34 kF_224_285_34)).trans (((f40.1.2.1.1 285 34 kF_216_285_34)).trans (((uSlot f36 285 34 (iS (show n19 = ((35 : Nat) : Int) from f35) rfl))).trans (((uSlot f29 285 34 (iS (show n15 = ((32 : Nat) : Int) from f28) rfl))).trans (((uSlot f24 285 34 (iS (show n13 = ((15 : Nat) : Int) from f23) rfl))).trans (((uSlot f21 285 34 (iS (show n11 = ((13 : Nat) : Int) from f20) rfl))).trans (((uSlot f18 285 34 (iS (show n9 = ((12 : Nat) : Int) from f17) rfl))).trans (((uSlot f15 285 34 (iS (show n7 = ((11 : Nat) : Int) from f14) rfl))).trans (((f12.1.2.1.1 285 34 kF_214_285_34)).trans (uSlot f11 285 34 (iS (show n5 = ((2 : Nat) : Int) from f10) rfl))))))))))
  have e60 : hV H11 285 35 = n18 := ((f42.1.2.1.1 285 35 kF_224_285_35)).trans (((f40.1.2.1.1 285 35 kF_216_285_35)).trans (uSame f36 285 35 f2.symm f35.symm))
  have e79 : hV H11 306 = hV H1 306 := (fRow f42.1.2.1 306 kR_224_306).trans ((fRow f40.1.2.1 306 kR_216_306).trans ((uRowNe f36 306 (iS (show n1 = ((285 : Nat) : Int) from f2) rfl)).trans ((uRowNe f29 306 (iS (show n1 = ((285 : Nat) : Int) from f2) rfl)).trans ((uRowNe f24 306 (iS (show n1 = ((285 : Nat) : Int) from f2) rfl)).trans ((uRowNe f21 306 (iS (show n1 = ((285 : Nat) : Int) from f2) rfl)).trans ((uRowNe f18 306 (iS (show n1 = ((285 : Nat) : Int) from f2) rfl)).trans ((uRowNe f15 306 (iS (show n1 = ((285 : Nat) : Int) from f2) rfl)).trans ((fRow f12.1.2.1 306 kR_214_306).trans (uRowNe f11 306 (iS (show n1 = ((285 : Nat) : Int) from f2) rfl))))))))))
  have e98 : hV H11 307 = hV H1 307 := (fRow f42.1.2.1 307 kR_224_307).trans ((fRow f40.1.2.1 307 kR_216_307).trans ((uRowNe f36 307 (iS (show n1 = ((285 : Nat) : Int) from f2) rfl)).trans ((uRowNe f29 307 (iS (show n1 = ((285 : Nat) : Int) from f2) rfl)).trans ((uRowNe f24 307 (iS (show n1 = ((285 : Nat) : Int) from f2) rfl)).trans ((uRowNe f21 307 (iS (show n1 = ((285 : Nat) : Int) from f2) rfl)).trans ((uRowNe f18 307 (iS (show n1 = ((285 : Nat) : Int) from f2) rfl)).trans ((uRowNe f15 307 (iS (show n1 = ((285 : Nat) : Int) from f2) rfl)).trans ((fRow f12.1.2.1 307 kR_214_307).trans (uRowNe f11 307 (iS (show n1 = ((285 : Nat) : Int) from f2) rfl))))))))))
  have e117 : hV H11 308 = hV H1 308 := (fRow f42.1.2.1 308 kR_224_308).trans ((fRow f40.1.2.1 308 kR_216_308).trans ((uRowNe f36 308 (iS (show n1 = ((285 : Nat) : Int) from f2) rfl)).trans ((uRowNe f29 308 (iS (show n1 = ((285 : Nat) : Int) from f2) rfl)).trans ((uRowNe f24 308 (iS (show n1 = ((285 : Nat) : Int) from f2) rfl)).trans ((uRowNe f21 308 (iS (show n1 = ((285 : Nat) : Int) from f2) rfl)).trans ((uRowNe f18 308 (iS (show n1 = ((285 : Nat) : Int) from f2) rfl)).trans ((uRowNe f15 308 (iS (show n1 = ((285 : Nat) : Int) from f2) rfl)).trans ((fRow f12.1.2.1 308 kR_214_308).trans (uRowNe f11 308 (iS (show n1 = ((285 : Nat) : Int) from f2) rfl))))))))))
  have e136 : hV H11 309 = hV H1 309 := (fRow f42.1.2.1 309 kR_224_309).trans ((fRow f40.1.2.1 309 kR_216_309).trans ((uRowNe f36 309 (iS (show n1 = ((285 : Nat) : Int) from f2) rfl)).trans ((uRowNe f29 309 (iS (show n1 = ((285 : Nat) : Int) from f2) rfl)).trans ((uRowNe f24 309 (iS (show n1 = ((285 : Nat) : Int) from f2) rfl)).trans ((uRowNe f21 309 (iS (show n1 = ((285 : Nat) : Int) from f2) rfl)).trans ((uRowNe f18 309 (iS (show n1 = ((285 : Nat) : Int) from f2) rfl)).trans ((uRowNe f15 309 (iS (show n1 = ((285 : Nat) : Int) from f2) rfl)).trans ((fRow f12.1.2.1 309 kR_214_309).trans (uRowNe f11 309 (iS (show n1 = ((285 : Nat) : Int) from f2) rfl))))))))))
  have e155 : hV H11 310 = hV H1 310 := (fRow f42.1.2.1 310 kR_224_310).trans ((fRow f40.1.2.1 310 kR_216_310).trans ((uRowNe f36 310 (iS (show n1 = ((285 : Nat) : Int) from f2) rfl)).trans ((uRowNe f29 310 (iS (show n1 = ((285 : Nat) : Int) from f2) rfl)).trans ((uRowNe f24 310 (iS (show n1 = ((285 : Nat) : Int) from f2) rfl)).trans ((uRowNe f21 310 (iS (show n1 = ((285 : Nat) : Int) from f2) rfl)).trans ((uRowNe f18 310 (iS (show n1 = ((285 : Nat) : Int) from f2) rfl)).trans ((uRowNe f15 310 (iS (show n1 = ((285 : Nat) : Int) from f2) rfl)).trans ((fRow f12.1.2.1 310 kR_214_310).trans (uRowNe f11 310 (iS (show n1 = ((285 : Nat) : Int) from f2) rfl))))))))))
  have e174 : hV H11 311 = hV H1 311 := (fRow f42.1.2.1 311 kR_224_311).trans ((fRow f40.1.2.1 311 kR_216_311).trans ((uRowNe f36 311 (iS (show n1 = ((285 : Nat) : Int) from f2) rfl)).trans ((uRowNe f29 311 (iS (show n1 = ((285 : Nat) : Int) from f2) rfl)).trans ((uRowNe f24 311 (iS (show n1 = ((285 : Nat) : Int) from f2) rfl)).trans ((uRowNe f21 311 (iS (show n1 = ((285 : Nat) : Int) from f2) rfl)).trans ((uRowNe f18 311 (iS (show n1 = ((285 : Nat) : Int) from f2) rfl)).trans ((uRowNe f15 311 (iS (show n1 = ((285 : Nat) : Int) from f2) rfl)).trans ((fRow f12.1.2.1 311 kR_214_311).trans (uRowNe f11 311 (iS (show n1 = ((285 : Nat) : Int) from f2) rfl))))))))))
  have e193 : hV H11 317 = hV H1 317 := (fRow f42.1.2.1 317 kR_224_317).trans ((fRow f40.1.2.1 317 kR_216_317).trans ((uRowNe f36 317 (iS (show n1 = ((285 : Nat) : Int) from f2) rfl)).trans ((uRowNe f29 317 (iS (show n1 = ((285 : Nat) : Int) from f2) rfl)).trans ((uRowNe f24 317 (iS (show n1 = ((285 : Nat) : Int) from f2) rfl)).trans ((uRowNe f21 317 (iS (show n1 = ((285 : Nat) : Int) from f2) rfl)).trans ((uRowNe f18 317 (iS (show n1 = ((285 : Nat) : Int) from f2) rfl)).trans ((uRowNe f15 317 (iS (show n1 = ((285 : Nat) : Int) from f2) rfl)).trans ((fRow f12.1.2.1 317 kR_214_317).trans (uRowNe f11 317 (iS (show n1 = ((285 : Nat) : Int) from f2) rfl))))))))))
  have e212 : hV H11 318 = hV H1 318 := (fRow f42.1.2.1 318 kR_224_318).trans ((fRow f40.1.2.1 318 kR_216_318).trans ((uRowNe f36 318 (iS (show n1 = ((285 : Nat) : Int) from f2) rfl)).trans ((uRowNe f29 318 (iS (show n1 = ((285 : Nat) : Int) from f2) rfl)).trans ((uRowNe f24 318 (iS (show n1 = ((285 : Nat) : Int) from f2) rfl)).trans ((uRowNe f21 318 (iS (show n1 = ((285 : Nat) : Int) from f2) rfl)).trans ((uRowNe f18 318 (iS (show n1 = ((285 : Nat) : Int) from f2) rfl)).trans ((uRowNe f15 318 (iS (show n1 = ((285 : Nat) : Int) from f2) rfl)).trans ((fRow f12.1.2.1 318 kR_214_318).trans (uRowNe f11 318 (iS (show n1 = ((285 : Nat) : Int) from f2) rfl))))))))))
  have e231 : hV H11 319 = hV H1 319 := (fRow f42.1.2.1 319 kR_224_319).trans ((fRow f40.1.2.1 319 kR_216_319).trans ((uRowNe f36 319 (iS (show n1 = ((285 : Nat) : Int) from f2) rfl)).trans ((uRowNe f29 319 (iS (show n1 = ((285 : Nat) : Int) from f2) rfl)).trans ((uRowNe f24 319 (iS (show n1 = ((285 : Nat) : Int) from f2) rfl)).trans ((uRowNe f21 319 (iS (show n1 = ((285 : Nat) : Int) from f2) rfl)).trans ((uRowNe f18 319 (iS (show n1 = ((285 : Nat) : Int) from f2) rfl)).trans ((uRowNe f15 319 (iS (show n1 = ((285 : Nat) : Int) from f2) rfl)).trans ((fRow f12.1.2.1 319 kR_214_319).trans (uRowNe f11 319 (iS (show n1 = ((285 : Nat) : Int) from f2) rfl))))))))))
  have e250 : hV H11 320 = hV H1 320 := (fRow f42.1.2.1 320 kR_224_320).trans ((fRow f40.1.2.1 320 kR_216_320).trans ((uRowNe f36 320 (iS (show n1 = ((285 : Nat) : Int) from f2) rfl)).trans ((uRowNe f29 320 (iS (show n1 = ((285 : Nat) : Int) from f2) rfl)).trans ((uRowNe f24 320 (iS (show n1 = ((285 : Nat) : Int) from f2) rfl)).trans ((uRowNe f21 320 (iS (show n1 = ((285 : Nat) : Int) from f2) rfl)).trans ((uRowNe f18 320 (iS (show n1 = ((285 : Nat) : Int) from f2) rfl)).trans ((uRowNe f15 320 (iS (show n1 = ((285 : Nat) : Int) from f2) rfl)).trans ((fRow f12.1.2.1 320 kR_214_320).trans (uRowNe f11 320 (iS (show n1 = ((285 : Nat) : Int) from f2) rfl))))))))))
  have e269 : hV H11 321 = hV H1 321 := (fRow f42.1.2.1 321 kR_224_321).trans ((fRow f40.1.2.1 321 kR_216_321).trans ((uRowNe f36 321 (iS (show n1 = ((285 : Nat) : Int) from f2) rfl)).trans ((uRowNe f29 321 (iS (show n1 = ((285 : Nat) : Int) from f2) rfl)).trans ((uRowNe f24 321 (iS (show n1 = ((285 : Nat) : Int) from f2) rfl)).trans ((uRowNe f21 321 (iS (show n1 = ((285 : Nat) : Int) from f2) rfl)).trans ((uRowNe f18 321 (iS (show n1 = ((285 : Nat) : Int) from f2) rfl)).trans ((uRowNe f15 321 (iS (show n1 = ((285 : Nat) : Int) from f2) rfl)).trans ((fRow f12.1.2.1 321 kR_214_321).trans (uRowNe f11 321 (iS (show n1 = ((285 : Nat) : Int) from f2) rfl))))))))))
  have e270 : RN H2 = RN H1 := RN_upF f11 f2 (show n5 = ((2 : Nat) : Int) from f10) (by decide)
  have e271 : RN H3 = RN H2 := RN_fr f12.1.2.1 (by decide +kernel)
  have e272 : RN H3 = RN H1 := e271.trans e270
  have e273 : RN H4 = RN H3 := RN_upF f15 f2 (show n7 = ((11 : Nat) : Int) from f14) (by decide)
  have e274 : RN H4 = RN H1 := e273.trans e272
  have e275 : RN H5 = RN H4 := RN_upF f18 f2 (show n9 = ((12 : Nat) : Int) from f17) (by decide)
  have e276 : RN H5 = RN H1 := e275.trans e274
  have e277 : RN H6 = RN H5 := RN_upF f21 f2 (show n11 = ((13 : Nat) : Int) from f20) (by decide)
  have e278 : RN H6 = RN H1 := e277.trans e276
  have e279 : RN H7 = RN H6 := RN_upF f24 f2 (show n13 = ((15 : Nat) : Int) from f23) (by decide)
  have e280 : RN H7 = RN H1 := e279.trans e278
  have e281 : RN H8 = RN H7 := RN_upF f29 f2 (show n15 = ((32 : Nat) : Int) from f28) (by decide)
  have e282 : RN H8 = RN H1 := e281.trans e280
  have e283 : RN H9 = RN H8 := RN_upF f36 f2 (show n19 = ((35 : Nat) : Int) from f35) (by decide)
  have e284 : RN H9 = RN H1 := e283.trans e282
  have e285 : RN H10 = RN H9 := RN_fr f40.1.2.1 (by decide +kernel)
  have e286 : RN H10 = RN H1 := e285.trans e284
  have e287 : RN H11 = RN H10 := RN_fr f42.1.2.1 (by decide +kernel)
  have e288 : RN H11 = RN H1 := e287.trans e286
  have e289 : RV H2 = RV H1 := RV_upF f11 f2 (show n5 = ((2 : Nat) : Int) from f10) (by decide)
  have e290 : RV H3 = RV H2 := RV_fr f12.1.2.1 (by decide +kernel)
  have e291 : RV H3 = RV H1 := e290.trans e289
  have e292 : RV H4 = RV H3 := RV_upF f15 f2 (show n7 = ((11 : Nat) : Int) from f14) (by decide)
  have e293 : RV H4 = RV H1 := e292.trans e291
  have e294 : RV H5 = RV H4 := RV_upF f18 f2 (show n9 = ((12 : Nat) : Int) from f17) (by decide)
  have e295 : RV H5 = RV H1 := e294.trans e293
  have e296 : RV H6 = RV H5 := RV_upF f21 f2 (show n11 = ((13 : Nat) : Int) from f20) (by decide)
  have e297 : RV H6 = RV H1 := e296.trans e295
  have e298 : RV H7 = RV H6 := RV_upF f24 f2 (show n13 = ((15 : Nat) : Int) from f23) (by decide)
  have e299 : RV H7 = RV H1 := e298.trans e297
  have e300 : RV H8 = RV H7 := RV_upF f29 f2 (show n15 = ((32 : Nat) : Int) from f28) (by decide)
  have e301 : RV H8 = RV H1 := e300.trans e299
  have e302 : RV H9 = RV H8 := RV_upF f36 f2 (show n19 = ((35 : Nat) : Int) from f35) (by decide)
  have e303 : RV H9 = RV H1 := e302.trans e301
  have e304 : RV H10 = RV H9 := RV_fr f40.1.2.1 (by decide +kernel)
  have e305 : RV H10 = RV H1 := e304.trans e303
  have e306 : RV H11 = RV H10 := RV_fr f42.1.2.1 (by decide +kernel)
  have e307 : RV H11 = RV H1 := e306.trans e305
  have e308 : SO H2 = SO H1 := SO_upF f11 f2 (show n5 = ((2 : Nat) : Int) from f10) (by decide)
  have e309 : SO H3 = SO H2 := SO_fr f12.1.2.1 (by decide +kernel)
  have e310 : SO H3 = SO H1 := e309.trans e308
  have e311 : SO H4 = SO H3 := SO_upF f15 f2 (show n7 = ((11 : Nat) : Int) from f14) (by decide)
  have e312 : SO H4 = SO H1 := e311.trans e310
  have e313 : SO H5 = SO H4 := SO_upF f18 f2 (show n9 = ((12 : Nat) : Int) from f17) (by decide)
  have e314 : SO H5 = SO H1 := e313.trans e312
  have e315 : SO H6 = SO H5 := SO_upF f21 f2 (show n11 = ((13 : Nat) : Int) from f20) (by decide)
  have e316 : SO H6 = SO H1 := e315.trans e314
  have e317 : SO H7 = SO H6 := SO_upF f24 f2 (show n13 = ((15 : Nat) : Int) from f23) (by decide)
  have e318 : SO H7 = SO H1 := e317.trans e316
  have e319 : SO H8 = SO H7 := SO_upF f29 f2 (show n15 = ((32 : Nat) : Int) from f28) (by decide)
  have e320 : SO H8 = SO H1 := e319.trans e318
  have e321 : SO H9 = SO H8 := SO_upF f36 f2 (show n19 = ((35 : Nat) : Int) from f35) (by decide)
  have e322 : SO H9 = SO H1 := e321.trans e320
  have e323 : SO H10 = SO H9 := SO_fr f40.1.2.1 (by decide +kernel)
  have e324 : SO H10 = SO H1 := e323.trans e322
  have e325 : SO H11 = SO H10 := SO_fr f42.1.2.1 (by decide +kernel)
  have e326 : SO H11 = SO H1 := e325.trans e324
  have e327 : (0 : Int) ≤ hV H1 285 11 ∧ hV H1 285 11 ≤ 500 := f4.1.2.2 285 11 _ _ kW_285_11
  have e328 : (0 : Int) ≤ hV H1 285 13 ∧ hV H1 285 13 ≤ 2 := f4.1.2.2 285 13 _ _ kW_285_13
  have e329 : (0 : Int) ≤ hV H1 285 15 ∧ hV H1 285 15 ≤ 6 := f4.1.2.2 285 15 _ _ kW_285_15
  have e330 : (0 : Int) ≤ hV H1 285 18 ∧ hV H1 285 18 ≤ 8 := f4.1.2.2 285 18 _ _ kW_285_18
  have e331 : (0 : Int) ≤ hV H1 285 32 ∧ hV H1 285 32 ≤ 7 := f4.1.2.2 285 32 _ _ kW_285_32
  have e332 : (0 : Int) ≤ hV H1 285 34 ∧ hV H1 285 34 ≤ 1 := f4.1.2.2 285 34 _ _ kW_285_34
  have e333 : (0 : Int) ≤ hV H1 285 35 ∧ hV H1 285 35 ≤ 1 := f4.1.2.2 285 35 _ _ kW_285_35
  have e334 : (0 : Int) ≤ hV H10 285 11 ∧ hV H10 285 11 ≤ 500 := f40.1.2.2.2 285 11 _ _ kW_285_11
  have e335 : (0 : Int) ≤ hV H10 285 13 ∧ hV H10 285 13 ≤ 2 := f40.1.2.2.2 285 13 _ _ kW_285_13
  have e336 : (0 : Int) ≤ hV H11 285 13 ∧ hV H11 285 13 ≤ 2 := f42.1.2.2.2 285 13 _ _ kW_285_13
  have e337 : (0 : Int) ≤ hV H11 285 15 ∧ hV H11 285 15 ≤ 6 := f42.1.2.2.2 285 15 _ _ kW_285_15
  have e339 : (0 : Int) ≤ hV H11 285 32 ∧ hV H11 285 32 ≤ 7 := f42.1.2.2.2 285 32 _ _ kW_285_32
  have e341 : (0 : Int) ≤ hV H11 285 35 ∧ hV H11 285 35 ≤ 1 := f42.1.2.2.2 285 35 _ _ kW_285_35
  try simp only [RR]
  try simp only [e23] at e334
  try simp only [e29] at e335
  try simp only [e52] at e339
  try simp only [e60] at e341
  try simp only [e47, e52, e56, e60, e79, e98, e117, e136, e155, e174, e193, e212, e231, e250, e269, e288, e307, e326]
  have y0 := g4.1
  have y1 := g4.2.1
  have y2 := g4.2.2.1
  have y3 := g4.2.2.2.1
  have y4 := g4.2.2.2.2.1
  have y5 := g4.2.2.2.2.2.1
  have y6 := g4.2.2.2.2.2.2
  have p0 := g3.1
  have p1 := g3.2.1
  have p2 := g3.2.2.1
  have p3 := g3.2.2.2.1
  have p4 := g3.2.2.2.2.1
  have p5 := g3.2.2.2.2.2
  have r1_0 := f40.2.1
  have r1_1 := f40.2.2
  have r2_0 := f42.2.1
  have r2_1 := f42.2.2.1
  have r2_2 := f42.2.2.2
  try simp only [e29] at r1_0
  try simp only [e23, e29, e42] at r1_1
  try simp only [e52] at r2_2
  clear g3
  clear g4
  clear f7 f27 f33 e42 e47 e56 e79 e98 e117 e136 e155 e174 e193 e212 e231 e250 e269 e270 e271 e272 e273 e274 e275 e276 e277 e278 e279 e280 e281 e282 e283 e284 e285 e286 e287 e288 e289 e290 e291 e292 e293 e294 e295 e296 e297 e298 e299 e300 e301 e302 e303 e304 e305 e306 e307 e308 e309 e310 e311 e312 e313 e314 e315 e316 e317 e318 e319 e320 e321 e322 e323 e324 e325 e326
  clear f4 f12 f40 f42
  subst e0
  subst e7
  subst e15
  first
  | (have ix0 : n18 = 1 - (hV H1 285 34) := Eq.trans f34 (w32_iv (Isu (IC 1) (Iat f32 f31)) (by decide)); subst ix0; clear f34)
  | (have ix0 : n18 = 1 - (hV H1 285 34) := Eq.trans f34 (w32_id (by omega) (by omega)); subst ix0; clear f34)
  | (unfold w32 at f34; have ix0 : n18 = 1 - (hV H1 285 34) := (by omega); subst ix0)
  | skip
  try unfold w32 at f34

  refine ⟨⟨?_, ?_, ?_, ?_, ?_, ?_, ?_, ?_, ?_, ?_, ?_⟩, fun q hq => ?_⟩
  · exact (r2_0).1
  · exact (r2_0).2
  · exact r2_1
  · exact y3
  · exact y4
  · exact y5
  · first | trivial | omega
  · first | trivial | omega
  · first | trivial | omega
  · intro a b c
    exact r2_2 (by omega) (by omega)
  · intro a b
    omega
  · have g6 := Option.some.inj hq
    subst g6
    omega
def g_221_22_4 : vG := ([(1224, [1], [10, 11], 0), (30, [21], [], 0), (1216, [21, 1, 20], [9, 10], 0), (90, [21], [], 0), (91, [21], [], 1), (0, [20], [], 23), (80, [1, 19, 18], [9, 8], 0), (0, [19], [], 35), (2, [18, 16, 17], [], 0), (20, [17, 1], [8], 34), (90, [17], [], 0), (91, [17], [], 1), (0, [16], [], 1), (80, [1, 15, 14], [8, 7], 0), (0, [15], [], 32), (20, [14, 1], [7], 18), (90, [14], [], 0), (91, [14], [], 8), (80, [1, 13, 12], [7, 6], 0), (0, [13], [], 15), (0, [12], [], 0), (80, [1, 11, 10], [6, 5], 0), (0, [11], [], 13), (0, [10], [], 0), (80, [1, 9, 8], [5, 4], 0), (0, [9], [], 12), (0, [8], [], 0), (80, [1, 7, 6], [4, 3], 0), (0, [7], [], 11), (0, [6], [], 0), (1214, [1], [2, 3], 0), (80, [1, 5, 4], [2, 1], 0), (0, [5], [], 2), (0, [4], [], 0), (43, [2, 3], [], 0), (20, [3, 1], [1], 4), (90, [3], [], 0), (91, [3], [], 2000), (5000, [0, 1, 2], [0, 1], 22), (0, [0], [], 285), (0, [1], [], 285), (90, [2], [], 0), (91, [2], [], 2000)], (4000, [1, 21], [11], 117))
theorem c_221_22_4 {q0 : Nat} : vOkm T0 (eP e_221 L_221 A_221 mu_221 (some q0)) 1 g_221_22_4 := vOk_inI fun ρ η f0 f1 f2 f3 f4 f5 f6 f7 f8 f9 f10 f11 f12 f13 f14 f15 f16 f17 f18 f19 f20 f21 f22 f23 f24 f25 f26 f27 f28 f29 f30 f31 f32 f33 f34 f35 f36 f37 f38 f39 f40 f41 f42 => q_221_6 (q0 := q0) (n0 := ρ 2) (n1 := ρ 1) (n2 := ρ 0) (n3 := ρ 3) (n4 := ρ 4) (n5 := ρ 5) (n6 := ρ 6) (n7 := ρ 7) (n8 := ρ 8) (n9 := ρ 9) (n10 := ρ 10) (n11 := ρ 11) (n12 := ρ 12) (n13 := ρ 13) (n14 := ρ 14) (n15 := ρ 15) (n16 := ρ 16) (n17 := ρ 17) (n18 := ρ 18) (n19 := ρ 19) (n20 := ρ 20) (n21 := ρ 21) (H0 := η 0) (H1 := η 1) (H2 := η 2) (H3 := η 3) (H4 := η 4) (H5 := η 5) (H6 := η 6) (H7 := η 7) (H8 := η 8) (H9 := η 9) (H10 := η 10) (H11 := η 11) f42 f41 f40 f39 f38 f37 f36 f35 f34 f33 f32 f31 f30 f29 f28 f27 f26 f25 f24 f23 f22 f21 f20 f19 f18 f17 f16 f15 f14 f13 f12 f11 f10 f9 f8 f7 f6 f5 f4 f3 f2 f1 f0
theorem q_221_7 {q0 : Nat} {n0 n1 n2 n3 n4 n5 n6 n7 n8 n9 n10 n11 n12 n13 n14 n15 n16 n17 n18 n19 n20 n21 : Int} {H0 H1 H2 H3 H4 H5 H6 H7 H8 H9 H10 : gH} (f0 : n0 ≤ 2000) (f1 : 0 ≤ n0) (f2 : n1 = 285) (f3 : n2 = 285) (f4 : (hLe T0 H0 H1 ∧ hFr s_221.2.2.2.2 H0 H1 ∧ hWt T0 H1) ∧ (Ab_221_22 n2 n1 n0 H0 H1 ∧ preb_221 n2 H0) ∧ some q0 = some (mub_221_22 n2 n1 n0 H0 H1)) (f5 : n3 ≤ 2000) (f6 : 0 ≤ n3) (f7 : n3 = hV H1 (n1).toNat 4) (f8 : n3 ≤ n0) (f9 : n4 = 0) (f10 : n5 = 2) (f11 : hUpd H2 H1 n1 n5 n4) (f12 : (hLe T0 H2 H3 ∧ hFr s_214.2.2.2.2 H2 H3 ∧ ((0 : Int) = 0 → H3.length = H2.length) ∧ hWt T0 H3) ∧ True) (f13 : n6 = 0) (f14 : n7 = 11) (f15 : hUpd H4 H3 n1 n7 n6) (f16 : n8 = 0) (f17 : n9 = 12) (f18 : hUpd H5 H4 n1 n9 n8) (f19 : n10 = 0) (f20 : n11 = 13) (f21 : hUpd H6 H5 n1 n11 n10) (f22 : n12 = 0) (f23 : n13 = 15) (f24 : hUpd H7 H6 n1 n13 n12) (f25 : n14 ≤ 8) (f26 : 0 ≤ n14) (f27 : n14 = hV H7 (n1).toNat 18) (f28 : n15 = 32) (f29 : hUpd H8 H7 n1 n15 n14) (f30 : n16 = 1) (f31 : n17 ≤ 1) (f32 : 0 ≤ n17) (f33 : n17 = hV H8 (n1).toNat 34) (f34 : n18 = w32 (n16 - n17)) (f35 : n19 = 35) (f36 : hUpd H9 H8 n1 n19 n18) (f37 : n20 = 23) (f38 : n21 ≤ 1) (f39 : 0 ≤ n21) (f40 : (hLe T0 H9 H10 ∧ hFr s_216.2.2.2.2 H9 H10 ∧ ((0 : Int) = 0 → H10.length = H9.length) ∧ hWt T0 H10) ∧ postb_216 n21 n1 n20 H9 H10) (f41 : n21 ≠ 0) : preb_231 n1 H10 := by
  have g4 := f4.2.1.1
  unfold Ab_221_22 at g4
  have g3 := f4.2.1.2
  unfold preb_221 at g3
  unfold postb_216 at f40
  unfold preb_231
  have e0 : n3 = hV H1 285 4 := (by rw [f2] at f7; exact f7 : n3 = hV H1 285 4)
  have e7 : n14 = hV H1 285 18 := (by rw [f2] at f27; exact f27 : n14 = hV H7 285 18).trans (((uSlot f24 285 18 (iS (show n13 = ((15 : Nat) : Int) from f23) rfl))).trans (((uSlot f21 285 18 (iS (show n11 = ((13 : Nat) : Int) from f20) rfl))).trans (((uSlot f18 285 18 (iS (show n9 = ((12 : Nat) : Int) from f17) rfl))).trans (((uSlot f15 285 18 (iS (show n7 = ((11 : Nat) : Int) from f14) rfl))).trans (((f12.1.2.1.1 285 18 kF_214_285_18)).trans (uSlot f11 285 18 (iS (show n5 = ((2 : Nat) : Int) from f10) rfl)))))))
  have e15 : n17 = hV H1 285 34 := (by rw [f2] at f33; exact f33 : n17 = hV H8 285 34).trans (((uSlot f29 285 34 (iS (show n15 = ((32 : Nat) : Int) from f28) rfl))).trans (((uSlot f24 285 34 (iS (show n13 = ((15 : Nat) : Int) from f23) rfl))).trans (((uSlot f21 285 34 (iS (show n11 = ((13 : Nat) : Int) from f20) rfl))).trans (((uSlot f18 285 34 (iS (show n9 = ((12 : Nat) : Int) from f17) rfl))).trans (((uSlot f15 285 34 (iS (show n7 = ((11 : Nat) : Int) from f14) rfl))).trans (((f12.1.2.1.1 285 34 kF_214_285_34)).trans (uSlot f11 285 34 (iS (show n5 = ((2 : Nat) : Int) from f10) rfl))))))))
  have e23 : hV H10 285 11 = n6 := ((f40.1.2.1.1 285 11 kF_216_285_11)).trans (((uSlot f36 285 11 (iS (show n19 = ((35 : Nat) : Int) from f35) rfl))).trans (((uSlot f29 285 11 (iS (show n15 = ((32 : Nat) : Int) from f28) rfl))).trans (((uSlot f24 285 11 (iS (show n13 = ((15 : Nat) : Int) from f23) rfl))).trans (((uSlot f21 285 11 (iS (show n11 = ((13 : Nat) : Int) from f20) rfl))).trans (((uSlot f18 285 11 (iS (show n9 = ((12 : Nat) : Int) from f17) rfl))).trans (uSame f15 285 11 f2.symm f14.symm))))))
  have e30 : hV H10 285 12 = n8 := ((f40.1.2.1.1 285 12 kF_216_285_12)).trans (((uSlot f36 285 12 (iS (show n19 = ((35 : Nat) : Int) from f35) rfl))).trans (((uSlot f29 285 12 (iS (show n15 = ((32 : Nat) : Int) from f28) rfl))).trans (((uSlot f24 285 12 (iS (show n13 = ((15 : Nat) : Int) from f23) rfl))).trans (((uSlot f21 285 12 (iS (show n11 = ((13 : Nat) : Int) from f20) rfl))).trans (uSame f18 285 12 f2.symm f17.symm)))))
  have e36 : hV H10 285 13 = n10 := ((f40.1.2.1.1 285 13 kF_216_285_13)).trans (((uSlot f36 285 13 (iS (show n19 = ((35 : Nat) : Int) from f35) rfl))).trans (((uSlot f29 285 13 (iS (show n15 = ((32 : Nat) : Int) from f28) rfl))).trans (((uSlot f24 285 13 (iS (show n13 = ((15 : Nat) : Int) from f23) rfl))).trans (uSame f21 285 13 f2.symm f20.symm))))
  have e39 : hV H10 285 34 = hV H1 285 34 := ((f40.1.2.1.1 285 34 kF_216_285_34)).trans (((uSlot f36 285 34 (iS (show n19 = ((35 : Nat) : Int) from f35) rfl))).trans (((uSlot f29 285 34 (iS (show n15 = ((32 : Nat) : Int) from f28) rfl))).trans (((uSlot f24 285 34 (iS (show n13 = ((15 : Nat) : Int) from f23) rfl))).trans (((uSlot f21 285 34 (iS (show n11 = ((13 : Nat) : Int) from f20) rfl))).trans (((uSlot f18 285 34 (iS (show n9 = ((12 : Nat) : Int) from f17) rfl))).trans (((uSlot f15 285 34 (iS (show n7 = ((11 : Nat) : Int) from f14) rfl))).trans (((f12.1.2.1.1 285 34 kF_214_285_34)).trans (uSlot f11 285 34 (iS (show n5 = ((2 : Nat) : Int) from f10) rfl)))))))))
  have e42 : hV H10 285 35 = n18 := ((f40.1.2.1.1 285 35 kF_216_285_35)).trans (uSame f36 285 35 f2.symm f35.symm)
  have e55 : hV H10 288 = hV H3 288 := (fRow f40.1.2.1 288 kR_216_288).trans ((uRowNe f36 288 (iS (show n1 = ((285 : Nat) : Int) from f2) rfl)).trans ((uRowNe f29 288 (iS (show n1 = ((285 : Nat) : Int) from f2) rfl)).trans ((uRowNe f24 288 (iS (show n1 = ((285 : Nat) : Int) from f2) rfl)).trans ((uRowNe f21 288 (iS (show n1 = ((285 : Nat) : Int) from f2) rfl)).trans ((uRowNe f18 288 (iS (show n1 = ((285 : Nat) : Int) from f2) rfl)).trans (uRowNe f15 288 (iS (show n1 = ((285 : Nat) : Int) from f2) rfl)))))))
  have e56 : RN H2 = RN H1 := RN_upF f11 f2 (show n5 = ((2 : Nat) : Int) from f10) (by decide)
  have e57 : RN H3 = RN H2 := RN_fr f12.1.2.1 (by decide +kernel)
  have e58 : RN H3 = RN H1 := e57.trans e56
  have e59 : RN H4 = RN H3 := RN_upF f15 f2 (show n7 = ((11 : Nat) : Int) from f14) (by decide)
  have e60 : RN H4 = RN H1 := e59.trans e58
  have e61 : RN H5 = RN H4 := RN_upF f18 f2 (show n9 = ((12 : Nat) : Int) from f17) (by decide)
  have e62 : RN H5 = RN H1 := e61.trans e60
  have e63 : RN H6 = RN H5 := RN_upF f21 f2 (show n11 = ((13 : Nat) : Int) from f20) (by decide)
  have e64 : RN H6 = RN H1 := e63.trans e62
  have e65 : RN H7 = RN H6 := RN_upF f24 f2 (show n13 = ((15 : Nat) : Int) from f23) (by decide)
  have e66 : RN H7 = RN H1 := e65.trans e64
  have e67 : RN H8 = RN H7 := RN_upF f29 f2 (show n15 = ((32 : Nat) : Int) from f28) (by decide)
  have e68 : RN H8 = RN H1 := e67.trans e66
  have e69 : RN H9 = RN H8 := RN_upF f36 f2 (show n19 = ((35 : Nat) : Int) from f35) (by decide)
  have e70 : RN H9 = RN H1 := e69.trans e68
  have e71 : RN H10 = RN H9 := RN_fr f40.1.2.1 (by decide +kernel)
  have e72 : RN H10 = RN H1 := e71.trans e70
  have e73 : RV H2 = RV H1 := RV_upF f11 f2 (show n5 = ((2 : Nat) : Int) from f10) (by decide)
  have e74 : RV H3 = RV H2 := RV_fr f12.1.2.1 (by decide +kernel)
  have e75 : RV H3 = RV H1 := e74.trans e73
  have e76 : RV H4 = RV H3 := RV_upF f15 f2 (show n7 = ((11 : Nat) : Int) from f14) (by decide)
  have e77 : RV H4 = RV H1 := e76.trans e75
  have e78 : RV H5 = RV H4 := RV_upF f18 f2 (show n9 = ((12 : Nat) : Int) from f17) (by decide)
  have e79 : RV H5 = RV H1 := e78.trans e77
  have e80 : RV H6 = RV H5 := RV_upF f21 f2 (show n11 = ((13 : Nat) : Int) from f20) (by decide)
  have e81 : RV H6 = RV H1 := e80.trans e79
  have e82 : RV H7 = RV H6 := RV_upF f24 f2 (show n13 = ((15 : Nat) : Int) from f23) (by decide)
  have e83 : RV H7 = RV H1 := e82.trans e81
  have e84 : RV H8 = RV H7 := RV_upF f29 f2 (show n15 = ((32 : Nat) : Int) from f28) (by decide)
  have e85 : RV H8 = RV H1 := e84.trans e83
  have e86 : RV H9 = RV H8 := RV_upF f36 f2 (show n19 = ((35 : Nat) : Int) from f35) (by decide)
  have e87 : RV H9 = RV H1 := e86.trans e85
  have e88 : RV H10 = RV H9 := RV_fr f40.1.2.1 (by decide +kernel)
  have e89 : RV H10 = RV H1 := e88.trans e87
  have e90 : (0 : Int) ≤ hV H1 285 11 ∧ hV H1 285 11 ≤ 500 := f4.1.2.2 285 11 _ _ kW_285_11
  have e91 : (0 : Int) ≤ hV H1 285 12 ∧ hV H1 285 12 ≤ 7 := f4.1.2.2 285 12 _ _ kW_285_12
  have e92 : (0 : Int) ≤ hV H1 285 13 ∧ hV H1 285 13 ≤ 2 := f4.1.2.2 285 13 _ _ kW_285_13
  have e93 : (0 : Int) ≤ hV H1 285 18 ∧ hV H1 285 18 ≤ 8 := f4.1.2.2 285 18 _ _ kW_285_18
  have e94 : (0 : Int) ≤ hV H1 285 34 ∧ hV H1 285 34 ≤ 1 := f4.1.2.2 285 34 _ _ kW_285_34
  have e95 : (0 : Int) ≤ hV H1 285 35 ∧ hV H1 285 35 ≤ 1 := f4.1.2.2 285 35 _ _ kW_285_35
  have e96 : (0 : Int) ≤ hV H10 285 11 ∧ hV H10 285 11 ≤ 500 := f40.1.2.2.2 285 11 _ _ kW_285_11
  have e97 : (0 : Int) ≤ hV H10 285 12 ∧ hV H10 285 12 ≤ 7 := f40.1.2.2.2 285 12 _ _ kW_285_12
  have e98 : (0 : Int) ≤ hV H10 285 13 ∧ hV H10 285 13 ≤ 2 := f40.1.2.2.2 285 13 _ _ kW_285_13
  have e100 : (0 : Int) ≤ hV H10 285 35 ∧ hV H10 285 35 ≤ 1 := f40.1.2.2.2 285 35 _ _ kW_285_35
  try simp only [e23] at e96
  try simp only [e30] at e97
  try simp only [e36] at e98
  try simp only [e42] at e100
  try simp only [e23, e30, e39, e42, e72, e89]
  have y0 := g4.1
  have y1 := g4.2.1
  have y2 := g4.2.2.1
  have y3 := g4.2.2.2.1
  have y4 := g4.2.2.2.2.1
  have y5 := g4.2.2.2.2.2.1
  have y6 := g4.2.2.2.2.2.2
  have p0 := g3.1
  have p1 := g3.2.1
  have p2 := g3.2.2.1
  have p3 := g3.2.2.2.1
  have p4 := g3.2.2.2.2.1
  have p5 := g3.2.2.2.2.2
  have r1_0 := f40.2.1
  have r1_1 := f40.2.2
  try simp only [e36] at r1_0
  try simp only [e23, e36, e55] at r1_1
  clear g3
  clear g4
  clear f7 f27 f33 e39 e55 e56 e57 e58 e59 e60 e61 e62 e63 e64 e65 e66 e67 e68 e69 e70 e71 e72 e73 e74 e75 e76 e77 e78 e79 e80 e81 e82 e83 e84 e85 e86 e87 e88 e89
  clear f4 f12 f40
  subst e0
  subst e7
  subst e15
  first
  | (have ix0 : n18 = 1 - (hV H1 285 34) := Eq.trans f34 (w32_iv (Isu (IC 1) (Iat f32 f31)) (by decide)); subst ix0; clear f34)
  | (have ix0 : n18 = 1 - (hV H1 285 34) := Eq.trans f34 (w32_id (by omega) (by omega)); subst ix0; clear f34)
  | (unfold w32 at f34; have ix0 : n18 = 1 - (hV H1 285 34) := (by omega); subst ix0)
  | skip
  try unfold w32 at f34
  refine ⟨?_, ?_, ?_, ?_, ?_⟩ <;> first | assumption | omega | trivial
def g_221_22_5 : vG := ([(31, [21], [], 0), (1216, [21, 1, 20], [9, 10], 0), (90, [21], [], 0), (91, [21], [], 1), (0, [20], [], 23), (80, [1, 19, 18], [9, 8], 0), (0, [19], [], 35), (2, [18, 16, 17], [], 0), (20, [17, 1], [8], 34), (90, [17], [], 0), (91, [17], [], 1), (0, [16], [], 1), (80, [1, 15, 14], [8, 7], 0), (0, [15], [], 32), (20, [14, 1], [7], 18), (90, [14], [], 0), (91, [14], [], 8), (80, [1, 13, 12], [7, 6], 0), (0, [13], [], 15), (0, [12], [], 0), (80, [1, 11, 10], [6, 5], 0), (0, [11], [], 13), (0, [10], [], 0), (80, [1, 9, 8], [5, 4], 0), (0, [9], [], 12), (0, [8], [], 0), (80, [1, 7, 6], [4, 3], 0), (0, [7], [], 11), (0, [6], [], 0), (1214, [1], [2, 3], 0), (80, [1, 5, 4], [2, 1], 0), (0, [5], [], 2), (0, [4], [], 0), (43, [2, 3], [], 0), (20, [3, 1], [1], 4), (90, [3], [], 0), (91, [3], [], 2000), (5000, [0, 1, 2], [0, 1], 22), (0, [0], [], 285), (0, [1], [], 285), (90, [2], [], 0), (91, [2], [], 2000)], (2231, [1], [10], 0))
theorem c_221_22_5 {q0 : Nat} : vOkm T0 (eP e_221 L_221 A_221 mu_221 (some q0)) 1 g_221_22_5 := vOk_inI fun ρ η f0 f1 f2 f3 f4 f5 f6 f7 f8 f9 f10 f11 f12 f13 f14 f15 f16 f17 f18 f19 f20 f21 f22 f23 f24 f25 f26 f27 f28 f29 f30 f31 f32 f33 f34 f35 f36 f37 f38 f39 f40 f41 => q_221_7 (q0 := q0) (n0 := ρ 2) (n1 := ρ 1) (n2 := ρ 0) (n3 := ρ 3) (n4 := ρ 4) (n5 := ρ 5) (n6 := ρ 6) (n7 := ρ 7) (n8 := ρ 8) (n9 := ρ 9) (n10 := ρ 10) (n11 := ρ 11) (n12 := ρ 12) (n13 := ρ 13) (n14 := ρ 14) (n15 := ρ 15) (n16 := ρ 16) (n17 := ρ 17) (n18 := ρ 18) (n19 := ρ 19) (n20 := ρ 20) (n21 := ρ 21) (H0 := η 0) (H1 := η 1) (H2 := η 2) (H3 := η 3) (H4 := η 4) (H5 := η 5) (H6 := η 6) (H7 := η 7) (H8 := η 8) (H9 := η 9) (H10 := η 10) f41 f40 f39 f38 f37 f36 f35 f34 f33 f32 f31 f30 f29 f28 f27 f26 f25 f24 f23 f22 f21 f20 f19 f18 f17 f16 f15 f14 f13 f12 f11 f10 f9 f8 f7 f6 f5 f4 f3 f2 f1 f0
theorem kR_231_294 : vFreeR s_231.2.2.2.2 294 = true := by decide +kernel
theorem kR_214_294 : vFreeR s_214.2.2.2.2 294 = true := by decide +kernel
theorem kR_231_296 : vFreeR s_231.2.2.2.2 296 = true := by decide +kernel
theorem kR_214_296 : vFreeR s_214.2.2.2.2 296 = true := by decide +kernel
theorem kR_231_298 : vFreeR s_231.2.2.2.2 298 = true := by decide +kernel
theorem kR_214_298 : vFreeR s_214.2.2.2.2 298 = true := by decide +kernel
theorem kR_231_300 : vFreeR s_231.2.2.2.2 300 = true := by decide +kernel
theorem kR_214_300 : vFreeR s_214.2.2.2.2 300 = true := by decide +kernel
theorem kR_231_301 : vFreeR s_231.2.2.2.2 301 = true := by decide +kernel
theorem kR_214_301 : vFreeR s_214.2.2.2.2 301 = true := by decide +kernel
theorem kR_231_302 : vFreeR s_231.2.2.2.2 302 = true := by decide +kernel
theorem kR_214_302 : vFreeR s_214.2.2.2.2 302 = true := by decide +kernel
theorem kR_231_303 : vFreeR s_231.2.2.2.2 303 = true := by decide +kernel
theorem kR_214_303 : vFreeR s_214.2.2.2.2 303 = true := by decide +kernel
theorem kR_231_305 : vFreeR s_231.2.2.2.2 305 = true := by decide +kernel
theorem kR_214_305 : vFreeR s_214.2.2.2.2 305 = true := by decide +kernel
theorem kF_231_285_18 : vFree s_231.2.2.2.2 285 18 = true := by decide +kernel
theorem kF_231_285_32 : vFree s_231.2.2.2.2 285 32 = true := by decide +kernel
theorem q_221_8 {q0 : Nat} {n0 n1 n2 n3 n4 n5 n6 n7 n8 n9 n10 n11 n12 n13 n14 n15 n16 n17 n18 n19 n20 n21 : Int} {H0 H1 H2 H3 H4 H5 H6 H7 H8 H9 H10 H11 : gH} (f0 : n0 ≤ 2000) (f1 : 0 ≤ n0) (f2 : n1 = 285) (f3 : n2 = 285) (f4 : (hLe T0 H0 H1 ∧ hFr s_221.2.2.2.2 H0 H1 ∧ hWt T0 H1) ∧ (Ab_221_22 n2 n1 n0 H0 H1 ∧ preb_221 n2 H0) ∧ some q0 = some (mub_221_22 n2 n1 n0 H0 H1)) (f5 : n3 ≤ 2000) (f6 : 0 ≤ n3) (f7 : n3 = hV H1 (n1).toNat 4) (f8 : n3 ≤ n0) (f9 : n4 = 0) (f10 : n5 = 2) (f11 : hUpd H2 H1 n1 n5 n4) (f12 : (hLe T0 H2 H3 ∧ hFr s_214.2.2.2.2 H2 H3 ∧ ((0 : Int) = 0 → H3.length = H2.length) ∧ hWt T0 H3) ∧ True) (f13 : n6 = 0) (f14 : n7 = 11) (f15 : hUpd H4 H3 n1 n7 n6) (f16 : n8 = 0) (f17 : n9 = 12) (f18 : hUpd H5 H4 n1 n9 n8) (f19 : n10 = 0) (f20 : n11 = 13) (f21 : hUpd H6 H5 n1 n11 n10) (f22 : n12 = 0) (f23 : n13 = 15) (f24 : hUpd H7 H6 n1 n13 n12) (f25 : n14 ≤ 8) (f26 : 0 ≤ n14) (f27 : n14 = hV H7 (n1).toNat 18) (f28 : n15 = 32) (f29 : hUpd H8 H7 n1 n15 n14) (f30 : n16 = 1) (f31 : n17 ≤ 1) (f32 : 0 ≤ n17) (f33 : n17 = hV H8 (n1).toNat 34) (f34 : n18 = w32 (n16 - n17)) (f35 : n19 = 35) (f36 : hUpd H9 H8 n1 n19 n18) (f37 : n20 = 23) (f38 : n21 ≤ 1) (f39 : 0 ≤ n21) (f40 : (hLe T0 H9 H10 ∧ hFr s_216.2.2.2.2 H9 H10 ∧ ((0 : Int) = 0 → H10.length = H9.length) ∧ hWt T0 H10) ∧ postb_216 n21 n1 n20 H9 H10) (f41 : n21 ≠ 0) (f42 : (hLe T0 H10 H11 ∧ hFr s_231.2.2.2.2 H10 H11 ∧ ((0 : Int) = 0 → H11.length = H10.length) ∧ hWt T0 H11) ∧ postb_231 n1 H10 H11) : Ab_221_117 n2 n1 n21 H0 H11 ∧ ∀ q, some q0 = some q → mub_221_117 n2 n1 n21 H0 H11 < q := by
  have g4 := f4.2.1.1
  unfold Ab_221_22 at g4
  have g3 := f4.2.1.2
  unfold preb_221 at g3
  have g5 := Option.some.inj f4.2.2
  unfold mub_221_22 at g5
  unfold postb_216 at f40
  unfold postb_231 at f42
  unfold Ab_221_117
  unfold mub_221_117
  have e0 : n3 = hV H1 285 4 := (by rw [f2] at f7; exact f7 : n3 = hV H1 285 4)
  have e7 : n14 = hV H1 285 18 := (by rw [f2] at f27; exact f27 : n14 = hV H7 285 18).trans (((uSlot f24 285 18 (iS (show n13 = ((15 : Nat) : Int) from f23) rfl))).trans (((uSlot f21 285 18 (iS (show n11 = ((13 : Nat) : Int) from f20) rfl))).trans (((uSlot f18 285 18 (iS (show n9 = ((12 : Nat) : Int) from f17) rfl))).trans (((uSlot f15 285 18 (iS (show n7 = ((11 : Nat) : Int) from f14) rfl))).trans (((f12.1.2.1.1 285 18 kF_214_285_18)).trans (uSlot f11 285 18 (iS (show n5 = ((2 : Nat) : Int) from f10) rfl)))))))
  have e15 : n17 = hV H1 285 34 := (by rw [f2] at f33; exact f33 : n17 = hV H8 285 34).trans (((uSlot f29 285 34 (iS (show n15 = ((32 : Nat) : Int) from f28) rfl))).trans (((uSlot f24 285 34 (iS (show n13 = ((15 : Nat) : Int) from f23) rfl))).trans (((uSlot f21 285 34 (iS (show n11 = ((13 : Nat) : Int) from f20) rfl))).trans (((uSlot f18 285 34 (iS (show n9 = ((12 : Nat) : Int) from f17) rfl))).trans (((uSlot f15 285 34 (iS (show n7 = ((11 : Nat) : Int) from f14) rfl))).trans (((f12.1.2.1.1 285 34 kF_214_285_34)).trans (uSlot f11 285 34 (iS (show n5 = ((2 : Nat) : Int) from f10) rfl))))))))
  have e23 : hV H10 285 11 = n6 := ((f40.1.2.1.1 285 11 kF_216_285_11)).trans (((uSlot f36 285 11 (iS (show n19 = ((35 : Nat) : Int) from f35) rfl))).trans (((uSlot f29 285 11 (iS (show n15 = ((32 : Nat) : Int) from f28) rfl))).trans (((uSlot f24 285 11 (iS (show n13 = ((15 : Nat) : Int) from f23) rfl))).trans (((uSlot f21 285 11 (iS (show n11 = ((13 : Nat) : Int) from f20) rfl))).trans (((uSlot f18 285 11 (iS (show n9 = ((12 : Nat) : Int) from f17) rfl))).trans (uSame f15 285 11 f2.symm f14.symm))))))
  have e29 : hV H10 285 13 = n10 := ((f40.1.2.1.1 285 13 kF_216_285_13)).trans (((uSlot f36 285 13 (iS (show n19 = ((35 : Nat) : Int) from f35) rfl))).trans (((uSlot f29 285 13 (iS (show n15 = ((32 : Nat) : Int) from f28) rfl))).trans (((uSlot f24 285 13 (iS (show n13 = ((15 : Nat) : Int) from f23) rfl))).trans (uSame f21 285 13 f2.symm f20.symm))))
  have e42 : hV H10 288 = hV H3 288 := (fRow f40.1.2.1 288 kR_216_288).trans ((uRowNe f36 288 (iS (show n1 = ((285 : Nat) : Int) from f2) rfl)).trans ((uRowNe f29 288 (iS (show n1 = ((285 : Nat) : Int) from f2) rfl)).trans ((uRowNe f24 288 (iS (show n1 = ((285 : Nat) : Int) from f2) rfl)).trans ((uRowNe f21 288 (iS (show n1 = ((285 : Nat) : Int) from f2) rfl)).trans ((uRowNe f18 288 (iS (show n1 = ((285 : Nat) : Int) from f2) rfl)).trans (uRowNe f15 288 (iS (show n1 = ((285 : Nat) : Int) from f2) rfl)))))))
  have e47 : hV H11 285 18 = hV H1 285 18 := ((f42.1.2.1.1 285 18 kF_231_285_18)).trans (((f40.1.2.1.1 285 18 kF_216_285_18)).trans (((uSlot f36 285 18 (iS (show n19 = ((35 : Nat) : Int) from f35) rfl))).trans (((uSlot f29 285 18 (iS (show n15 = ((32 : Nat) : Int) from f28) rfl))).trans (((uSlot f24 285 18 (iS (show n13 = ((15 : Nat) : Int) from f23) rfl))).trans (((uSlot f21 285 18 (iS (show n11 = ((13 : Nat) : Int) from f20) rfl))).trans (((uSlot f18 285 18 (iS (show n9 = ((12 : Nat) : Int) from f17) rfl))).trans (((uSlot f15 285 18 (iS (show n7 = ((11 : Nat) : Int) from f14) rfl))).trans (((f12.1.2.1.1 285 18 kF_214_285_18)).trans (uSlot f11 285 18 (iS (show n5 = ((2 : Nat) : Int) from f10) rfl))))))))))
  have e52 : hV H11 285 32 = n14 := ((f42.1.2.1.1 285 32 kF_231_285_32)).trans (((f40.1.2.1.1 285 32 kF_216_285_32)).trans (((uSlot f36 285 32 (iS (show n19 = ((35 : Nat) : Int) from f35) rfl))).trans (uSame f29 285 32 f2.symm f28.symm)))
  have e56 : hV H11 285 34 = hV H1 285 34 := ((f42.1.2.1.1 285 34 kF_231_285_34)).trans (((f40.1.2.1.1 285 34 kF_216_285_34)).trans (((uSlot f36 285 34 (iS (show n19 = ((35 : Nat) : Int) from f35) rfl))).trans (((uSlot f29 285 34 (iS (show n15 = ((32 : Nat) : Int) from f28) rfl))).trans (((uSlot f24 285 34 (iS (show n13 = ((15 : Nat) : Int) from f23) rfl))).trans (((uSlot f21 285 34 (iS (show n11 = ((13 : Nat) : Int) from f20) rfl))).trans (((uSlot f18 285 34 (iS (show n9 = ((12 : Nat) : Int) from f17) rfl))).trans (((uSlot f15 285 34 (iS (show n7 = ((11 : Nat) : Int) from f14) rfl))).trans (((f12.1.2.1.1 285 34 kF_214_285_34)).trans (uSlot f11 285 34 (iS (show n5 = ((2 : Nat) : Int) from f10) rfl))))))))))
  have e60 : hV H11 285 35 = n18 := ((f42.1.2.1.1 285 35 kF_231_285_35)).trans (((f40.1.2.1.1 285 35 kF_216_285_35)).trans (uSame f36 285 35 f2.symm f35.symm))
  have e79 : hV H11 294 = hV H1 294 := (fRow f42.1.2.1 294 kR_231_294).trans ((fRow f40.1.2.1 294 kR_216_294).trans ((uRowNe f36 294 (iS (show n1 = ((285 : Nat) : Int) from f2) rfl)).trans ((uRowNe f29 294 (iS (show n1 = ((285 : Nat) : Int) from f2) rfl)).trans ((uRowNe f24 294 (iS (show n1 = ((285 : Nat) : Int) from f2) rfl)).trans ((uRowNe f21 294 (iS (show n1 = ((285 : Nat) : Int) from f2) rfl)).trans ((uRowNe f18 294 (iS (show n1 = ((285 : Nat) : Int) from f2) rfl)).trans ((uRowNe f15 294 (iS (show n1 = ((285 : Nat) : Int) from f2) rfl)).trans ((fRow f12.1.2.1 294 kR_214_294).trans (uRowNe f11 294 (iS (show n1 = ((285 : Nat) : Int) from f2) rfl))))))))))
  have e98 : hV H11 296 = hV H1 296 := (fRow f42.1.2.1 296 kR_231_296).trans ((fRow f40.1.2.1 296 kR_216_296).trans ((uRowNe f36 296 (iS (show n1 = ((285 : Nat) : Int) from f2) rfl)).trans ((uRowNe f29 296 (iS (show n1 = ((285 : Nat) : Int) from f2) rfl)).trans ((uRowNe f24 296 (iS (show n1 = ((285 : Nat) : Int) from f2) rfl)).trans ((uRowNe f21 296 (iS (show n1 = ((285 : Nat) : Int) from f2) rfl)).trans ((uRowNe f18 296 (iS (show n1 = ((285 : Nat) : Int) from f2) rfl)).trans ((uRowNe f15 296 (iS (show n1 = ((285 : Nat) : Int) from f2) rfl)).trans ((fRow f12.1.2.1 296 kR_214_296).trans (uRowNe f11 296 (iS (show n1 = ((285 : Nat) : Int) from f2) rfl))))))))))
  have e117 : hV H11 298 = hV H1 298 := (fRow f42.1.2.1 298 kR_231_298).trans ((fRow f40.1.2.1 298 kR_216_298).trans ((uRowNe f36 298 (iS (show n1 = ((285 : Nat) : Int) from f2) rfl)).trans ((uRowNe f29 298 (iS (show n1 = ((285 : Nat) : Int) from f2) rfl)).trans ((uRowNe f24 298 (iS (show n1 = ((285 : Nat) : Int) from f2) rfl)).trans ((uRowNe f21 298 (iS (show n1 = ((285 : Nat) : Int) from f2) rfl)).trans ((uRowNe f18 298 (iS (show n1 = ((285 : Nat) : Int) from f2) rfl)).trans ((uRowNe f15 298 (iS (show n1 = ((285 : Nat) : Int) from f2) rfl)).trans ((fRow f12.1.2.1 298 kR_214_298).trans (uRowNe f11 298 (iS (show n1 = ((285 : Nat) : Int) from f2) rfl))))))))))
  have e136 : hV H11 300 = hV H1 300 := (fRow f42.1.2.1 300 kR_231_300).trans ((fRow f40.1.2.1 300 kR_216_300).trans ((uRowNe f36 300 (iS (show n1 = ((285 : Nat) : Int) from f2) rfl)).trans ((uRowNe f29 300 (iS (show n1 = ((285 : Nat) : Int) from f2) rfl)).trans ((uRowNe f24 300 (iS (show n1 = ((285 : Nat) : Int) from f2) rfl)).trans ((uRowNe f21 300 (iS (show n1 = ((285 : Nat) : Int) from f2) rfl)).trans ((uRowNe f18 300 (iS (show n1 = ((285 : Nat) : Int) from f2) rfl)).trans ((uRowNe f15 300 (iS (show n1 = ((285 : Nat) : Int) from f2) rfl)).trans ((fRow f12.1.2.1 300 kR_214_300).trans (uRowNe f11 300 (iS (show n1 = ((285 : Nat) : Int) from f2) rfl))))))))))
  have e155 : hV H11 301 = hV H1 301 := (fRow f42.1.2.1 301 kR_231_301).trans ((fRow f40.1.2.1 301 kR_216_301).trans ((uRowNe f36 301 (iS (show n1 = ((285 : Nat) : Int) from f2) rfl)).trans ((uRowNe f29 301 (iS (show n1 = ((285 : Nat) : Int) from f2) rfl)).trans ((uRowNe f24 301 (iS (show n1 = ((285 : Nat) : Int) from f2) rfl)).trans ((uRowNe f21 301 (iS (show n1 = ((285 : Nat) : Int) from f2) rfl)).trans ((uRowNe f18 301 (iS (show n1 = ((285 : Nat) : Int) from f2) rfl)).trans ((uRowNe f15 301 (iS (show n1 = ((285 : Nat) : Int) from f2) rfl)).trans ((fRow f12.1.2.1 301 kR_214_301).trans (uRowNe f11 301 (iS (show n1 = ((285 : Nat) : Int) from f2) rfl))))))))))
  have e174 : hV H11 302 = hV H1 302 := (fRow f42.1.2.1 302 kR_231_302).trans ((fRow f40.1.2.1 302 kR_216_302).trans ((uRowNe f36 302 (iS (show n1 = ((285 : Nat) : Int) from f2) rfl)).trans ((uRowNe f29 302 (iS (show n1 = ((285 : Nat) : Int) from f2) rfl)).trans ((uRowNe f24 302 (iS (show n1 = ((285 : Nat) : Int) from f2) rfl)).trans ((uRowNe f21 302 (iS (show n1 = ((285 : Nat) : Int) from f2) rfl)).trans ((uRowNe f18 302 (iS (show n1 = ((285 : Nat) : Int) from f2) rfl)).trans ((uRowNe f15 302 (iS (show n1 = ((285 : Nat) : Int) from f2) rfl)).trans ((fRow f12.1.2.1 302 kR_214_302).trans (uRowNe f11 302 (iS (show n1 = ((285 : Nat) : Int) from f2) rfl))))))))))
  have e193 : hV H11 303 = hV H1 303 := (fRow f42.1.2.1 303 kR_231_303).trans ((fRow f40.1.2.1 303 kR_216_303).trans ((uRowNe f36 303 (iS (show n1 = ((285 : Nat) : Int) from f2) rfl)).trans ((uRowNe f29 303 (iS (show n1 = ((285 : Nat) : Int) from f2) rfl)).trans ((uRowNe f24 303 (iS (show n1 = ((285 : Nat) : Int) from f2) rfl)).trans ((uRowNe f21 303 (iS (show n1 = ((285 : Nat) : Int) from f2) rfl)).trans ((uRowNe f18 303 (iS (show n1 = ((285 : Nat) : Int) from f2) rfl)).trans ((uRowNe f15 303 (iS (show n1 = ((285 : Nat) : Int) from f2) rfl)).trans ((fRow f12.1.2.1 303 kR_214_303).trans (uRowNe f11 303 (iS (show n1 = ((285 : Nat) : Int) from f2) rfl))))))))))
  have e212 : hV H11 305 = hV H1 305 := (fRow f42.1.2.1 305 kR_231_305).trans ((fRow f40.1.2.1 305 kR_216_305).trans ((uRowNe f36 305 (iS (show n1 = ((285 : Nat) : Int) from f2) rfl)).trans ((uRowNe f29 305 (iS (show n1 = ((285 : Nat) : Int) from f2) rfl)).trans ((uRowNe f24 305 (iS (show n1 = ((285 : Nat) : Int) from f2) rfl)).trans ((uRowNe f21 305 (iS (show n1 = ((285 : Nat) : Int) from f2) rfl)).trans ((uRowNe f18 305 (iS (show n1 = ((285 : Nat) : Int) from f2) rfl)).trans ((uRowNe f15 305 (iS (show n1 = ((285 : Nat) : Int) from f2) rfl)).trans ((fRow f12.1.2.1 305 kR_214_305).trans (uRowNe f11 305 (iS (show n1 = ((285 : Nat) : Int) from f2) rfl))))))))))
  have e213 : AC H2 = AC H1 := AC_upF f11 f2 (show n5 = ((2 : Nat) : Int) from f10) (by decide)
  have e214 : AC H3 = AC H2 := AC_fr f12.1.2.1 (by decide +kernel)
  have e215 : AC H3 = AC H1 := e214.trans e213
  have e216 : AC H4 = AC H3 := AC_upF f15 f2 (show n7 = ((11 : Nat) : Int) from f14) (by decide)
  have e217 : AC H4 = AC H1 := e216.trans e215
  have e218 : AC H5 = AC H4 := AC_upF f18 f2 (show n9 = ((12 : Nat) : Int) from f17) (by decide)
  have e219 : AC H5 = AC H1 := e218.trans e217
  have e220 : AC H6 = AC H5 := AC_upF f21 f2 (show n11 = ((13 : Nat) : Int) from f20) (by decide)
  have e221 : AC H6 = AC H1 := e220.trans e219
  have e222 : AC H7 = AC H6 := AC_upF f24 f2 (show n13 = ((15 : Nat) : Int) from f23) (by decide)
  have e223 : AC H7 = AC H1 := e222.trans e221
  have e224 : AC H8 = AC H7 := AC_upF f29 f2 (show n15 = ((32 : Nat) : Int) from f28) (by decide)
  have e225 : AC H8 = AC H1 := e224.trans e223
  have e226 : AC H9 = AC H8 := AC_upF f36 f2 (show n19 = ((35 : Nat) : Int) from f35) (by decide)
  have e227 : AC H9 = AC H1 := e226.trans e225
  have e228 : AC H10 = AC H9 := AC_fr f40.1.2.1 (by decide +kernel)
  have e229 : AC H10 = AC H1 := e228.trans e227
  have e230 : AC H11 = AC H10 := AC_fr f42.1.2.1 (by decide +kernel)
  have e231 : AC H11 = AC H1 := e230.trans e229
  have e232 : PG H2 = PG H1 := PG_upF f11 f2 (show n5 = ((2 : Nat) : Int) from f10) (by decide)
  have e233 : PG H3 = PG H2 := PG_fr f12.1.2.1 (by decide +kernel)
  have e234 : PG H3 = PG H1 := e233.trans e232
  have e235 : PG H4 = PG H3 := PG_upF f15 f2 (show n7 = ((11 : Nat) : Int) from f14) (by decide)
  have e236 : PG H4 = PG H1 := e235.trans e234
  have e237 : PG H5 = PG H4 := PG_upF f18 f2 (show n9 = ((12 : Nat) : Int) from f17) (by decide)
  have e238 : PG H5 = PG H1 := e237.trans e236
  have e239 : PG H6 = PG H5 := PG_upF f21 f2 (show n11 = ((13 : Nat) : Int) from f20) (by decide)
  have e240 : PG H6 = PG H1 := e239.trans e238
  have e241 : PG H7 = PG H6 := PG_upF f24 f2 (show n13 = ((15 : Nat) : Int) from f23) (by decide)
  have e242 : PG H7 = PG H1 := e241.trans e240
  have e243 : PG H8 = PG H7 := PG_upF f29 f2 (show n15 = ((32 : Nat) : Int) from f28) (by decide)
  have e244 : PG H8 = PG H1 := e243.trans e242
  have e245 : PG H9 = PG H8 := PG_upF f36 f2 (show n19 = ((35 : Nat) : Int) from f35) (by decide)
  have e246 : PG H9 = PG H1 := e245.trans e244
  have e247 : PG H10 = PG H9 := PG_fr f40.1.2.1 (by decide +kernel)
  have e248 : PG H10 = PG H1 := e247.trans e246
  have e249 : PG H11 = PG H10 := PG_fr f42.1.2.1 (by decide +kernel)
  have e250 : PG H11 = PG H1 := e249.trans e248
  have e251 : PQ H2 = PQ H1 := PQ_upF f11 f2 (show n5 = ((2 : Nat) : Int) from f10) (by decide)
  have e252 : PQ H3 = PQ H2 := PQ_fr f12.1.2.1 (by decide +kernel)
  have e253 : PQ H3 = PQ H1 := e252.trans e251
  have e254 : PQ H4 = PQ H3 := PQ_upF f15 f2 (show n7 = ((11 : Nat) : Int) from f14) (by decide)
  have e255 : PQ H4 = PQ H1 := e254.trans e253
  have e256 : PQ H5 = PQ H4 := PQ_upF f18 f2 (show n9 = ((12 : Nat) : Int) from f17) (by decide)
  have e257 : PQ H5 = PQ H1 := e256.trans e255
  have e258 : PQ H6 = PQ H5 := PQ_upF f21 f2 (show n11 = ((13 : Nat) : Int) from f20) (by decide)
  have e259 : PQ H6 = PQ H1 := e258.trans e257
  have e260 : PQ H7 = PQ H6 := PQ_upF f24 f2 (show n13 = ((15 : Nat) : Int) from f23) (by decide)
  have e261 : PQ H7 = PQ H1 := e260.trans e259
  have e262 : PQ H8 = PQ H7 := PQ_upF f29 f2 (show n15 = ((32 : Nat) : Int) from f28) (by decide)
  have e263 : PQ H8 = PQ H1 := e262.trans e261
  have e264 : PQ H9 = PQ H8 := PQ_upF f36 f2 (show n19 = ((35 : Nat) : Int) from f35) (by decide)
  have e265 : PQ H9 = PQ H1 := e264.trans e263
  have e266 : PQ H10 = PQ H9 := PQ_fr f40.1.2.1 (by decide +kernel)
  have e267 : PQ H10 = PQ H1 := e266.trans e265
  have e268 : PQ H11 = PQ H10 := PQ_fr f42.1.2.1 (by decide +kernel)
  have e269 : PQ H11 = PQ H1 := e268.trans e267
  have e270 : SO H2 = SO H1 := SO_upF f11 f2 (show n5 = ((2 : Nat) : Int) from f10) (by decide)
  have e271 : SO H3 = SO H2 := SO_fr f12.1.2.1 (by decide +kernel)
  have e272 : SO H3 = SO H1 := e271.trans e270
  have e273 : SO H4 = SO H3 := SO_upF f15 f2 (show n7 = ((11 : Nat) : Int) from f14) (by decide)
  have e274 : SO H4 = SO H1 := e273.trans e272
  have e275 : SO H5 = SO H4 := SO_upF f18 f2 (show n9 = ((12 : Nat) : Int) from f17) (by decide)
  have e276 : SO H5 = SO H1 := e275.trans e274
  have e277 : SO H6 = SO H5 := SO_upF f21 f2 (show n11 = ((13 : Nat) : Int) from f20) (by decide)
  have e278 : SO H6 = SO H1 := e277.trans e276
  have e279 : SO H7 = SO H6 := SO_upF f24 f2 (show n13 = ((15 : Nat) : Int) from f23) (by decide)
  have e280 : SO H7 = SO H1 := e279.trans e278
  have e281 : SO H8 = SO H7 := SO_upF f29 f2 (show n15 = ((32 : Nat) : Int) from f28) (by decide)
  have e282 : SO H8 = SO H1 := e281.trans e280
  have e283 : SO H9 = SO H8 := SO_upF f36 f2 (show n19 = ((35 : Nat) : Int) from f35) (by decide)
  have e284 : SO H9 = SO H1 := e283.trans e282
  have e285 : SO H10 = SO H9 := SO_fr f40.1.2.1 (by decide +kernel)
  have e286 : SO H10 = SO H1 := e285.trans e284
  have e287 : SO H11 = SO H10 := SO_fr f42.1.2.1 (by decide +kernel)
  have e288 : SO H11 = SO H1 := e287.trans e286
  have e289 : (0 : Int) ≤ hV H1 285 11 ∧ hV H1 285 11 ≤ 500 := f4.1.2.2 285 11 _ _ kW_285_11
  have e290 : (0 : Int) ≤ hV H1 285 13 ∧ hV H1 285 13 ≤ 2 := f4.1.2.2 285 13 _ _ kW_285_13
  have e291 : (0 : Int) ≤ hV H1 285 15 ∧ hV H1 285 15 ≤ 6 := f4.1.2.2 285 15 _ _ kW_285_15
  have e292 : (0 : Int) ≤ hV H1 285 18 ∧ hV H1 285 18 ≤ 8 := f4.1.2.2 285 18 _ _ kW_285_18
  have e293 : (0 : Int) ≤ hV H1 285 32 ∧ hV H1 285 32 ≤ 7 := f4.1.2.2 285 32 _ _ kW_285_32
  have e294 : (0 : Int) ≤ hV H1 285 34 ∧ hV H1 285 34 ≤ 1 := f4.1.2.2 285 34 _ _ kW_285_34
  have e295 : (0 : Int) ≤ hV H1 285 35 ∧ hV H1 285 35 ≤ 1 := f4.1.2.2 285 35 _ _ kW_285_35
  have e296 : (0 : Int) ≤ hV H1 285 44 ∧ hV H1 285 44 ≤ 400 := f4.1.2.2 285 44 _ _ kW_285_44
  have e297 : (0 : Int) ≤ hV H1 285 51 ∧ hV H1 285 51 ≤ 1200 := f4.1.2.2 285 51 _ _ kW_285_51
  have e298 : (0 : Int) ≤ hV H10 285 11 ∧ hV H10 285 11 ≤ 500 := f40.1.2.2.2 285 11 _ _ kW_285_11
  have e299 : (0 : Int) ≤ hV H10 285 13 ∧ hV H10 285 13 ≤ 2 := f40.1.2.2.2 285 13 _ _ kW_285_13
  have e300 : (0 : Int) ≤ hV H11 285 11 ∧ hV H11 285 11 ≤ 500 := f42.1.2.2.2 285 11 _ _ kW_285_11
  have e301 : (0 : Int) ≤ hV H11 285 13 ∧ hV H11 285 13 ≤ 2 := f42.1.2.2.2 285 13 _ _ kW_285_13
  have e302 : (0 : Int) ≤ hV H11 285 15 ∧ hV H11 285 15 ≤ 6 := f42.1.2.2.2 285 15 _ _ kW_285_15
  have e304 : (0 : Int) ≤ hV H11 285 32 ∧ hV H11 285 32 ≤ 7 := f42.1.2.2.2 285 32 _ _ kW_285_32
  have e306 : (0 : Int) ≤ hV H11 285 35 ∧ hV H11 285 35 ≤ 1 := f42.1.2.2.2 285 35 _ _ kW_285_35
  have e307 : (0 : Int) ≤ hV H11 285 44 ∧ hV H11 285 44 ≤ 400 := f42.1.2.2.2 285 44 _ _ kW_285_44
  have e308 : (0 : Int) ≤ hV H11 285 51 ∧ hV H11 285 51 ≤ 1200 := f42.1.2.2.2 285 51 _ _ kW_285_51
  try simp only [RR, RV]
  try simp only [e23] at e298
  try simp only [e29] at e299
  try simp only [e52] at e304
  try simp only [e60] at e306
  try simp only [e47, e52, e56, e60, e79, e98, e117, e136, e155, e174, e193, e212, e231, e250, e269, e288]
  have y0 := g4.1
  have y1 := g4.2.1
  have y2 := g4.2.2.1
  have y3 := g4.2.2.2.1
  have y4 := g4.2.2.2.2.1
  have y5 := g4.2.2.2.2.2.1
  have y6 := g4.2.2.2.2.2.2
  have p0 := g3.1
  have p1 := g3.2.1
  have p2 := g3.2.2.1
  have p3 := g3.2.2.2.1
  have p4 := g3.2.2.2.2.1
  have p5 := g3.2.2.2.2.2
  have r1_0 := f40.2.1
  have r1_1 := f40.2.2
  have r2_0 := f42.2.1
  have r2_1 := f42.2.2.1
  have r2_2 := f42.2.2.2.1
  have r2_3 := f42.2.2.2.2.1
  have r2_4 := f42.2.2.2.2.2.1
  have r2_5 := f42.2.2.2.2.2.2
  try simp only [RV] at y3
  try simp only [RV] at p3
  try simp only [RR] at r2_0
  try simp only [e29] at r1_0
  try simp only [e23, e29, e42] at r1_1
  try simp only [e56, e60] at r2_0
  try simp only [e60] at r2_2
  try simp only [e60] at r2_3
  try simp only [e60] at r2_4
  try simp only [e60] at r2_5
  clear g3
  clear g4
  clear f7 f27 f33 e42 e47 e56 e79 e98 e117 e136 e155 e174 e193 e212 e213 e214 e215 e216 e217 e218 e219 e220 e221 e222 e223 e224 e225 e226 e227 e228 e229 e230 e231 e232 e233 e234 e235 e236 e237 e238 e239 e240 e241 e242 e243 e244 e245 e246 e247 e248 e249 e250 e251 e252 e253 e254 e255 e256 e257 e258 e259 e260 e261 e262 e263 e264 e265 e266 e267 e268 e269 e270 e271 e272 e273 e274 e275 e276 e277 e278 e279 e280 e281 e282 e283 e284 e285 e286 e287 e288
  clear f4 f12 f40 f42
  subst e0
  subst e7
  subst e15
  first
  | (have ix0 : n18 = 1 - (hV H1 285 34) := Eq.trans f34 (w32_iv (Isu (IC 1) (Iat f32 f31)) (by decide)); subst ix0; clear f34)
  | (have ix0 : n18 = 1 - (hV H1 285 34) := Eq.trans f34 (w32_id (by omega) (by omega)); subst ix0; clear f34)
  | (unfold w32 at f34; have ix0 : n18 = 1 - (hV H1 285 34) := (by omega); subst ix0)
  | skip
  try unfold w32 at f34

  refine ⟨⟨?_, ?_, ?_, ?_, ?_, ?_, ?_, ?_, ?_, ?_, ?_⟩, fun q hq => ?_⟩
  · exact y0
  · exact y1
  · exact y2
  · exact (r2_0).1
  · exact y4
  · exact r2_1
  · first | trivial | omega
  · first | trivial | omega
  · first | trivial | omega
  · intro a b c
    omega
  · intro a b
    exact RGs_wide (r2_0).2.1 (by omega) (by omega) (by omega)
  · have g6 := Option.some.inj hq
    subst g6
    omega
def g_221_22_6 : vG := ([(1231, [1], [10, 11], 0), (31, [21], [], 0), (1216, [21, 1, 20], [9, 10], 0), (90, [21], [], 0), (91, [21], [], 1), (0, [20], [], 23), (80, [1, 19, 18], [9, 8], 0), (0, [19], [], 35), (2, [18, 16, 17], [], 0), (20, [17, 1], [8], 34), (90, [17], [], 0), (91, [17], [], 1), (0, [16], [], 1), (80, [1, 15, 14], [8, 7], 0), (0, [15], [], 32), (20, [14, 1], [7], 18), (90, [14], [], 0), (91, [14], [], 8), (80, [1, 13, 12], [7, 6], 0), (0, [13], [], 15), (0, [12], [], 0), (80, [1, 11, 10], [6, 5], 0), (0, [11], [], 13), (0, [10], [], 0), (80, [1, 9, 8], [5, 4], 0), (0, [9], [], 12), (0, [8], [], 0), (80, [1, 7, 6], [4, 3], 0), (0, [7], [], 11), (0, [6], [], 0), (1214, [1], [2, 3], 0), (80, [1, 5, 4], [2, 1], 0), (0, [5], [], 2), (0, [4], [], 0), (43, [2, 3], [], 0), (20, [3, 1], [1], 4), (90, [3], [], 0), (91, [3], [], 2000), (5000, [0, 1, 2], [0, 1], 22), (0, [0], [], 285), (0, [1], [], 285), (90, [2], [], 0), (91, [2], [], 2000)], (4000, [1, 21], [11], 117))
theorem c_221_22_6 {q0 : Nat} : vOkm T0 (eP e_221 L_221 A_221 mu_221 (some q0)) 1 g_221_22_6 := vOk_inI fun ρ η f0 f1 f2 f3 f4 f5 f6 f7 f8 f9 f10 f11 f12 f13 f14 f15 f16 f17 f18 f19 f20 f21 f22 f23 f24 f25 f26 f27 f28 f29 f30 f31 f32 f33 f34 f35 f36 f37 f38 f39 f40 f41 f42 => q_221_8 (q0 := q0) (n0 := ρ 2) (n1 := ρ 1) (n2 := ρ 0) (n3 := ρ 3) (n4 := ρ 4) (n5 := ρ 5) (n6 := ρ 6) (n7 := ρ 7) (n8 := ρ 8) (n9 := ρ 9) (n10 := ρ 10) (n11 := ρ 11) (n12 := ρ 12) (n13 := ρ 13) (n14 := ρ 14) (n15 := ρ 15) (n16 := ρ 16) (n17 := ρ 17) (n18 := ρ 18) (n19 := ρ 19) (n20 := ρ 20) (n21 := ρ 21) (H0 := η 0) (H1 := η 1) (H2 := η 2) (H3 := η 3) (H4 := η 4) (H5 := η 5) (H6 := η 6) (H7 := η 7) (H8 := η 8) (H9 := η 9) (H10 := η 10) (H11 := η 11) f42 f41 f40 f39 f38 f37 f36 f35 f34 f33 f32 f31 f30 f29 f28 f27 f26 f25 f24 f23 f22 f21 f20 f19 f18 f17 f16 f15 f14 f13 f12 f11 f10 f9 f8 f7 f6 f5 f4 f3 f2 f1 f0
theorem q_221_9 {q0 : Nat} {n0 n1 : Int} {H0 : gH} (f0 : 0 ≤ n0) (f1 : n1 ≤ 2000) (f2 : n0 < n1) : 0 ≤ n0 ∧ n0 < 2000 := by
  omega
def g_221_22_7 : vG := ([(42, [2, 3], [], 0), (91, [3], [], 2000), (90, [2], [], 0)], (70, [2], [], 2000))
theorem c_221_22_7 {q0 : Nat} : vOkm T0 (eP e_221 L_221 A_221 mu_221 (some q0)) 1 g_221_22_7 := vOk_inI fun ρ η f0 f1 f2 => q_221_9 (q0 := q0) (n0 := ρ 2) (n1 := ρ 3) (H0 := η 0) f2 f1 f0
def g_221_22_8 : vG := ([(42, [2, 3], [], 0), (91, [3], [], 2000), (90, [2], [], 0)], (70, [2], [], 2000))
theorem c_221_22_8 {q0 : Nat} : vOkm T0 (eP e_221 L_221 A_221 mu_221 (some q0)) 1 g_221_22_8 := vOk_inI fun ρ η f0 f1 f2 => q_221_9 (q0 := q0) (n0 := ρ 2) (n1 := ρ 3) (H0 := η 0) f2 f1 f0
theorem q_221_10 {q0 : Nat} {n0 n1 n2 : Int} {H0 : gH} (f0 : 0 ≤ n0) (f1 : n1 ≤ 2000) (f2 : n0 < n1) (f3 : n2 = w32 (n0 + 1)) : 0 ≤ n2 := by
  first
  | (have ix0 : n2 = n0 + 1 := Eq.trans f3 (w32_id (by omega) (by omega)); subst ix0; clear f3)
  | (unfold w32 at f3; have ix0 : n2 = n0 + 1 := (by omega); subst ix0)
  | skip
  try unfold w32 at f3
  omega
def g_221_22_9 : vG := ([(10, [8, 2], [], 1), (42, [2, 3], [], 0), (91, [3], [], 2000), (90, [2], [], 0)], (90, [8], [], 0))
theorem c_221_22_9 {q0 : Nat} : vOkm T0 (eP e_221 L_221 A_221 mu_221 (some q0)) 1 g_221_22_9 := vOk_inI fun ρ η f0 f1 f2 f3 => q_221_10 (q0 := q0) (n0 := ρ 2) (n1 := ρ 3) (n2 := ρ 8) (H0 := η 0) f3 f2 f1 f0
theorem q_221_11 {q0 : Nat} {n0 n1 n2 : Int} {H0 : gH} (f0 : 0 ≤ n0) (f1 : n1 ≤ 2000) (f2 : n0 < n1) (f3 : n2 = w32 (n0 + 1)) : n2 ≤ 2000 := by
  first
  | (have ix0 : n2 = n0 + 1 := Eq.trans f3 (w32_id (by omega) (by omega)); subst ix0; clear f3)
  | (unfold w32 at f3; have ix0 : n2 = n0 + 1 := (by omega); subst ix0)
  | skip
  try unfold w32 at f3
  omega
def g_221_22_10 : vG := ([(10, [8, 2], [], 1), (42, [2, 3], [], 0), (91, [3], [], 2000), (90, [2], [], 0)], (91, [8], [], 2000))
theorem c_221_22_10 {q0 : Nat} : vOkm T0 (eP e_221 L_221 A_221 mu_221 (some q0)) 1 g_221_22_10 := vOk_inI fun ρ η f0 f1 f2 f3 => q_221_11 (q0 := q0) (n0 := ρ 2) (n1 := ρ 3) (n2 := ρ 8) (H0 := η 0) f3 f2 f1 f0
theorem kR_221_286 : vFreeR s_221.2.2.2.2 286 = true := by decide +kernel
theorem q_221_12 {q0 : Nat} {n0 n1 n2 n3 n4 n5 n6 n7 n8 : Int} {H0 H1 H2 : gH} (f0 : n0 ≤ 2000) (f1 : 0 ≤ n0) (f2 : n1 = 285) (f3 : n2 = 285) (f4 : (hLe T0 H0 H1 ∧ hFr s_221.2.2.2.2 H0 H1 ∧ hWt T0 H1) ∧ (Ab_221_22 n2 n1 n0 H0 H1 ∧ preb_221 n2 H0) ∧ some q0 = some (mub_221_22 n2 n1 n0 H0 H1)) (f5 : n3 ≤ 2000) (f6 : 0 ≤ n3) (f7 : n3 = hV H1 (n1).toNat 4) (f8 : n0 < n3) (f9 : n4 = 287) (f10 : n4 = hV H1 (n1).toNat 3) (f11 : n5 = 286) (f12 : n5 = hV H1 (n1).toNat 1) (f13 : n6 ≤ 127) (f14 : (-128) ≤ n6) (f15 : n6 = hV H1 (n5).toNat (n0).toNat) (f16 : n7 = o32 (fun x _ => x.toInt8.toInt32) n6 0) (f17 : hUpd H2 H1 n4 n0 n7) (f18 : n8 = w32 (n0 + 1)) : Ab_221_22 n2 n1 n8 H0 H2 ∧ ∀ q, some q0 = some q → mub_221_22 n2 n1 n8 H0 H2 < q := by
  have g4 := f4.2.1.1
  unfold Ab_221_22 at g4
  have g3 := f4.2.1.2
  unfold preb_221 at g3
  have g5 := Option.some.inj f4.2.2
  unfold mub_221_22 at g5
  unfold Ab_221_22
  unfold mub_221_22
  have e0 : n3 = hV H1 285 4 := (by rw [f2] at f7; exact f7 : n3 = hV H1 285 4)
  have e2 : n6 = hV H0 286 (n0).toNat := (by rw [f11] at f15; exact f15 : n6 = hV H1 286 (n0).toNat).trans ((congrFun (fRow f4.1.2.1 286 kR_221_286) _))
  have e4 : hV H2 285 18 = hV H1 285 18 := (uPlace f17 285 18 (iS (show n4 = ((287 : Nat) : Int) from f9) rfl))
  have e5 : AC H2 = AC H1 := AC_upR f17 (show n4 = ((287 : Nat) : Int) from f9) (by decide)
  have e6 : PG H2 = PG H1 := PG_upR f17 (show n4 = ((287 : Nat) : Int) from f9) (by decide)
  have e7 : PQ H2 = PQ H1 := PQ_upR f17 (show n4 = ((287 : Nat) : Int) from f9) (by decide)
  have e8 : RN H2 = RN H1 := RN_upR f17 (show n4 = ((287 : Nat) : Int) from f9) (by decide)
  have e9 : RV H2 = RV H1 := RV_upR f17 (show n4 = ((287 : Nat) : Int) from f9) (by decide)
  have e10 : SO H2 = SO H1 := SO_upR f17 (show n4 = ((287 : Nat) : Int) from f9) (by decide)
  have e11 : (0 : Int) ≤ hV H1 285 18 ∧ hV H1 285 18 ≤ 8 := f4.1.2.2 285 18 _ _ kW_285_18
  try simp only [e4, e5, e6, e7, e8, e9, e10]
  have y0 := g4.1
  have y1 := g4.2.1
  have y2 := g4.2.2.1
  have y3 := g4.2.2.2.1
  have y4 := g4.2.2.2.2.1
  have y5 := g4.2.2.2.2.2.1
  have y6 := g4.2.2.2.2.2.2
  have p0 := g3.1
  have p1 := g3.2.1
  have p2 := g3.2.2.1
  have p3 := g3.2.2.2.1
  have p4 := g3.2.2.2.2.1
  have p5 := g3.2.2.2.2.2
  clear g3
  clear g4
  clear f7 f10 f12 f15 e4 e5 e6 e7 e8 e9 e10
  clear f4
  subst e0
  subst e2
  first
  | (have ix0 : n8 = n0 + 1 := Eq.trans f18 (w32_iv (Iad (Iat f1 f0) (IC 1)) (by decide)); subst ix0; clear f18)
  | (have ix0 : n8 = n0 + 1 := Eq.trans f18 (w32_id (by omega) (by omega)); subst ix0; clear f18)
  | (unfold w32 at f18; have ix0 : n8 = n0 + 1 := (by omega); subst ix0)
  | skip
  try unfold w32 at f18

  refine ⟨⟨?_, ?_, ?_, ?_, ?_, ?_, ?_⟩, fun q hq => ?_⟩
  · exact y0
  · exact y1
  · exact y2
  · exact y3
  · exact y4
  · exact y5
  · first | trivial | (simp only [uF_at]; omega) | omega
  · have g6 := Option.some.inj hq
    subst g6
    omega
def g_221_22_11 : vG := ([(10, [8, 2], [], 1), (80, [4, 2, 7], [2, 1], 0), (15, [7, 6], [], 0), (22, [6, 5, 2], [1], 0), (90, [6], [], -128), (91, [6], [], 127), (20, [5, 1], [1], 1), (0, [5], [], 286), (20, [4, 1], [1], 3), (0, [4], [], 287), (42, [2, 3], [], 0), (20, [3, 1], [1], 4), (90, [3], [], 0), (91, [3], [], 2000), (5000, [0, 1, 2], [0, 1], 22), (0, [0], [], 285), (0, [1], [], 285), (90, [2], [], 0), (91, [2], [], 2000)], (4000, [1, 8], [2], 22))
theorem c_221_22_11 {q0 : Nat} : vOkm T0 (eP e_221 L_221 A_221 mu_221 (some q0)) 1 g_221_22_11 := vOk_inI fun ρ η f0 f1 f2 f3 f4 f5 f6 f7 f8 f9 f10 f11 f12 f13 f14 f15 f16 f17 f18 => q_221_12 (q0 := q0) (n0 := ρ 2) (n1 := ρ 1) (n2 := ρ 0) (n3 := ρ 3) (n4 := ρ 4) (n5 := ρ 5) (n6 := ρ 6) (n7 := ρ 7) (n8 := ρ 8) (H0 := η 0) (H1 := η 1) (H2 := η 2) f18 f17 f16 f15 f14 f13 f12 f11 f10 f9 f8 f7 f6 f5 f4 f3 f2 f1 f0
def p_221_22 : List vG := [g_221_22_0,
  g_221_22_1,
  g_221_22_2,
  g_221_22_3,
  g_221_22_4,
  g_221_22_5,
  g_221_22_6,
  g_221_22_7,
  g_221_22_8,
  g_221_22_9,
  g_221_22_10,
  g_221_22_11]
theorem r_221_22 : vCovO false (eRc e_221 L_221 cs_221 2000 (22, [(0, (3, 12, 285, 0)), (1, (0, 0, 2000, 0))])) p_221_22 = true := by decide +kernel
theorem q_221_13 {q0 : Nat} {n0 n1 n2 n3 n4 n5 n6 n7 : Int} {H0 H1 H2 : gH} (f0 : n0 ≤ 1) (f1 : 0 ≤ n0) (f2 : n1 = 285) (f3 : n2 = 285) (f4 : (hLe T0 H0 H1 ∧ hFr s_221.2.2.2.2 H0 H1 ∧ hWt T0 H1) ∧ (Ab_221_117 n2 n1 n0 H0 H1 ∧ preb_221 n2 H0) ∧ some q0 = some (mub_221_117 n2 n1 n0 H0 H1)) (f5 : n3 ≤ 2) (f6 : 0 ≤ n3) (f7 : n3 = hV H1 (n1).toNat 13) (f8 : n3 ≠ 0) (f9 : n4 ≤ 2) (f10 : 0 ≤ n4) (f11 : n4 = hV H1 (n1).toNat 13) (f12 : n4 ≤ 0) (f13 : n5 ≤ 6) (f14 : 0 ≤ n5) (f15 : n5 = hV H1 (n1).toNat 15) (f16 : n5 ≤ 0) (f17 : n6 = (-1)) (f18 : n7 = 17) (f19 : hUpd H2 H1 n1 n7 n6) : Ab_221_170 n2 n1 n0 H0 H2 ∧ ∀ q, some q0 = some q → mub_221_170 n2 n1 n0 H0 H2 < q := by
  have g4 := f4.2.1.1
  unfold Ab_221_117 at g4
  have g3 := f4.2.1.2
  unfold preb_221 at g3
  have g5 := Option.some.inj f4.2.2
  unfold mub_221_117 at g5
  unfold Ab_221_170
  unfold mub_221_170
  have e0 : n3 = hV H1 285 13 := (by rw [f2] at f7; exact f7 : n3 = hV H1 285 13)
  have e1 : n4 = hV H1 285 13 := (by rw [f2] at f11; exact f11 : n4 = hV H1 285 13)
  have e2 : n5 = hV H1 285 15 := (by rw [f2] at f15; exact f15 : n5 = hV H1 285 15)
  have e4 : hV H2 285 13 = hV H1 285 13 := (uSlot f19 285 13 (iS (show n7 = ((17 : Nat) : Int) from f18) rfl))
  have e6 : hV H2 285 15 = hV H1 285 15 := (uSlot f19 285 15 (iS (show n7 = ((17 : Nat) : Int) from f18) rfl))
  have e8 : hV H2 285 18 = hV H1 285 18 := (uSlot f19 285 18 (iS (show n7 = ((17 : Nat) : Int) from f18) rfl))
  have e10 : hV H2 285 32 = hV H1 285 32 := (uSlot f19 285 32 (iS (show n7 = ((17 : Nat) : Int) from f18) rfl))
  have e12 : hV H2 285 34 = hV H1 285 34 := (uSlot f19 285 34 (iS (show n7 = ((17 : Nat) : Int) from f18) rfl))
  have e14 : hV H2 285 35 = hV H1 285 35 := (uSlot f19 285 35 (iS (show n7 = ((17 : Nat) : Int) from f18) rfl))
  have e15 : hV H2 294 = hV H1 294 := uRowNe f19 294 (iS (show n1 = ((285 : Nat) : Int) from f2) rfl)
  have e16 : hV H2 296 = hV H1 296 := uRowNe f19 296 (iS (show n1 = ((285 : Nat) : Int) from f2) rfl)
  have e17 : hV H2 298 = hV H1 298 := uRowNe f19 298 (iS (show n1 = ((285 : Nat) : Int) from f2) rfl)
  have e18 : hV H2 300 = hV H1 300 := uRowNe f19 300 (iS (show n1 = ((285 : Nat) : Int) from f2) rfl)
  have e19 : hV H2 301 = hV H1 301 := uRowNe f19 301 (iS (show n1 = ((285 : Nat) : Int) from f2) rfl)
  have e20 : hV H2 302 = hV H1 302 := uRowNe f19 302 (iS (show n1 = ((285 : Nat) : Int) from f2) rfl)
  have e21 : hV H2 303 = hV H1 303 := uRowNe f19 303 (iS (show n1 = ((285 : Nat) : Int) from f2) rfl)
  have e22 : hV H2 305 = hV H1 305 := uRowNe f19 305 (iS (show n1 = ((285 : Nat) : Int) from f2) rfl)
  have e23 : hV H2 306 = hV H1 306 := uRowNe f19 306 (iS (show n1 = ((285 : Nat) : Int) from f2) rfl)
  have e24 : hV H2 307 = hV H1 307 := uRowNe f19 307 (iS (show n1 = ((285 : Nat) : Int) from f2) rfl)
  have e25 : hV H2 308 = hV H1 308 := uRowNe f19 308 (iS (show n1 = ((285 : Nat) : Int) from f2) rfl)
  have e26 : hV H2 309 = hV H1 309 := uRowNe f19 309 (iS (show n1 = ((285 : Nat) : Int) from f2) rfl)
  have e27 : hV H2 310 = hV H1 310 := uRowNe f19 310 (iS (show n1 = ((285 : Nat) : Int) from f2) rfl)
  have e28 : hV H2 311 = hV H1 311 := uRowNe f19 311 (iS (show n1 = ((285 : Nat) : Int) from f2) rfl)
  have e29 : hV H2 317 = hV H1 317 := uRowNe f19 317 (iS (show n1 = ((285 : Nat) : Int) from f2) rfl)
  have e30 : hV H2 318 = hV H1 318 := uRowNe f19 318 (iS (show n1 = ((285 : Nat) : Int) from f2) rfl)
  have e31 : hV H2 319 = hV H1 319 := uRowNe f19 319 (iS (show n1 = ((285 : Nat) : Int) from f2) rfl)
  have e32 : hV H2 320 = hV H1 320 := uRowNe f19 320 (iS (show n1 = ((285 : Nat) : Int) from f2) rfl)
  have e33 : hV H2 321 = hV H1 321 := uRowNe f19 321 (iS (show n1 = ((285 : Nat) : Int) from f2) rfl)
  have e34 : AC H2 = AC H1 := AC_upF f19 f2 (show n7 = ((17 : Nat) : Int) from f18) (by decide)
  have e35 : PG H2 = PG H1 := PG_upF f19 f2 (show n7 = ((17 : Nat) : Int) from f18) (by decide)
  have e36 : PQ H2 = PQ H1 := PQ_upF f19 f2 (show n7 = ((17 : Nat) : Int) from f18) (by decide)
  have e37 : RN H2 = RN H1 := RN_upF f19 f2 (show n7 = ((17 : Nat) : Int) from f18) (by decide)
  have e38 : RV H2 = RV H1 := RV_upF f19 f2 (show n7 = ((17 : Nat) : Int) from f18) (by decide)
  have e39 : SO H2 = SO H1 := SO_upF f19 f2 (show n7 = ((17 : Nat) : Int) from f18) (by decide)
  have e40 : (0 : Int) ≤ hV H1 285 13 ∧ hV H1 285 13 ≤ 2 := f4.1.2.2 285 13 _ _ kW_285_13
  have e41 : (0 : Int) ≤ hV H1 285 15 ∧ hV H1 285 15 ≤ 6 := f4.1.2.2 285 15 _ _ kW_285_15
  have e42 : (0 : Int) ≤ hV H1 285 18 ∧ hV H1 285 18 ≤ 8 := f4.1.2.2 285 18 _ _ kW_285_18
  have e43 : (0 : Int) ≤ hV H1 285 32 ∧ hV H1 285 32 ≤ 7 := f4.1.2.2 285 32 _ _ kW_285_32
  have e44 : (0 : Int) ≤ hV H1 285 34 ∧ hV H1 285 34 ≤ 1 := f4.1.2.2 285 34 _ _ kW_285_34
  have e45 : (0 : Int) ≤ hV H1 285 35 ∧ hV H1 285 35 ≤ 1 := f4.1.2.2 285 35 _ _ kW_285_35
  try simp only [e4, e6, e8, e10, e12, e14, e15, e16, e17, e18, e19, e20, e21, e22, e23, e24, e25, e26, e27, e28, e29, e30, e31, e32, e33, e34, e35, e36, e37, e38, e39]
  have y0 := g4.1
  have y1 := g4.2.1
  have y2 := g4.2.2.1
  have y3 := g4.2.2.2.1
  have y4 := g4.2.2.2.2.1
  have y5 := g4.2.2.2.2.2.1
  have y6 := g4.2.2.2.2.2.2.1
  have y7 := g4.2.2.2.2.2.2.2.1
  have y8 := g4.2.2.2.2.2.2.2.2.1
  have y9 := g4.2.2.2.2.2.2.2.2.2.1
  have y10 := g4.2.2.2.2.2.2.2.2.2.2
  have p0 := g3.1
  have p1 := g3.2.1
  have p2 := g3.2.2.1
  have p3 := g3.2.2.2.1
  have p4 := g3.2.2.2.2.1
  have p5 := g3.2.2.2.2.2
  clear g3
  clear g4
  clear f7 f11 f15 e4 e6 e8 e10 e12 e14 e15 e16 e17 e18 e19 e20 e21 e22 e23 e24 e25 e26 e27 e28 e29 e30 e31 e32 e33 e34 e35 e36 e37 e38 e39
  clear f4
  subst e0
  subst e1
  subst e2

  refine ⟨⟨?_, ?_, ?_, ?_, ?_, ?_, ?_, ?_, ?_, ?_, ?_⟩, fun q hq => ?_⟩
  · exact y0
  · exact y1
  · exact y2
  · exact y3
  · exact y4
  · exact y5
  · first | trivial | omega
  · first | trivial | omega
  · first | trivial | omega
  · intro a b c
    exact y9 (by omega) (by omega) (by omega)
  · intro a b
    exact y10 (by omega) (by omega)
  · have g6 := Option.some.inj hq
    subst g6
    omega
def g_221_117_0 : vG := ([(80, [1, 7, 6], [2, 1], 0), (0, [7], [], 17), (0, [6], [], -1), (35, [5], [], 0), (20, [5, 1], [1], 15), (90, [5], [], 0), (91, [5], [], 6), (35, [4], [], 0), (20, [4, 1], [1], 13), (90, [4], [], 0), (91, [4], [], 2), (31, [3], [], 0), (20, [3, 1], [1], 13), (90, [3], [], 0), (91, [3], [], 2), (5000, [0, 1, 2], [0, 1], 117), (0, [0], [], 285), (0, [1], [], 285), (90, [2], [], 0), (91, [2], [], 1)], (4000, [1, 2], [2], 170))
theorem c_221_117_0 {q0 : Nat} : vOkm T0 (eP e_221 L_221 A_221 mu_221 (some q0)) 1 g_221_117_0 := vOk_inI fun ρ η f0 f1 f2 f3 f4 f5 f6 f7 f8 f9 f10 f11 f12 f13 f14 f15 f16 f17 f18 f19 => q_221_13 (q0 := q0) (n0 := ρ 2) (n1 := ρ 1) (n2 := ρ 0) (n3 := ρ 3) (n4 := ρ 4) (n5 := ρ 5) (n6 := ρ 6) (n7 := ρ 7) (H0 := η 0) (H1 := η 1) (H2 := η 2) f19 f18 f17 f16 f15 f14 f13 f12 f11 f10 f9 f8 f7 f6 f5 f4 f3 f2 f1 f0
theorem q_221_14 {q0 : Nat} {n0 n1 n2 n3 n4 n5 n6 n7 : Int} {H0 H1 H2 : gH} (f0 : n0 ≤ 1) (f1 : 0 ≤ n0) (f2 : n1 = 285) (f3 : n2 = 285) (f4 : (hLe T0 H0 H1 ∧ hFr s_221.2.2.2.2 H0 H1 ∧ hWt T0 H1) ∧ (Ab_221_117 n2 n1 n0 H0 H1 ∧ preb_221 n2 H0) ∧ some q0 = some (mub_221_117 n2 n1 n0 H0 H1)) (f5 : n3 ≤ 2) (f6 : 0 ≤ n3) (f7 : n3 = hV H1 (n1).toNat 13) (f8 : n3 ≠ 0) (f9 : n4 ≤ 2) (f10 : 0 ≤ n4) (f11 : n4 = hV H1 (n1).toNat 13) (f12 : n4 ≤ 0) (f13 : n5 ≤ 6) (f14 : 0 ≤ n5) (f15 : n5 = hV H1 (n1).toNat 15) (f16 : 0 < n5) (f17 : n6 ≤ 2000) (f18 : 0 ≤ n6) (f19 : n6 = hV H1 (n1).toNat 16) (f20 : n7 = 17) (f21 : hUpd H2 H1 n1 n7 n6) : Ab_221_170 n2 n1 n0 H0 H2 ∧ ∀ q, some q0 = some q → mub_221_170 n2 n1 n0 H0 H2 < q := by
  have g4 := f4.2.1.1
  unfold Ab_221_117 at g4
  have g3 := f4.2.1.2
  unfold preb_221 at g3
  have g5 := Option.some.inj f4.2.2
  unfold mub_221_117 at g5
  unfold Ab_221_170
  unfold mub_221_170
  have e0 : n3 = hV H1 285 13 := (by rw [f2] at f7; exact f7 : n3 = hV H1 285 13)
  have e1 : n4 = hV H1 285 13 := (by rw [f2] at f11; exact f11 : n4 = hV H1 285 13)
  have e2 : n5 = hV H1 285 15 := (by rw [f2] at f15; exact f15 : n5 = hV H1 285 15)
  have e3 : n6 = hV H1 285 16 := (by rw [f2] at f19; exact f19 : n6 = hV H1 285 16)
  have e5 : hV H2 285 13 = hV H1 285 13 := (uSlot f21 285 13 (iS (show n7 = ((17 : Nat) : Int) from f20) rfl))
  have e7 : hV H2 285 15 = hV H1 285 15 := (uSlot f21 285 15 (iS (show n7 = ((17 : Nat) : Int) from f20) rfl))
  have e9 : hV H2 285 18 = hV H1 285 18 := (uSlot f21 285 18 (iS (show n7 = ((17 : Nat) : Int) from f20) rfl))
  have e11 : hV H2 285 32 = hV H1 285 32 := (uSlot f21 285 32 (iS (show n7 = ((17 : Nat) : Int) from f20) rfl))
  have e13 : hV H2 285 34 = hV H1 285 34 := (uSlot f21 285 34 (iS (show n7 = ((17 : Nat) : Int) from f20) rfl))
  have e15 : hV H2 285 35 = hV H1 285 35 := (uSlot f21 285 35 (iS (show n7 = ((17 : Nat) : Int) from f20) rfl))
  have e16 : hV H2 294 = hV H1 294 := uRowNe f21 294 (iS (show n1 = ((285 : Nat) : Int) from f2) rfl)
  have e17 : hV H2 296 = hV H1 296 := uRowNe f21 296 (iS (show n1 = ((285 : Nat) : Int) from f2) rfl)
  have e18 : hV H2 298 = hV H1 298 := uRowNe f21 298 (iS (show n1 = ((285 : Nat) : Int) from f2) rfl)
  have e19 : hV H2 300 = hV H1 300 := uRowNe f21 300 (iS (show n1 = ((285 : Nat) : Int) from f2) rfl)
  have e20 : hV H2 301 = hV H1 301 := uRowNe f21 301 (iS (show n1 = ((285 : Nat) : Int) from f2) rfl)
  have e21 : hV H2 302 = hV H1 302 := uRowNe f21 302 (iS (show n1 = ((285 : Nat) : Int) from f2) rfl)
  have e22 : hV H2 303 = hV H1 303 := uRowNe f21 303 (iS (show n1 = ((285 : Nat) : Int) from f2) rfl)
  have e23 : hV H2 305 = hV H1 305 := uRowNe f21 305 (iS (show n1 = ((285 : Nat) : Int) from f2) rfl)
  have e24 : hV H2 306 = hV H1 306 := uRowNe f21 306 (iS (show n1 = ((285 : Nat) : Int) from f2) rfl)
  have e25 : hV H2 307 = hV H1 307 := uRowNe f21 307 (iS (show n1 = ((285 : Nat) : Int) from f2) rfl)
  have e26 : hV H2 308 = hV H1 308 := uRowNe f21 308 (iS (show n1 = ((285 : Nat) : Int) from f2) rfl)
  have e27 : hV H2 309 = hV H1 309 := uRowNe f21 309 (iS (show n1 = ((285 : Nat) : Int) from f2) rfl)
  have e28 : hV H2 310 = hV H1 310 := uRowNe f21 310 (iS (show n1 = ((285 : Nat) : Int) from f2) rfl)
  have e29 : hV H2 311 = hV H1 311 := uRowNe f21 311 (iS (show n1 = ((285 : Nat) : Int) from f2) rfl)
  have e30 : hV H2 317 = hV H1 317 := uRowNe f21 317 (iS (show n1 = ((285 : Nat) : Int) from f2) rfl)
  have e31 : hV H2 318 = hV H1 318 := uRowNe f21 318 (iS (show n1 = ((285 : Nat) : Int) from f2) rfl)
  have e32 : hV H2 319 = hV H1 319 := uRowNe f21 319 (iS (show n1 = ((285 : Nat) : Int) from f2) rfl)
  have e33 : hV H2 320 = hV H1 320 := uRowNe f21 320 (iS (show n1 = ((285 : Nat) : Int) from f2) rfl)
  have e34 : hV H2 321 = hV H1 321 := uRowNe f21 321 (iS (show n1 = ((285 : Nat) : Int) from f2) rfl)
  have e35 : AC H2 = AC H1 := AC_upF f21 f2 (show n7 = ((17 : Nat) : Int) from f20) (by decide)
  have e36 : PG H2 = PG H1 := PG_upF f21 f2 (show n7 = ((17 : Nat) : Int) from f20) (by decide)
  have e37 : PQ H2 = PQ H1 := PQ_upF f21 f2 (show n7 = ((17 : Nat) : Int) from f20) (by decide)
  have e38 : RN H2 = RN H1 := RN_upF f21 f2 (show n7 = ((17 : Nat) : Int) from f20) (by decide)
  have e39 : RV H2 = RV H1 := RV_upF f21 f2 (show n7 = ((17 : Nat) : Int) from f20) (by decide)
  have e40 : SO H2 = SO H1 := SO_upF f21 f2 (show n7 = ((17 : Nat) : Int) from f20) (by decide)
  have e41 : (0 : Int) ≤ hV H1 285 13 ∧ hV H1 285 13 ≤ 2 := f4.1.2.2 285 13 _ _ kW_285_13
  have e42 : (0 : Int) ≤ hV H1 285 15 ∧ hV H1 285 15 ≤ 6 := f4.1.2.2 285 15 _ _ kW_285_15
  have e43 : (0 : Int) ≤ hV H1 285 18 ∧ hV H1 285 18 ≤ 8 := f4.1.2.2 285 18 _ _ kW_285_18
  have e44 : (0 : Int) ≤ hV H1 285 32 ∧ hV H1 285 32 ≤ 7 := f4.1.2.2 285 32 _ _ kW_285_32
  have e45 : (0 : Int) ≤ hV H1 285 34 ∧ hV H1 285 34 ≤ 1 := f4.1.2.2 285 34 _ _ kW_285_34
  have e46 : (0 : Int) ≤ hV H1 285 35 ∧ hV H1 285 35 ≤ 1 := f4.1.2.2 285 35 _ _ kW_285_35
  try simp only [e5, e7, e9, e11, e13, e15, e16, e17, e18, e19, e20, e21, e22, e23, e24, e25, e26, e27, e28, e29, e30, e31, e32, e33, e34, e35, e36, e37, e38, e39, e40]
  have y0 := g4.1
  have y1 := g4.2.1
  have y2 := g4.2.2.1
  have y3 := g4.2.2.2.1
  have y4 := g4.2.2.2.2.1
  have y5 := g4.2.2.2.2.2.1
  have y6 := g4.2.2.2.2.2.2.1
  have y7 := g4.2.2.2.2.2.2.2.1
  have y8 := g4.2.2.2.2.2.2.2.2.1
  have y9 := g4.2.2.2.2.2.2.2.2.2.1
  have y10 := g4.2.2.2.2.2.2.2.2.2.2
  have p0 := g3.1
  have p1 := g3.2.1
  have p2 := g3.2.2.1
  have p3 := g3.2.2.2.1
  have p4 := g3.2.2.2.2.1
  have p5 := g3.2.2.2.2.2
  clear g3
  clear g4
  clear f7 f11 f15 f19 e5 e7 e9 e11 e13 e15 e16 e17 e18 e19 e20 e21 e22 e23 e24 e25 e26 e27 e28 e29 e30 e31 e32 e33 e34 e35 e36 e37 e38 e39 e40
  clear f4
  subst e0
  subst e1
  subst e2
  subst e3

  refine ⟨⟨?_, ?_, ?_, ?_, ?_, ?_, ?_, ?_, ?_, ?_, ?_⟩, fun q hq => ?_⟩
  · exact y0
  · exact y1
  · exact y2
  · exact y3
  · exact y4
  · exact y5
  · first | trivial | omega
  · first | trivial | omega
  · first | trivial | omega
  · intro a b c
    exact y9 (by omega) (by omega) (by omega)
  · intro a b
    exact y10 (by omega) (by omega)
  · have g6 := Option.some.inj hq
    subst g6
    omega
def g_221_117_1 : vG := ([(80, [1, 7, 6], [2, 1], 0), (0, [7], [], 17), (20, [6, 1], [1], 16), (90, [6], [], 0), (91, [6], [], 2000), (34, [5], [], 0), (20, [5, 1], [1], 15), (90, [5], [], 0), (91, [5], [], 6), (35, [4], [], 0), (20, [4, 1], [1], 13), (90, [4], [], 0), (91, [4], [], 2), (31, [3], [], 0), (20, [3, 1], [1], 13), (90, [3], [], 0), (91, [3], [], 2), (5000, [0, 1, 2], [0, 1], 117), (0, [0], [], 285), (0, [1], [], 285), (90, [2], [], 0), (91, [2], [], 1)], (4000, [1, 2], [2], 170))
theorem c_221_117_1 {q0 : Nat} : vOkm T0 (eP e_221 L_221 A_221 mu_221 (some q0)) 1 g_221_117_1 := vOk_inI fun ρ η f0 f1 f2 f3 f4 f5 f6 f7 f8 f9 f10 f11 f12 f13 f14 f15 f16 f17 f18 f19 f20 f21 => q_221_14 (q0 := q0) (n0 := ρ 2) (n1 := ρ 1) (n2 := ρ 0) (n3 := ρ 3) (n4 := ρ 4) (n5 := ρ 5) (n6 := ρ 6) (n7 := ρ 7) (H0 := η 0) (H1 := η 1) (H2 := η 2) f21 f20 f19 f18 f17 f16 f15 f14 f13 f12 f11 f10 f9 f8 f7 f6 f5 f4 f3 f2 f1 f0
theorem q_221_15 {q0 : Nat} {n0 n1 n2 n3 n4 n5 n6 : Int} {H0 H1 H2 : gH} (f0 : n0 ≤ 1) (f1 : 0 ≤ n0) (f2 : n1 = 285) (f3 : n2 = 285) (f4 : (hLe T0 H0 H1 ∧ hFr s_221.2.2.2.2 H0 H1 ∧ hWt T0 H1) ∧ (Ab_221_117 n2 n1 n0 H0 H1 ∧ preb_221 n2 H0) ∧ some q0 = some (mub_221_117 n2 n1 n0 H0 H1)) (f5 : n3 ≤ 2) (f6 : 0 ≤ n3) (f7 : n3 = hV H1 (n1).toNat 13) (f8 : n3 ≠ 0) (f9 : n4 ≤ 2) (f10 : 0 ≤ n4) (f11 : n4 = hV H1 (n1).toNat 13) (f12 : 0 < n4) (f13 : n5 ≤ 2000) (f14 : 0 ≤ n5) (f15 : n5 = hV H1 (n1).toNat 14) (f16 : n6 = 17) (f17 : hUpd H2 H1 n1 n6 n5) : Ab_221_170 n2 n1 n0 H0 H2 ∧ ∀ q, some q0 = some q → mub_221_170 n2 n1 n0 H0 H2 < q := by
  have g4 := f4.2.1.1
  unfold Ab_221_117 at g4
  have g3 := f4.2.1.2
  unfold preb_221 at g3
  have g5 := Option.some.inj f4.2.2
  unfold mub_221_117 at g5
  unfold Ab_221_170
  unfold mub_221_170
  have e0 : n3 = hV H1 285 13 := (by rw [f2] at f7; exact f7 : n3 = hV H1 285 13)
  have e1 : n4 = hV H1 285 13 := (by rw [f2] at f11; exact f11 : n4 = hV H1 285 13)
  have e2 : n5 = hV H1 285 14 := (by rw [f2] at f15; exact f15 : n5 = hV H1 285 14)
  have e4 : hV H2 285 13 = hV H1 285 13 := (uSlot f17 285 13 (iS (show n6 = ((17 : Nat) : Int) from f16) rfl))
  have e6 : hV H2 285 15 = hV H1 285 15 := (uSlot f17 285 15 (iS (show n6 = ((17 : Nat) : Int) from f16) rfl))
  have e8 : hV H2 285 18 = hV H1 285 18 := (uSlot f17 285 18 (iS (show n6 = ((17 : Nat) : Int) from f16) rfl))
  have e10 : hV H2 285 32 = hV H1 285 32 := (uSlot f17 285 32 (iS (show n6 = ((17 : Nat) : Int) from f16) rfl))
  have e12 : hV H2 285 34 = hV H1 285 34 := (uSlot f17 285 34 (iS (show n6 = ((17 : Nat) : Int) from f16) rfl))
  have e14 : hV H2 285 35 = hV H1 285 35 := (uSlot f17 285 35 (iS (show n6 = ((17 : Nat) : Int) from f16) rfl))
  have e15 : hV H2 294 = hV H1 294 := uRowNe f17 294 (iS (show n1 = ((285 : Nat) : Int) from f2) rfl)
  have e16 : hV H2 296 = hV H1 296 := uRowNe f17 296 (iS (show n1 = ((285 : Nat) : Int) from f2) rfl)
  have e17 : hV H2 298 = hV H1 298 := uRowNe f17 298 (iS (show n1 = ((285 : Nat) : Int) from f2) rfl)
  have e18 : hV H2 300 = hV H1 300 := uRowNe f17 300 (iS (show n1 = ((285 : Nat) : Int) from f2) rfl)
  have e19 : hV H2 301 = hV H1 301 := uRowNe f17 301 (iS (show n1 = ((285 : Nat) : Int) from f2) rfl)
  have e20 : hV H2 302 = hV H1 302 := uRowNe f17 302 (iS (show n1 = ((285 : Nat) : Int) from f2) rfl)
  have e21 : hV H2 303 = hV H1 303 := uRowNe f17 303 (iS (show n1 = ((285 : Nat) : Int) from f2) rfl)
  have e22 : hV H2 305 = hV H1 305 := uRowNe f17 305 (iS (show n1 = ((285 : Nat) : Int) from f2) rfl)
  have e23 : hV H2 306 = hV H1 306 := uRowNe f17 306 (iS (show n1 = ((285 : Nat) : Int) from f2) rfl)
  have e24 : hV H2 307 = hV H1 307 := uRowNe f17 307 (iS (show n1 = ((285 : Nat) : Int) from f2) rfl)
  have e25 : hV H2 308 = hV H1 308 := uRowNe f17 308 (iS (show n1 = ((285 : Nat) : Int) from f2) rfl)
  have e26 : hV H2 309 = hV H1 309 := uRowNe f17 309 (iS (show n1 = ((285 : Nat) : Int) from f2) rfl)
  have e27 : hV H2 310 = hV H1 310 := uRowNe f17 310 (iS (show n1 = ((285 : Nat) : Int) from f2) rfl)
  have e28 : hV H2 311 = hV H1 311 := uRowNe f17 311 (iS (show n1 = ((285 : Nat) : Int) from f2) rfl)
  have e29 : hV H2 317 = hV H1 317 := uRowNe f17 317 (iS (show n1 = ((285 : Nat) : Int) from f2) rfl)
  have e30 : hV H2 318 = hV H1 318 := uRowNe f17 318 (iS (show n1 = ((285 : Nat) : Int) from f2) rfl)
  have e31 : hV H2 319 = hV H1 319 := uRowNe f17 319 (iS (show n1 = ((285 : Nat) : Int) from f2) rfl)
  have e32 : hV H2 320 = hV H1 320 := uRowNe f17 320 (iS (show n1 = ((285 : Nat) : Int) from f2) rfl)
  have e33 : hV H2 321 = hV H1 321 := uRowNe f17 321 (iS (show n1 = ((285 : Nat) : Int) from f2) rfl)
  have e34 : AC H2 = AC H1 := AC_upF f17 f2 (show n6 = ((17 : Nat) : Int) from f16) (by decide)
  have e35 : PG H2 = PG H1 := PG_upF f17 f2 (show n6 = ((17 : Nat) : Int) from f16) (by decide)
  have e36 : PQ H2 = PQ H1 := PQ_upF f17 f2 (show n6 = ((17 : Nat) : Int) from f16) (by decide)
  have e37 : RN H2 = RN H1 := RN_upF f17 f2 (show n6 = ((17 : Nat) : Int) from f16) (by decide)
  have e38 : RV H2 = RV H1 := RV_upF f17 f2 (show n6 = ((17 : Nat) : Int) from f16) (by decide)
  have e39 : SO H2 = SO H1 := SO_upF f17 f2 (show n6 = ((17 : Nat) : Int) from f16) (by decide)
  have e40 : (0 : Int) ≤ hV H1 285 13 ∧ hV H1 285 13 ≤ 2 := f4.1.2.2 285 13 _ _ kW_285_13
  have e41 : (0 : Int) ≤ hV H1 285 15 ∧ hV H1 285 15 ≤ 6 := f4.1.2.2 285 15 _ _ kW_285_15
  have e42 : (0 : Int) ≤ hV H1 285 18 ∧ hV H1 285 18 ≤ 8 := f4.1.2.2 285 18 _ _ kW_285_18
  have e43 : (0 : Int) ≤ hV H1 285 32 ∧ hV H1 285 32 ≤ 7 := f4.1.2.2 285 32 _ _ kW_285_32
  have e44 : (0 : Int) ≤ hV H1 285 34 ∧ hV H1 285 34 ≤ 1 := f4.1.2.2 285 34 _ _ kW_285_34
  have e45 : (0 : Int) ≤ hV H1 285 35 ∧ hV H1 285 35 ≤ 1 := f4.1.2.2 285 35 _ _ kW_285_35
  try simp only [e4, e6, e8, e10, e12, e14, e15, e16, e17, e18, e19, e20, e21, e22, e23, e24, e25, e26, e27, e28, e29, e30, e31, e32, e33, e34, e35, e36, e37, e38, e39]
  have y0 := g4.1
  have y1 := g4.2.1
  have y2 := g4.2.2.1
  have y3 := g4.2.2.2.1
  have y4 := g4.2.2.2.2.1
  have y5 := g4.2.2.2.2.2.1
  have y6 := g4.2.2.2.2.2.2.1
  have y7 := g4.2.2.2.2.2.2.2.1
  have y8 := g4.2.2.2.2.2.2.2.2.1
  have y9 := g4.2.2.2.2.2.2.2.2.2.1
  have y10 := g4.2.2.2.2.2.2.2.2.2.2
  have p0 := g3.1
  have p1 := g3.2.1
  have p2 := g3.2.2.1
  have p3 := g3.2.2.2.1
  have p4 := g3.2.2.2.2.1
  have p5 := g3.2.2.2.2.2
  clear g3
  clear g4
  clear f7 f11 f15 e4 e6 e8 e10 e12 e14 e15 e16 e17 e18 e19 e20 e21 e22 e23 e24 e25 e26 e27 e28 e29 e30 e31 e32 e33 e34 e35 e36 e37 e38 e39
  clear f4
  subst e0
  subst e1
  subst e2

  refine ⟨⟨?_, ?_, ?_, ?_, ?_, ?_, ?_, ?_, ?_, ?_, ?_⟩, fun q hq => ?_⟩
  · exact y0
  · exact y1
  · exact y2
  · exact y3
  · exact y4
  · exact y5
  · first | trivial | omega
  · first | trivial | omega
  · first | trivial | omega
  · intro a b c
    exact y9 (by omega) (by omega) (by omega)
  · intro a b
    exact y10 (by omega) (by omega)
  · have g6 := Option.some.inj hq
    subst g6
    omega
def g_221_117_2 : vG := ([(80, [1, 6, 5], [2, 1], 0), (0, [6], [], 17), (20, [5, 1], [1], 14), (90, [5], [], 0), (91, [5], [], 2000), (34, [4], [], 0), (20, [4, 1], [1], 13), (90, [4], [], 0), (91, [4], [], 2), (31, [3], [], 0), (20, [3, 1], [1], 13), (90, [3], [], 0), (91, [3], [], 2), (5000, [0, 1, 2], [0, 1], 117), (0, [0], [], 285), (0, [1], [], 285), (90, [2], [], 0), (91, [2], [], 1)], (4000, [1, 2], [2], 170))
theorem c_221_117_2 {q0 : Nat} : vOkm T0 (eP e_221 L_221 A_221 mu_221 (some q0)) 1 g_221_117_2 := vOk_inI fun ρ η f0 f1 f2 f3 f4 f5 f6 f7 f8 f9 f10 f11 f12 f13 f14 f15 f16 f17 => q_221_15 (q0 := q0) (n0 := ρ 2) (n1 := ρ 1) (n2 := ρ 0) (n3 := ρ 3) (n4 := ρ 4) (n5 := ρ 5) (n6 := ρ 6) (H0 := η 0) (H1 := η 1) (H2 := η 2) f17 f16 f15 f14 f13 f12 f11 f10 f9 f8 f7 f6 f5 f4 f3 f2 f1 f0
theorem q_221_16 {q0 : Nat} {n0 n1 n2 n3 n4 n5 n6 n7 n8 n9 : Int} {H0 H1 H2 H3 : gH} (f0 : n0 ≤ 1) (f1 : 0 ≤ n0) (f2 : n1 = 285) (f3 : n2 = 285) (f4 : (hLe T0 H0 H1 ∧ hFr s_221.2.2.2.2 H0 H1 ∧ hWt T0 H1) ∧ (Ab_221_117 n2 n1 n0 H0 H1 ∧ preb_221 n2 H0) ∧ some q0 = some (mub_221_117 n2 n1 n0 H0 H1)) (f5 : n3 ≤ 2) (f6 : 0 ≤ n3) (f7 : n3 = hV H1 (n1).toNat 13) (f8 : n3 = 0) (f9 : n4 = 0) (f10 : n5 ≤ 1) (f11 : 0 ≤ n5) (f12 : (hLe T0 H1 H2 ∧ hFr s_216.2.2.2.2 H1 H2 ∧ ((0 : Int) = 0 → H2.length = H1.length) ∧ hWt T0 H2) ∧ postb_216 n5 n1 n4 H1 H2) (f13 : n5 ≠ 0) (f14 : n6 ≤ 2) (f15 : 0 ≤ n6) (f16 : n6 = hV H2 (n1).toNat 13) (f17 : n6 ≤ 0) (f18 : n7 ≤ 6) (f19 : 0 ≤ n7) (f20 : n7 = hV H2 (n1).toNat 15) (f21 : n7 ≤ 0) (f22 : n8 = (-1)) (f23 : n9 = 17) (f24 : hUpd H3 H2 n1 n9 n8) : Ab_221_170 n2 n1 n0 H0 H3 ∧ ∀ q, some q0 = some q → mub_221_170 n2 n1 n0 H0 H3 < q := by
  have g4 := f4.2.1.1
  unfold Ab_221_117 at g4
  have g3 := f4.2.1.2
  unfold preb_221 at g3
  have g5 := Option.some.inj f4.2.2
  unfold mub_221_117 at g5
  unfold postb_216 at f12
  unfold Ab_221_170
  unfold mub_221_170
  have e0 : n3 = hV H1 285 13 := (by rw [f2] at f7; exact f7 : n3 = hV H1 285 13)
  have e2 : n6 = hV H1 285 13 := (by rw [f2] at f16; exact f16 : n6 = hV H2 285 13).trans ((f12.1.2.1.1 285 13 kF_216_285_13))
  have e4 : n7 = hV H1 285 15 := (by rw [f2] at f20; exact f20 : n7 = hV H2 285 15).trans ((f12.1.2.1.1 285 15 kF_216_285_15))
  have e6 : hV H2 285 11 = hV H1 285 11 := (f12.1.2.1.1 285 11 kF_216_285_11)
  have e7 : hV H2 285 13 = hV H1 285 13 := (f12.1.2.1.1 285 13 kF_216_285_13)
  have e8 : hV H2 288 = hV H1 288 := fRow f12.1.2.1 288 kR_216_288
  have e10 : hV H3 285 13 = hV H1 285 13 := ((uSlot f24 285 13 (iS (show n9 = ((17 : Nat) : Int) from f23) rfl))).trans (f12.1.2.1.1 285 13 kF_216_285_13)
  have e12 : hV H3 285 15 = hV H1 285 15 := ((uSlot f24 285 15 (iS (show n9 = ((17 : Nat) : Int) from f23) rfl))).trans (f12.1.2.1.1 285 15 kF_216_285_15)
  have e15 : hV H3 285 18 = hV H1 285 18 := ((uSlot f24 285 18 (iS (show n9 = ((17 : Nat) : Int) from f23) rfl))).trans (f12.1.2.1.1 285 18 kF_216_285_18)
  have e18 : hV H3 285 32 = hV H1 285 32 := ((uSlot f24 285 32 (iS (show n9 = ((17 : Nat) : Int) from f23) rfl))).trans (f12.1.2.1.1 285 32 kF_216_285_32)
  have e21 : hV H3 285 34 = hV H1 285 34 := ((uSlot f24 285 34 (iS (show n9 = ((17 : Nat) : Int) from f23) rfl))).trans (f12.1.2.1.1 285 34 kF_216_285_34)
  have e24 : hV H3 285 35 = hV H1 285 35 := ((uSlot f24 285 35 (iS (show n9 = ((17 : Nat) : Int) from f23) rfl))).trans (f12.1.2.1.1 285 35 kF_216_285_35)
  have e27 : hV H3 294 = hV H1 294 := (uRowNe f24 294 (iS (show n1 = ((285 : Nat) : Int) from f2) rfl)).trans (fRow f12.1.2.1 294 kR_216_294)
  have e30 : hV H3 296 = hV H1 296 := (uRowNe f24 296 (iS (show n1 = ((285 : Nat) : Int) from f2) rfl)).trans (fRow f12.1.2.1 296 kR_216_296)
  have e33 : hV H3 298 = hV H1 298 := (uRowNe f24 298 (iS (show n1 = ((285 : Nat) : Int) from f2) rfl)).trans (fRow f12.1.2.1 298 kR_216_298)
  have e36 : hV H3 300 = hV H1 300 := (uRowNe f24 300 (iS (show n1 = ((285 : Nat) : Int) from f2) rfl)).trans (fRow f12.1.2.1 300 kR_216_300)
  have e39 : hV H3 301 = hV H1 301 := (uRowNe f24 301 (iS (show n1 = ((285 : Nat) : Int) from f2) rfl)).trans (fRow f12.1.2.1 301 kR_216_301)
  have e42 : hV H3 302 = hV H1 302 := (uRowNe f24 302 (iS (show n1 = ((285 : Nat) : Int) from f2) rfl)).trans (fRow f12.1.2.1 302 kR_216_302)
  have e45 : hV H3 303 = hV H1 303 := (uRowNe f24 303 (iS (show n1 = ((285 : Nat) : Int) from f2) rfl)).trans (fRow f12.1.2.1 303 kR_216_303)
  have e48 : hV H3 305 = hV H1 305 := (uRowNe f24 305 (iS (show n1 = ((285 : Nat) : Int) from f2) rfl)).trans (fRow f12.1.2.1 305 kR_216_305)
  have e51 : hV H3 306 = hV H1 306 := (uRowNe f24 306 (iS (show n1 = ((285 : Nat) : Int) from f2) rfl)).trans (fRow f12.1.2.1 306 kR_216_306)
  have e54 : hV H3 307 = hV H1 307 := (uRowNe f24 307 (iS (show n1 = ((285 : Nat) : Int) from f2) rfl)).trans (fRow f12.1.2.1 307 kR_216_307)
  have e57 : hV H3 308 = hV H1 308 := (uRowNe f24 308 (iS (show n1 = ((285 : Nat) : Int) from f2) rfl)).trans (fRow f12.1.2.1 308 kR_216_308)
  have e60 : hV H3 309 = hV H1 309 := (uRowNe f24 309 (iS (show n1 = ((285 : Nat) : Int) from f2) rfl)).trans (fRow f12.1.2.1 309 kR_216_309)
  have e63 : hV H3 310 = hV H1 310 := (uRowNe f24 310 (iS (show n1 = ((285 : Nat) : Int) from f2) rfl)).trans (fRow f12.1.2.1 310 kR_216_310)
  have e66 : hV H3 311 = hV H1 311 := (uRowNe f24 311 (iS (show n1 = ((285 : Nat) : Int) from f2) rfl)).trans (fRow f12.1.2.1 311 kR_216_311)
  have e69 : hV H3 317 = hV H1 317 := (uRowNe f24 317 (iS (show n1 = ((285 : Nat) : Int) from f2) rfl)).trans (fRow f12.1.2.1 317 kR_216_317)
  have e72 : hV H3 318 = hV H1 318 := (uRowNe f24 318 (iS (show n1 = ((285 : Nat) : Int) from f2) rfl)).trans (fRow f12.1.2.1 318 kR_216_318)
  have e75 : hV H3 319 = hV H1 319 := (uRowNe f24 319 (iS (show n1 = ((285 : Nat) : Int) from f2) rfl)).trans (fRow f12.1.2.1 319 kR_216_319)
  have e78 : hV H3 320 = hV H1 320 := (uRowNe f24 320 (iS (show n1 = ((285 : Nat) : Int) from f2) rfl)).trans (fRow f12.1.2.1 320 kR_216_320)
  have e81 : hV H3 321 = hV H1 321 := (uRowNe f24 321 (iS (show n1 = ((285 : Nat) : Int) from f2) rfl)).trans (fRow f12.1.2.1 321 kR_216_321)
  have e82 : AC H2 = AC H1 := AC_fr f12.1.2.1 (by decide +kernel)
  have e83 : AC H3 = AC H2 := AC_upF f24 f2 (show n9 = ((17 : Nat) : Int) from f23) (by decide)
  have e84 : AC H3 = AC H1 := e83.trans e82
  have e85 : PG H2 = PG H1 := PG_fr f12.1.2.1 (by decide +kernel)
  have e86 : PG H3 = PG H2 := PG_upF f24 f2 (show n9 = ((17 : Nat) : Int) from f23) (by decide)
  have e87 : PG H3 = PG H1 := e86.trans e85
  have e88 : PQ H2 = PQ H1 := PQ_fr f12.1.2.1 (by decide +kernel)
  have e89 : PQ H3 = PQ H2 := PQ_upF f24 f2 (show n9 = ((17 : Nat) : Int) from f23) (by decide)
  have e90 : PQ H3 = PQ H1 := e89.trans e88
  have e91 : RN H2 = RN H1 := RN_fr f12.1.2.1 (by decide +kernel)
  have e92 : RN H3 = RN H2 := RN_upF f24 f2 (show n9 = ((17 : Nat) : Int) from f23) (by decide)
  have e93 : RN H3 = RN H1 := e92.trans e91
  have e94 : RV H2 = RV H1 := RV_fr f12.1.2.1 (by decide +kernel)
  have e95 : RV H3 = RV H2 := RV_upF f24 f2 (show n9 = ((17 : Nat) : Int) from f23) (by decide)
  have e96 : RV H3 = RV H1 := e95.trans e94
  have e97 : SO H2 = SO H1 := SO_fr f12.1.2.1 (by decide +kernel)
  have e98 : SO H3 = SO H2 := SO_upF f24 f2 (show n9 = ((17 : Nat) : Int) from f23) (by decide)
  have e99 : SO H3 = SO H1 := e98.trans e97
  have e100 : (0 : Int) ≤ hV H1 285 11 ∧ hV H1 285 11 ≤ 500 := f4.1.2.2 285 11 _ _ kW_285_11
  have e101 : (0 : Int) ≤ hV H1 285 13 ∧ hV H1 285 13 ≤ 2 := f4.1.2.2 285 13 _ _ kW_285_13
  have e102 : (0 : Int) ≤ hV H1 285 15 ∧ hV H1 285 15 ≤ 6 := f4.1.2.2 285 15 _ _ kW_285_15
  have e103 : (0 : Int) ≤ hV H1 285 18 ∧ hV H1 285 18 ≤ 8 := f4.1.2.2 285 18 _ _ kW_285_18
  have e104 : (0 : Int) ≤ hV H1 285 32 ∧ hV H1 285 32 ≤ 7 := f4.1.2.2 285 32 _ _ kW_285_32
  have e105 : (0 : Int) ≤ hV H1 285 34 ∧ hV H1 285 34 ≤ 1 := f4.1.2.2 285 34 _ _ kW_285_34
  have e106 : (0 : Int) ≤ hV H1 285 35 ∧ hV H1 285 35 ≤ 1 := f4.1.2.2 285 35 _ _ kW_285_35
  try simp only [e10, e12, e15, e18, e21, e24, e27, e30, e33, e36, e39, e42, e45, e48, e51, e54, e57, e60, e63, e66, e69, e72, e75, e78, e81, e84, e87, e90, e93, e96, e99]
  have y0 := g4.1
  have y1 := g4.2.1
  have y2 := g4.2.2.1
  have y3 := g4.2.2.2.1
  have y4 := g4.2.2.2.2.1
  have y5 := g4.2.2.2.2.2.1
  have y6 := g4.2.2.2.2.2.2.1
  have y7 := g4.2.2.2.2.2.2.2.1
  have y8 := g4.2.2.2.2.2.2.2.2.1
  have y9 := g4.2.2.2.2.2.2.2.2.2.1
  have y10 := g4.2.2.2.2.2.2.2.2.2.2
  have p0 := g3.1
  have p1 := g3.2.1
  have p2 := g3.2.2.1
  have p3 := g3.2.2.2.1
  have p4 := g3.2.2.2.2.1
  have p5 := g3.2.2.2.2.2
  have r0_0 := f12.2.1
  have r0_1 := f12.2.2
  try simp only [e7] at r0_0
  try simp only [e6, e7, e8] at r0_1
  clear g3
  clear g4
  clear f7 f16 f20 e6 e7 e8 e10 e12 e15 e18 e21 e24 e27 e30 e33 e36 e39 e42 e45 e48 e51 e54 e57 e60 e63 e66 e69 e72 e75 e78 e81 e82 e83 e84 e85 e86 e87 e88 e89 e90 e91 e92 e93 e94 e95 e96 e97 e98 e99
  clear f4 f12
  subst e0
  subst e2
  subst e4

  refine ⟨⟨?_, ?_, ?_, ?_, ?_, ?_, ?_, ?_, ?_, ?_, ?_⟩, fun q hq => ?_⟩
  · exact y0
  · exact y1
  · exact y2
  · exact y3
  · exact y4
  · exact y5
  · first | trivial | omega
  · first | trivial | omega
  · first | trivial | omega
  · intro a b c
    exact y9 (by omega) (by omega) (by omega)
  · intro a b
    exact y10 (by omega) (by omega)
  · have g6 := Option.some.inj hq
    subst g6
    omega
def g_221_117_3 : vG := ([(80, [1, 9, 8], [3, 2], 0), (0, [9], [], 17), (0, [8], [], -1), (35, [7], [], 0), (20, [7, 1], [2], 15), (90, [7], [], 0), (91, [7], [], 6), (35, [6], [], 0), (20, [6, 1], [2], 13), (90, [6], [], 0), (91, [6], [], 2), (31, [5], [], 0), (1216, [5, 1, 4], [1, 2], 0), (90, [5], [], 0), (91, [5], [], 1), (0, [4], [], 0), (30, [3], [], 0), (20, [3, 1], [1], 13), (90, [3], [], 0), (91, [3], [], 2), (5000, [0, 1, 2], [0, 1], 117), (0, [0], [], 285), (0, [1], [], 285), (90, [2], [], 0), (91, [2], [], 1)], (4000, [1, 2], [3], 170))
theorem c_221_117_3 {q0 : Nat} : vOkm T0 (eP e_221 L_221 A_221 mu_221 (some q0)) 1 g_221_117_3 := vOk_inI fun ρ η f0 f1 f2 f3 f4 f5 f6 f7 f8 f9 f10 f11 f12 f13 f14 f15 f16 f17 f18 f19 f20 f21 f22 f23 f24 => q_221_16 (q0 := q0) (n0 := ρ 2) (n1 := ρ 1) (n2 := ρ 0) (n3 := ρ 3) (n4 := ρ 4) (n5 := ρ 5) (n6 := ρ 6) (n7 := ρ 7) (n8 := ρ 8) (n9 := ρ 9) (H0 := η 0) (H1 := η 1) (H2 := η 2) (H3 := η 3) f24 f23 f22 f21 f20 f19 f18 f17 f16 f15 f14 f13 f12 f11 f10 f9 f8 f7 f6 f5 f4 f3 f2 f1 f0
theorem kF_216_285_16 : vFree s_216.2.2.2.2 285 16 = true := by decide +kernel
theorem q_221_17 {q0 : Nat} {n0 n1 n2 n3 n4 n5 n6 n7 n8 n9 : Int} {H0 H1 H2 H3 : gH} (f0 : n0 ≤ 1) (f1 : 0 ≤ n0) (f2 : n1 = 285) (f3 : n2 = 285) (f4 : (hLe T0 H0 H1 ∧ hFr s_221.2.2.2.2 H0 H1 ∧ hWt T0 H1) ∧ (Ab_221_117 n2 n1 n0 H0 H1 ∧ preb_221 n2 H0) ∧ some q0 = some (mub_221_117 n2 n1 n0 H0 H1)) (f5 : n3 ≤ 2) (f6 : 0 ≤ n3) (f7 : n3 = hV H1 (n1).toNat 13) (f8 : n3 = 0) (f9 : n4 = 0) (f10 : n5 ≤ 1) (f11 : 0 ≤ n5) (f12 : (hLe T0 H1 H2 ∧ hFr s_216.2.2.2.2 H1 H2 ∧ ((0 : Int) = 0 → H2.length = H1.length) ∧ hWt T0 H2) ∧ postb_216 n5 n1 n4 H1 H2) (f13 : n5 ≠ 0) (f14 : n6 ≤ 2) (f15 : 0 ≤ n6) (f16 : n6 = hV H2 (n1).toNat 13) (f17 : n6 ≤ 0) (f18 : n7 ≤ 6) (f19 : 0 ≤ n7) (f20 : n7 = hV H2 (n1).toNat 15) (f21 : 0 < n7) (f22 : n8 ≤ 2000) (f23 : 0 ≤ n8) (f24 : n8 = hV H2 (n1).toNat 16) (f25 : n9 = 17) (f26 : hUpd H3 H2 n1 n9 n8) : Ab_221_170 n2 n1 n0 H0 H3 ∧ ∀ q, some q0 = some q → mub_221_170 n2 n1 n0 H0 H3 < q := by
  have g4 := f4.2.1.1
  unfold Ab_221_117 at g4
  have g3 := f4.2.1.2
  unfold preb_221 at g3
  have g5 := Option.some.inj f4.2.2
  unfold mub_221_117 at g5
  unfold postb_216 at f12
  unfold Ab_221_170
  unfold mub_221_170
  have e0 : n3 = hV H1 285 13 := (by rw [f2] at f7; exact f7 : n3 = hV H1 285 13)
  have e2 : n6 = hV H1 285 13 := (by rw [f2] at f16; exact f16 : n6 = hV H2 285 13).trans ((f12.1.2.1.1 285 13 kF_216_285_13))
  have e4 : n7 = hV H1 285 15 := (by rw [f2] at f20; exact f20 : n7 = hV H2 285 15).trans ((f12.1.2.1.1 285 15 kF_216_285_15))
  have e6 : n8 = hV H1 285 16 := (by rw [f2] at f24; exact f24 : n8 = hV H2 285 16).trans ((f12.1.2.1.1 285 16 kF_216_285_16))
  have e8 : hV H2 285 11 = hV H1 285 11 := (f12.1.2.1.1 285 11 kF_216_285_11)
  have e9 : hV H2 285 13 = hV H1 285 13 := (f12.1.2.1.1 285 13 kF_216_285_13)
  have e10 : hV H2 288 = hV H1 288 := fRow f12.1.2.1 288 kR_216_288
  have e12 : hV H3 285 13 = hV H1 285 13 := ((uSlot f26 285 13 (iS (show n9 = ((17 : Nat) : Int) from f25) rfl))).trans (f12.1.2.1.1 285 13 kF_216_285_13)
  have e14 : hV H3 285 15 = hV H1 285 15 := ((uSlot f26 285 15 (iS (show n9 = ((17 : Nat) : Int) from f25) rfl))).trans (f12.1.2.1.1 285 15 kF_216_285_15)
  have e17 : hV H3 285 18 = hV H1 285 18 := ((uSlot f26 285 18 (iS (show n9 = ((17 : Nat) : Int) from f25) rfl))).trans (f12.1.2.1.1 285 18 kF_216_285_18)
  have e20 : hV H3 285 32 = hV H1 285 32 := ((uSlot f26 285 32 (iS (show n9 = ((17 : Nat) : Int) from f25) rfl))).trans (f12.1.2.1.1 285 32 kF_216_285_32)
  have e23 : hV H3 285 34 = hV H1 285 34 := ((uSlot f26 285 34 (iS (show n9 = ((17 : Nat) : Int) from f25) rfl))).trans (f12.1.2.1.1 285 34 kF_216_285_34)
  have e26 : hV H3 285 35 = hV H1 285 35 := ((uSlot f26 285 35 (iS (show n9 = ((17 : Nat) : Int) from f25) rfl))).trans (f12.1.2.1.1 285 35 kF_216_285_35)
  have e29 : hV H3 294 = hV H1 294 := (uRowNe f26 294 (iS (show n1 = ((285 : Nat) : Int) from f2) rfl)).trans (fRow f12.1.2.1 294 kR_216_294)
  have e32 : hV H3 296 = hV H1 296 := (uRowNe f26 296 (iS (show n1 = ((285 : Nat) : Int) from f2) rfl)).trans (fRow f12.1.2.1 296 kR_216_296)
  have e35 : hV H3 298 = hV H1 298 := (uRowNe f26 298 (iS (show n1 = ((285 : Nat) : Int) from f2) rfl)).trans (fRow f12.1.2.1 298 kR_216_298)
  have e38 : hV H3 300 = hV H1 300 := (uRowNe f26 300 (iS (show n1 = ((285 : Nat) : Int) from f2) rfl)).trans (fRow f12.1.2.1 300 kR_216_300)
  have e41 : hV H3 301 = hV H1 301 := (uRowNe f26 301 (iS (show n1 = ((285 : Nat) : Int) from f2) rfl)).trans (fRow f12.1.2.1 301 kR_216_301)
  have e44 : hV H3 302 = hV H1 302 := (uRowNe f26 302 (iS (show n1 = ((285 : Nat) : Int) from f2) rfl)).trans (fRow f12.1.2.1 302 kR_216_302)
  have e47 : hV H3 303 = hV H1 303 := (uRowNe f26 303 (iS (show n1 = ((285 : Nat) : Int) from f2) rfl)).trans (fRow f12.1.2.1 303 kR_216_303)
  have e50 : hV H3 305 = hV H1 305 := (uRowNe f26 305 (iS (show n1 = ((285 : Nat) : Int) from f2) rfl)).trans (fRow f12.1.2.1 305 kR_216_305)
  have e53 : hV H3 306 = hV H1 306 := (uRowNe f26 306 (iS (show n1 = ((285 : Nat) : Int) from f2) rfl)).trans (fRow f12.1.2.1 306 kR_216_306)
  have e56 : hV H3 307 = hV H1 307 := (uRowNe f26 307 (iS (show n1 = ((285 : Nat) : Int) from f2) rfl)).trans (fRow f12.1.2.1 307 kR_216_307)
  have e59 : hV H3 308 = hV H1 308 := (uRowNe f26 308 (iS (show n1 = ((285 : Nat) : Int) from f2) rfl)).trans (fRow f12.1.2.1 308 kR_216_308)
  have e62 : hV H3 309 = hV H1 309 := (uRowNe f26 309 (iS (show n1 = ((285 : Nat) : Int) from f2) rfl)).trans (fRow f12.1.2.1 309 kR_216_309)
  have e65 : hV H3 310 = hV H1 310 := (uRowNe f26 310 (iS (show n1 = ((285 : Nat) : Int) from f2) rfl)).trans (fRow f12.1.2.1 310 kR_216_310)
  have e68 : hV H3 311 = hV H1 311 := (uRowNe f26 311 (iS (show n1 = ((285 : Nat) : Int) from f2) rfl)).trans (fRow f12.1.2.1 311 kR_216_311)
  have e71 : hV H3 317 = hV H1 317 := (uRowNe f26 317 (iS (show n1 = ((285 : Nat) : Int) from f2) rfl)).trans (fRow f12.1.2.1 317 kR_216_317)
  have e74 : hV H3 318 = hV H1 318 := (uRowNe f26 318 (iS (show n1 = ((285 : Nat) : Int) from f2) rfl)).trans (fRow f12.1.2.1 318 kR_216_318)
  have e77 : hV H3 319 = hV H1 319 := (uRowNe f26 319 (iS (show n1 = ((285 : Nat) : Int) from f2) rfl)).trans (fRow f12.1.2.1 319 kR_216_319)
  have e80 : hV H3 320 = hV H1 320 := (uRowNe f26 320 (iS (show n1 = ((285 : Nat) : Int) from f2) rfl)).trans (fRow f12.1.2.1 320 kR_216_320)
  have e83 : hV H3 321 = hV H1 321 := (uRowNe f26 321 (iS (show n1 = ((285 : Nat) : Int) from f2) rfl)).trans (fRow f12.1.2.1 321 kR_216_321)
  have e84 : AC H2 = AC H1 := AC_fr f12.1.2.1 (by decide +kernel)
  have e85 : AC H3 = AC H2 := AC_upF f26 f2 (show n9 = ((17 : Nat) : Int) from f25) (by decide)
  have e86 : AC H3 = AC H1 := e85.trans e84
  have e87 : PG H2 = PG H1 := PG_fr f12.1.2.1 (by decide +kernel)
  have e88 : PG H3 = PG H2 := PG_upF f26 f2 (show n9 = ((17 : Nat) : Int) from f25) (by decide)
  have e89 : PG H3 = PG H1 := e88.trans e87
  have e90 : PQ H2 = PQ H1 := PQ_fr f12.1.2.1 (by decide +kernel)
  have e91 : PQ H3 = PQ H2 := PQ_upF f26 f2 (show n9 = ((17 : Nat) : Int) from f25) (by decide)
  have e92 : PQ H3 = PQ H1 := e91.trans e90
  have e93 : RN H2 = RN H1 := RN_fr f12.1.2.1 (by decide +kernel)
  have e94 : RN H3 = RN H2 := RN_upF f26 f2 (show n9 = ((17 : Nat) : Int) from f25) (by decide)
  have e95 : RN H3 = RN H1 := e94.trans e93
  have e96 : RV H2 = RV H1 := RV_fr f12.1.2.1 (by decide +kernel)
  have e97 : RV H3 = RV H2 := RV_upF f26 f2 (show n9 = ((17 : Nat) : Int) from f25) (by decide)
  have e98 : RV H3 = RV H1 := e97.trans e96
  have e99 : SO H2 = SO H1 := SO_fr f12.1.2.1 (by decide +kernel)
  have e100 : SO H3 = SO H2 := SO_upF f26 f2 (show n9 = ((17 : Nat) : Int) from f25) (by decide)
  have e101 : SO H3 = SO H1 := e100.trans e99
  have e102 : (0 : Int) ≤ hV H1 285 11 ∧ hV H1 285 11 ≤ 500 := f4.1.2.2 285 11 _ _ kW_285_11
  have e103 : (0 : Int) ≤ hV H1 285 13 ∧ hV H1 285 13 ≤ 2 := f4.1.2.2 285 13 _ _ kW_285_13
  have e104 : (0 : Int) ≤ hV H1 285 15 ∧ hV H1 285 15 ≤ 6 := f4.1.2.2 285 15 _ _ kW_285_15
  have e105 : (0 : Int) ≤ hV H1 285 18 ∧ hV H1 285 18 ≤ 8 := f4.1.2.2 285 18 _ _ kW_285_18
  have e106 : (0 : Int) ≤ hV H1 285 32 ∧ hV H1 285 32 ≤ 7 := f4.1.2.2 285 32 _ _ kW_285_32
  have e107 : (0 : Int) ≤ hV H1 285 34 ∧ hV H1 285 34 ≤ 1 := f4.1.2.2 285 34 _ _ kW_285_34
  have e108 : (0 : Int) ≤ hV H1 285 35 ∧ hV H1 285 35 ≤ 1 := f4.1.2.2 285 35 _ _ kW_285_35
  try simp only [e12, e14, e17, e20, e23, e26, e29, e32, e35, e38, e41, e44, e47, e50, e53, e56, e59, e62, e65, e68, e71, e74, e77, e80, e83, e86, e89, e92, e95, e98, e101]
  have y0 := g4.1
  have y1 := g4.2.1
  have y2 := g4.2.2.1
  have y3 := g4.2.2.2.1
  have y4 := g4.2.2.2.2.1
  have y5 := g4.2.2.2.2.2.1
  have y6 := g4.2.2.2.2.2.2.1
  have y7 := g4.2.2.2.2.2.2.2.1
  have y8 := g4.2.2.2.2.2.2.2.2.1
  have y9 := g4.2.2.2.2.2.2.2.2.2.1
  have y10 := g4.2.2.2.2.2.2.2.2.2.2
  have p0 := g3.1
  have p1 := g3.2.1
  have p2 := g3.2.2.1
  have p3 := g3.2.2.2.1
  have p4 := g3.2.2.2.2.1
  have p5 := g3.2.2.2.2.2
  have r0_0 := f12.2.1
  have r0_1 := f12.2.2
  try simp only [e9] at r0_0
  try simp only [e8, e9, e10] at r0_1
  clear g3
  clear g4
  clear f7 f16 f20 f24 e8 e9 e10 e12 e14 e17 e20 e23 e26 e29 e32 e35 e38 e41 e44 e47 e50 e53 e56 e59 e62 e65 e68 e71 e74 e77 e80 e83 e84 e85 e86 e87 e88 e89 e90 e91 e92 e93 e94 e95 e96 e97 e98 e99 e100 e101
  clear f4 f12
  subst e0
  subst e2
  subst e4
  subst e6

  refine ⟨⟨?_, ?_, ?_, ?_, ?_, ?_, ?_, ?_, ?_, ?_, ?_⟩, fun q hq => ?_⟩
  · exact y0
  · exact y1
  · exact y2
  · exact y3
  · exact y4
  · exact y5
  · first | trivial | omega
  · first | trivial | omega
  · first | trivial | omega
  · intro a b c
    exact y9 (by omega) (by omega) (by omega)
  · intro a b
    exact y10 (by omega) (by omega)
  · have g6 := Option.some.inj hq
    subst g6
    omega
def g_221_117_4 : vG := ([(80, [1, 9, 8], [3, 2], 0), (0, [9], [], 17), (20, [8, 1], [2], 16), (90, [8], [], 0), (91, [8], [], 2000), (34, [7], [], 0), (20, [7, 1], [2], 15), (90, [7], [], 0), (91, [7], [], 6), (35, [6], [], 0), (20, [6, 1], [2], 13), (90, [6], [], 0), (91, [6], [], 2), (31, [5], [], 0), (1216, [5, 1, 4], [1, 2], 0), (90, [5], [], 0), (91, [5], [], 1), (0, [4], [], 0), (30, [3], [], 0), (20, [3, 1], [1], 13), (90, [3], [], 0), (91, [3], [], 2), (5000, [0, 1, 2], [0, 1], 117), (0, [0], [], 285), (0, [1], [], 285), (90, [2], [], 0), (91, [2], [], 1)], (4000, [1, 2], [3], 170))
theorem c_221_117_4 {q0 : Nat} : vOkm T0 (eP e_221 L_221 A_221 mu_221 (some q0)) 1 g_221_117_4 := vOk_inI fun ρ η f0 f1 f2 f3 f4 f5 f6 f7 f8 f9 f10 f11 f12 f13 f14 f15 f16 f17 f18 f19 f20 f21 f22 f23 f24 f25 f26 => q_221_17 (q0 := q0) (n0 := ρ 2) (n1 := ρ 1) (n2 := ρ 0) (n3 := ρ 3) (n4 := ρ 4) (n5 := ρ 5) (n6 := ρ 6) (n7 := ρ 7) (n8 := ρ 8) (n9 := ρ 9) (H0 := η 0) (H1 := η 1) (H2 := η 2) (H3 := η 3) f26 f25 f24 f23 f22 f21 f20 f19 f18 f17 f16 f15 f14 f13 f12 f11 f10 f9 f8 f7 f6 f5 f4 f3 f2 f1 f0
theorem kF_216_285_14 : vFree s_216.2.2.2.2 285 14 = true := by decide +kernel
theorem q_221_18 {q0 : Nat} {n0 n1 n2 n3 n4 n5 n6 n7 n8 : Int} {H0 H1 H2 H3 : gH} (f0 : n0 ≤ 1) (f1 : 0 ≤ n0) (f2 : n1 = 285) (f3 : n2 = 285) (f4 : (hLe T0 H0 H1 ∧ hFr s_221.2.2.2.2 H0 H1 ∧ hWt T0 H1) ∧ (Ab_221_117 n2 n1 n0 H0 H1 ∧ preb_221 n2 H0) ∧ some q0 = some (mub_221_117 n2 n1 n0 H0 H1)) (f5 : n3 ≤ 2) (f6 : 0 ≤ n3) (f7 : n3 = hV H1 (n1).toNat 13) (f8 : n3 = 0) (f9 : n4 = 0) (f10 : n5 ≤ 1) (f11 : 0 ≤ n5) (f12 : (hLe T0 H1 H2 ∧ hFr s_216.2.2.2.2 H1 H2 ∧ ((0 : Int) = 0 → H2.length = H1.length) ∧ hWt T0 H2) ∧ postb_216 n5 n1 n4 H1 H2) (f13 : n5 ≠ 0) (f14 : n6 ≤ 2) (f15 : 0 ≤ n6) (f16 : n6 = hV H2 (n1).toNat 13) (f17 : 0 < n6) (f18 : n7 ≤ 2000) (f19 : 0 ≤ n7) (f20 : n7 = hV H2 (n1).toNat 14) (f21 : n8 = 17) (f22 : hUpd H3 H2 n1 n8 n7) : Ab_221_170 n2 n1 n0 H0 H3 ∧ ∀ q, some q0 = some q → mub_221_170 n2 n1 n0 H0 H3 < q := by
  have g4 := f4.2.1.1
  unfold Ab_221_117 at g4
  have g3 := f4.2.1.2
  unfold preb_221 at g3
  have g5 := Option.some.inj f4.2.2
  unfold mub_221_117 at g5
  unfold postb_216 at f12
  unfold Ab_221_170
  unfold mub_221_170
  have e0 : n3 = hV H1 285 13 := (by rw [f2] at f7; exact f7 : n3 = hV H1 285 13)
  have e2 : n6 = hV H1 285 13 := (by rw [f2] at f16; exact f16 : n6 = hV H2 285 13).trans ((f12.1.2.1.1 285 13 kF_216_285_13))
  have e4 : n7 = hV H1 285 14 := (by rw [f2] at f20; exact f20 : n7 = hV H2 285 14).trans ((f12.1.2.1.1 285 14 kF_216_285_14))
  have e6 : hV H2 285 11 = hV H1 285 11 := (f12.1.2.1.1 285 11 kF_216_285_11)
  have e7 : hV H2 285 13 = hV H1 285 13 := (f12.1.2.1.1 285 13 kF_216_285_13)
  have e8 : hV H2 288 = hV H1 288 := fRow f12.1.2.1 288 kR_216_288
  have e10 : hV H3 285 13 = hV H1 285 13 := ((uSlot f22 285 13 (iS (show n8 = ((17 : Nat) : Int) from f21) rfl))).trans (f12.1.2.1.1 285 13 kF_216_285_13)
  have e13 : hV H3 285 15 = hV H1 285 15 := ((uSlot f22 285 15 (iS (show n8 = ((17 : Nat) : Int) from f21) rfl))).trans (f12.1.2.1.1 285 15 kF_216_285_15)
  have e16 : hV H3 285 18 = hV H1 285 18 := ((uSlot f22 285 18 (iS (show n8 = ((17 : Nat) : Int) from f21) rfl))).trans (f12.1.2.1.1 285 18 kF_216_285_18)
  have e19 : hV H3 285 32 = hV H1 285 32 := ((uSlot f22 285 32 (iS (show n8 = ((17 : Nat) : Int) from f21) rfl))).trans (f12.1.2.1.1 285 32 kF_216_285_32)
  have e22 : hV H3 285 34 = hV H1 285 34 := ((uSlot f22 285 34 (iS (show n8 = ((17 : Nat) : Int) from f21) rfl))).trans (f12.1.2.1.1 285 34 kF_216_285_34)
  have e25 : hV H3 285 35 = hV H1 285 35 := ((uSlot f22 285 35 (iS (show n8 = ((17 : Nat) : Int) from f21) rfl))).trans (f12.1.2.1.1 285 35 kF_216_285_35)
  have e28 : hV H3 294 = hV H1 294 := (uRowNe f22 294 (iS (show n1 = ((285 : Nat) : Int) from f2) rfl)).trans (fRow f12.1.2.1 294 kR_216_294)
  have e31 : hV H3 296 = hV H1 296 := (uRowNe f22 296 (iS (show n1 = ((285 : Nat) : Int) from f2) rfl)).trans (fRow f12.1.2.1 296 kR_216_296)
  have e34 : hV H3 298 = hV H1 298 := (uRowNe f22 298 (iS (show n1 = ((285 : Nat) : Int) from f2) rfl)).trans (fRow f12.1.2.1 298 kR_216_298)
  have e37 : hV H3 300 = hV H1 300 := (uRowNe f22 300 (iS (show n1 = ((285 : Nat) : Int) from f2) rfl)).trans (fRow f12.1.2.1 300 kR_216_300)
  have e40 : hV H3 301 = hV H1 301 := (uRowNe f22 301 (iS (show n1 = ((285 : Nat) : Int) from f2) rfl)).trans (fRow f12.1.2.1 301 kR_216_301)
  have e43 : hV H3 302 = hV H1 302 := (uRowNe f22 302 (iS (show n1 = ((285 : Nat) : Int) from f2) rfl)).trans (fRow f12.1.2.1 302 kR_216_302)
  have e46 : hV H3 303 = hV H1 303 := (uRowNe f22 303 (iS (show n1 = ((285 : Nat) : Int) from f2) rfl)).trans (fRow f12.1.2.1 303 kR_216_303)
  have e49 : hV H3 305 = hV H1 305 := (uRowNe f22 305 (iS (show n1 = ((285 : Nat) : Int) from f2) rfl)).trans (fRow f12.1.2.1 305 kR_216_305)
  have e52 : hV H3 306 = hV H1 306 := (uRowNe f22 306 (iS (show n1 = ((285 : Nat) : Int) from f2) rfl)).trans (fRow f12.1.2.1 306 kR_216_306)
  have e55 : hV H3 307 = hV H1 307 := (uRowNe f22 307 (iS (show n1 = ((285 : Nat) : Int) from f2) rfl)).trans (fRow f12.1.2.1 307 kR_216_307)
  have e58 : hV H3 308 = hV H1 308 := (uRowNe f22 308 (iS (show n1 = ((285 : Nat) : Int) from f2) rfl)).trans (fRow f12.1.2.1 308 kR_216_308)
  have e61 : hV H3 309 = hV H1 309 := (uRowNe f22 309 (iS (show n1 = ((285 : Nat) : Int) from f2) rfl)).trans (fRow f12.1.2.1 309 kR_216_309)
  have e64 : hV H3 310 = hV H1 310 := (uRowNe f22 310 (iS (show n1 = ((285 : Nat) : Int) from f2) rfl)).trans (fRow f12.1.2.1 310 kR_216_310)
  have e67 : hV H3 311 = hV H1 311 := (uRowNe f22 311 (iS (show n1 = ((285 : Nat) : Int) from f2) rfl)).trans (fRow f12.1.2.1 311 kR_216_311)
  have e70 : hV H3 317 = hV H1 317 := (uRowNe f22 317 (iS (show n1 = ((285 : Nat) : Int) from f2) rfl)).trans (fRow f12.1.2.1 317 kR_216_317)
  have e73 : hV H3 318 = hV H1 318 := (uRowNe f22 318 (iS (show n1 = ((285 : Nat) : Int) from f2) rfl)).trans (fRow f12.1.2.1 318 kR_216_318)
  have e76 : hV H3 319 = hV H1 319 := (uRowNe f22 319 (iS (show n1 = ((285 : Nat) : Int) from f2) rfl)).trans (fRow f12.1.2.1 319 kR_216_319)
  have e79 : hV H3 320 = hV H1 320 := (uRowNe f22 320 (iS (show n1 = ((285 : Nat) : Int) from f2) rfl)).trans (fRow f12.1.2.1 320 kR_216_320)
  have e82 : hV H3 321 = hV H1 321 := (uRowNe f22 321 (iS (show n1 = ((285 : Nat) : Int) from f2) rfl)).trans (fRow f12.1.2.1 321 kR_216_321)
  have e83 : AC H2 = AC H1 := AC_fr f12.1.2.1 (by decide +kernel)
  have e84 : AC H3 = AC H2 := AC_upF f22 f2 (show n8 = ((17 : Nat) : Int) from f21) (by decide)
  have e85 : AC H3 = AC H1 := e84.trans e83
  have e86 : PG H2 = PG H1 := PG_fr f12.1.2.1 (by decide +kernel)
  have e87 : PG H3 = PG H2 := PG_upF f22 f2 (show n8 = ((17 : Nat) : Int) from f21) (by decide)
  have e88 : PG H3 = PG H1 := e87.trans e86
  have e89 : PQ H2 = PQ H1 := PQ_fr f12.1.2.1 (by decide +kernel)
  have e90 : PQ H3 = PQ H2 := PQ_upF f22 f2 (show n8 = ((17 : Nat) : Int) from f21) (by decide)
  have e91 : PQ H3 = PQ H1 := e90.trans e89
  have e92 : RN H2 = RN H1 := RN_fr f12.1.2.1 (by decide +kernel)
  have e93 : RN H3 = RN H2 := RN_upF f22 f2 (show n8 = ((17 : Nat) : Int) from f21) (by decide)
  have e94 : RN H3 = RN H1 := e93.trans e92
  have e95 : RV H2 = RV H1 := RV_fr f12.1.2.1 (by decide +kernel)
  have e96 : RV H3 = RV H2 := RV_upF f22 f2 (show n8 = ((17 : Nat) : Int) from f21) (by decide)
  have e97 : RV H3 = RV H1 := e96.trans e95
  have e98 : SO H2 = SO H1 := SO_fr f12.1.2.1 (by decide +kernel)
  have e99 : SO H3 = SO H2 := SO_upF f22 f2 (show n8 = ((17 : Nat) : Int) from f21) (by decide)
  have e100 : SO H3 = SO H1 := e99.trans e98
  have e101 : (0 : Int) ≤ hV H1 285 11 ∧ hV H1 285 11 ≤ 500 := f4.1.2.2 285 11 _ _ kW_285_11
  have e102 : (0 : Int) ≤ hV H1 285 13 ∧ hV H1 285 13 ≤ 2 := f4.1.2.2 285 13 _ _ kW_285_13
  have e103 : (0 : Int) ≤ hV H1 285 15 ∧ hV H1 285 15 ≤ 6 := f4.1.2.2 285 15 _ _ kW_285_15
  have e104 : (0 : Int) ≤ hV H1 285 18 ∧ hV H1 285 18 ≤ 8 := f4.1.2.2 285 18 _ _ kW_285_18
  have e105 : (0 : Int) ≤ hV H1 285 32 ∧ hV H1 285 32 ≤ 7 := f4.1.2.2 285 32 _ _ kW_285_32
  have e106 : (0 : Int) ≤ hV H1 285 34 ∧ hV H1 285 34 ≤ 1 := f4.1.2.2 285 34 _ _ kW_285_34
  have e107 : (0 : Int) ≤ hV H1 285 35 ∧ hV H1 285 35 ≤ 1 := f4.1.2.2 285 35 _ _ kW_285_35
  try simp only [e10, e13, e16, e19, e22, e25, e28, e31, e34, e37, e40, e43, e46, e49, e52, e55, e58, e61, e64, e67, e70, e73, e76, e79, e82, e85, e88, e91, e94, e97, e100]
  have y0 := g4.1
  have y1 := g4.2.1
  have y2 := g4.2.2.1
  have y3 := g4.2.2.2.1
  have y4 := g4.2.2.2.2.1
  have y5 := g4.2.2.2.2.2.1
  have y6 := g4.2.2.2.2.2.2.1
  have y7 := g4.2.2.2.2.2.2.2.1
  have y8 := g4.2.2.2.2.2.2.2.2.1
  have y9 := g4.2.2.2.2.2.2.2.2.2.1
  have y10 := g4.2.2.2.2.2.2.2.2.2.2
  have p0 := g3.1
  have p1 := g3.2.1
  have p2 := g3.2.2.1
  have p3 := g3.2.2.2.1
  have p4 := g3.2.2.2.2.1
  have p5 := g3.2.2.2.2.2
  have r0_0 := f12.2.1
  have r0_1 := f12.2.2
  try simp only [e7] at r0_0
  try simp only [e6, e7, e8] at r0_1
  clear g3
  clear g4
  clear f7 f16 f20 e6 e7 e8 e10 e13 e16 e19 e22 e25 e28 e31 e34 e37 e40 e43 e46 e49 e52 e55 e58 e61 e64 e67 e70 e73 e76 e79 e82 e83 e84 e85 e86 e87 e88 e89 e90 e91 e92 e93 e94 e95 e96 e97 e98 e99 e100
  clear f4 f12
  subst e0
  subst e2
  subst e4

  refine ⟨⟨?_, ?_, ?_, ?_, ?_, ?_, ?_, ?_, ?_, ?_, ?_⟩, fun q hq => ?_⟩
  · exact y0
  · exact y1
  · exact y2
  · exact y3
  · exact y4
  · exact y5
  · first | trivial | omega
  · first | trivial | omega
  · first | trivial | omega
  · intro a b c
    exact y9 (by omega) (by omega) (by omega)
  · intro a b
    exact y10 (by omega) (by omega)
  · have g6 := Option.some.inj hq
    subst g6
    omega
def g_221_117_5 : vG := ([(80, [1, 8, 7], [3, 2], 0), (0, [8], [], 17), (20, [7, 1], [2], 14), (90, [7], [], 0), (91, [7], [], 2000), (34, [6], [], 0), (20, [6, 1], [2], 13), (90, [6], [], 0), (91, [6], [], 2), (31, [5], [], 0), (1216, [5, 1, 4], [1, 2], 0), (90, [5], [], 0), (91, [5], [], 1), (0, [4], [], 0), (30, [3], [], 0), (20, [3, 1], [1], 13), (90, [3], [], 0), (91, [3], [], 2), (5000, [0, 1, 2], [0, 1], 117), (0, [0], [], 285), (0, [1], [], 285), (90, [2], [], 0), (91, [2], [], 1)], (4000, [1, 2], [3], 170))
theorem c_221_117_5 {q0 : Nat} : vOkm T0 (eP e_221 L_221 A_221 mu_221 (some q0)) 1 g_221_117_5 := vOk_inI fun ρ η f0 f1 f2 f3 f4 f5 f6 f7 f8 f9 f10 f11 f12 f13 f14 f15 f16 f17 f18 f19 f20 f21 f22 => q_221_18 (q0 := q0) (n0 := ρ 2) (n1 := ρ 1) (n2 := ρ 0) (n3 := ρ 3) (n4 := ρ 4) (n5 := ρ 5) (n6 := ρ 6) (n7 := ρ 7) (n8 := ρ 8) (H0 := η 0) (H1 := η 1) (H2 := η 2) (H3 := η 3) f22 f21 f20 f19 f18 f17 f16 f15 f14 f13 f12 f11 f10 f9 f8 f7 f6 f5 f4 f3 f2 f1 f0
theorem kR_217_307 : vFreeR s_217.2.2.2.2 307 = true := by decide +kernel
theorem kR_217_308 : vFreeR s_217.2.2.2.2 308 = true := by decide +kernel
theorem kR_217_309 : vFreeR s_217.2.2.2.2 309 = true := by decide +kernel
theorem kR_217_310 : vFreeR s_217.2.2.2.2 310 = true := by decide +kernel
theorem kR_217_311 : vFreeR s_217.2.2.2.2 311 = true := by decide +kernel
theorem kR_217_317 : vFreeR s_217.2.2.2.2 317 = true := by decide +kernel
theorem kR_217_318 : vFreeR s_217.2.2.2.2 318 = true := by decide +kernel
theorem kR_217_319 : vFreeR s_217.2.2.2.2 319 = true := by decide +kernel
theorem q_221_19 {q0 : Nat} {n0 n1 n2 n3 n4 n5 n6 n7 n8 n9 n10 : Int} {H0 H1 H2 H3 H4 : gH} (f0 : n0 ≤ 1) (f1 : 0 ≤ n0) (f2 : n1 = 285) (f3 : n2 = 285) (f4 : (hLe T0 H0 H1 ∧ hFr s_221.2.2.2.2 H0 H1 ∧ hWt T0 H1) ∧ (Ab_221_117 n2 n1 n0 H0 H1 ∧ preb_221 n2 H0) ∧ some q0 = some (mub_221_117 n2 n1 n0 H0 H1)) (f5 : n3 ≤ 2) (f6 : 0 ≤ n3) (f7 : n3 = hV H1 (n1).toNat 13) (f8 : n3 = 0) (f9 : n4 = 0) (f10 : n5 ≤ 1) (f11 : 0 ≤ n5) (f12 : (hLe T0 H1 H2 ∧ hFr s_216.2.2.2.2 H1 H2 ∧ ((0 : Int) = 0 → H2.length = H1.length) ∧ hWt T0 H2) ∧ postb_216 n5 n1 n4 H1 H2) (f13 : n5 = 0) (f14 : n6 = 1) (f15 : (hLe T0 H2 H3 ∧ hFr s_217.2.2.2.2 H2 H3 ∧ ((0 : Int) = 0 → H3.length = H2.length) ∧ hWt T0 H3) ∧ postb_217 n1 n6 H2 H3) (f16 : n7 ≤ 2) (f17 : 0 ≤ n7) (f18 : n7 = hV H3 (n1).toNat 13) (f19 : n7 ≤ 0) (f20 : n8 ≤ 6) (f21 : 0 ≤ n8) (f22 : n8 = hV H3 (n1).toNat 15) (f23 : n8 ≤ 0) (f24 : n9 = (-1)) (f25 : n10 = 17) (f26 : hUpd H4 H3 n1 n10 n9) : Ab_221_170 n2 n1 n0 H0 H4 ∧ ∀ q, some q0 = some q → mub_221_170 n2 n1 n0 H0 H4 < q := by
  have g4 := f4.2.1.1
  unfold Ab_221_117 at g4
  have g3 := f4.2.1.2
  unfold preb_221 at g3
  have g5 := Option.some.inj f4.2.2
  unfold mub_221_117 at g5
  unfold postb_216 at f12
  unfold postb_217 at f15
  unfold Ab_221_170
  unfold mub_221_170
  have e0 : n3 = hV H1 285 13 := (by rw [f2] at f7; exact f7 : n3 = hV H1 285 13)
  have e1 : n7 = hV H3 285 13 := (by rw [f2] at f18; exact f18 : n7 = hV H3 285 13)
  have e4 : n8 = hV H1 285 15 := (by rw [f2] at f22; exact f22 : n8 = hV H3 285 15).trans (((f15.1.2.1.1 285 15 kF_217_285_15)).trans (f12.1.2.1.1 285 15 kF_216_285_15))
  have e6 : hV H2 285 11 = hV H1 285 11 := (f12.1.2.1.1 285 11 kF_216_285_11)
  have e8 : hV H2 285 13 = hV H1 285 13 := (f12.1.2.1.1 285 13 kF_216_285_13)
  have e9 : hV H2 288 = hV H1 288 := fRow f12.1.2.1 288 kR_216_288
  have e11 : hV H4 285 13 = hV H3 285 13 := (uSlot f26 285 13 (iS (show n10 = ((17 : Nat) : Int) from f25) rfl))
  have e13 : hV H4 285 15 = hV H1 285 15 := ((uSlot f26 285 15 (iS (show n10 = ((17 : Nat) : Int) from f25) rfl))).trans (((f15.1.2.1.1 285 15 kF_217_285_15)).trans (f12.1.2.1.1 285 15 kF_216_285_15))
  have e17 : hV H4 285 18 = hV H1 285 18 := ((uSlot f26 285 18 (iS (show n10 = ((17 : Nat) : Int) from f25) rfl))).trans (((f15.1.2.1.1 285 18 kF_217_285_18)).trans (f12.1.2.1.1 285 18 kF_216_285_18))
  have e21 : hV H4 285 32 = hV H1 285 32 := ((uSlot f26 285 32 (iS (show n10 = ((17 : Nat) : Int) from f25) rfl))).trans (((f15.1.2.1.1 285 32 kF_217_285_32)).trans (f12.1.2.1.1 285 32 kF_216_285_32))
  have e25 : hV H4 285 34 = hV H1 285 34 := ((uSlot f26 285 34 (iS (show n10 = ((17 : Nat) : Int) from f25) rfl))).trans (((f15.1.2.1.1 285 34 kF_217_285_34)).trans (f12.1.2.1.1 285 34 kF_216_285_34))
  have e29 : hV H4 285 35 = hV H1 285 35 := ((uSlot f26 285 35 (iS (show n10 = ((17 : Nat) : Int) from f25) rfl))).trans (((f15.1.2.1.1 285 35 kF_217_285_35)).trans (f12.1.2.1.1 285 35 kF_216_285_35))
  have e34 : hV H4 294 = hV H1 294 := (uRowNe f26 294 (iS (show n1 = ((285 : Nat) : Int) from f2) rfl)).trans ((fRow f15.1.2.1 294 kR_217_294).trans (fRow f12.1.2.1 294 kR_216_294))
  have e39 : hV H4 296 = hV H1 296 := (uRowNe f26 296 (iS (show n1 = ((285 : Nat) : Int) from f2) rfl)).trans ((fRow f15.1.2.1 296 kR_217_296).trans (fRow f12.1.2.1 296 kR_216_296))
  have e44 : hV H4 298 = hV H1 298 := (uRowNe f26 298 (iS (show n1 = ((285 : Nat) : Int) from f2) rfl)).trans ((fRow f15.1.2.1 298 kR_217_298).trans (fRow f12.1.2.1 298 kR_216_298))
  have e49 : hV H4 300 = hV H1 300 := (uRowNe f26 300 (iS (show n1 = ((285 : Nat) : Int) from f2) rfl)).trans ((fRow f15.1.2.1 300 kR_217_300).trans (fRow f12.1.2.1 300 kR_216_300))
  have e54 : hV H4 301 = hV H1 301 := (uRowNe f26 301 (iS (show n1 = ((285 : Nat) : Int) from f2) rfl)).trans ((fRow f15.1.2.1 301 kR_217_301).trans (fRow f12.1.2.1 301 kR_216_301))
  have e59 : hV H4 302 = hV H1 302 := (uRowNe f26 302 (iS (show n1 = ((285 : Nat) : Int) from f2) rfl)).trans ((fRow f15.1.2.1 302 kR_217_302).trans (fRow f12.1.2.1 302 kR_216_302))
  have e64 : hV H4 303 = hV H1 303 := (uRowNe f26 303 (iS (show n1 = ((285 : Nat) : Int) from f2) rfl)).trans ((fRow f15.1.2.1 303 kR_217_303).trans (fRow f12.1.2.1 303 kR_216_303))
  have e69 : hV H4 305 = hV H1 305 := (uRowNe f26 305 (iS (show n1 = ((285 : Nat) : Int) from f2) rfl)).trans ((fRow f15.1.2.1 305 kR_217_305).trans (fRow f12.1.2.1 305 kR_216_305))
  have e74 : hV H4 306 = hV H1 306 := (uRowNe f26 306 (iS (show n1 = ((285 : Nat) : Int) from f2) rfl)).trans ((fRow f15.1.2.1 306 kR_217_306).trans (fRow f12.1.2.1 306 kR_216_306))
  have e79 : hV H4 307 = hV H1 307 := (uRowNe f26 307 (iS (show n1 = ((285 : Nat) : Int) from f2) rfl)).trans ((fRow f15.1.2.1 307 kR_217_307).trans (fRow f12.1.2.1 307 kR_216_307))
  have e84 : hV H4 308 = hV H1 308 := (uRowNe f26 308 (iS (show n1 = ((285 : Nat) : Int) from f2) rfl)).trans ((fRow f15.1.2.1 308 kR_217_308).trans (fRow f12.1.2.1 308 kR_216_308))
  have e89 : hV H4 309 = hV H1 309 := (uRowNe f26 309 (iS (show n1 = ((285 : Nat) : Int) from f2) rfl)).trans ((fRow f15.1.2.1 309 kR_217_309).trans (fRow f12.1.2.1 309 kR_216_309))
  have e94 : hV H4 310 = hV H1 310 := (uRowNe f26 310 (iS (show n1 = ((285 : Nat) : Int) from f2) rfl)).trans ((fRow f15.1.2.1 310 kR_217_310).trans (fRow f12.1.2.1 310 kR_216_310))
  have e99 : hV H4 311 = hV H1 311 := (uRowNe f26 311 (iS (show n1 = ((285 : Nat) : Int) from f2) rfl)).trans ((fRow f15.1.2.1 311 kR_217_311).trans (fRow f12.1.2.1 311 kR_216_311))
  have e104 : hV H4 317 = hV H1 317 := (uRowNe f26 317 (iS (show n1 = ((285 : Nat) : Int) from f2) rfl)).trans ((fRow f15.1.2.1 317 kR_217_317).trans (fRow f12.1.2.1 317 kR_216_317))
  have e109 : hV H4 318 = hV H1 318 := (uRowNe f26 318 (iS (show n1 = ((285 : Nat) : Int) from f2) rfl)).trans ((fRow f15.1.2.1 318 kR_217_318).trans (fRow f12.1.2.1 318 kR_216_318))
  have e114 : hV H4 319 = hV H1 319 := (uRowNe f26 319 (iS (show n1 = ((285 : Nat) : Int) from f2) rfl)).trans ((fRow f15.1.2.1 319 kR_217_319).trans (fRow f12.1.2.1 319 kR_216_319))
  have e119 : hV H4 320 = hV H1 320 := (uRowNe f26 320 (iS (show n1 = ((285 : Nat) : Int) from f2) rfl)).trans ((fRow f15.1.2.1 320 kR_217_320).trans (fRow f12.1.2.1 320 kR_216_320))
  have e124 : hV H4 321 = hV H1 321 := (uRowNe f26 321 (iS (show n1 = ((285 : Nat) : Int) from f2) rfl)).trans ((fRow f15.1.2.1 321 kR_217_321).trans (fRow f12.1.2.1 321 kR_216_321))
  have e125 : AC H2 = AC H1 := AC_fr f12.1.2.1 (by decide +kernel)
  have e126 : AC H3 = AC H2 := AC_fr f15.1.2.1 (by decide +kernel)
  have e127 : AC H3 = AC H1 := e126.trans e125
  have e128 : AC H4 = AC H3 := AC_upF f26 f2 (show n10 = ((17 : Nat) : Int) from f25) (by decide)
  have e129 : AC H4 = AC H1 := e128.trans e127
  have e130 : PG H2 = PG H1 := PG_fr f12.1.2.1 (by decide +kernel)
  have e131 : PG H3 = PG H2 := PG_fr f15.1.2.1 (by decide +kernel)
  have e132 : PG H3 = PG H1 := e131.trans e130
  have e133 : PG H4 = PG H3 := PG_upF f26 f2 (show n10 = ((17 : Nat) : Int) from f25) (by decide)
  have e134 : PG H4 = PG H1 := e133.trans e132
  have e135 : PQ H2 = PQ H1 := PQ_fr f12.1.2.1 (by decide +kernel)
  have e136 : PQ H3 = PQ H2 := PQ_fr f15.1.2.1 (by decide +kernel)
  have e137 : PQ H3 = PQ H1 := e136.trans e135
  have e138 : PQ H4 = PQ H3 := PQ_upF f26 f2 (show n10 = ((17 : Nat) : Int) from f25) (by decide)
  have e139 : PQ H4 = PQ H1 := e138.trans e137
  have e140 : RN H2 = RN H1 := RN_fr f12.1.2.1 (by decide +kernel)
  have e141 : RN H3 = RN H2 := RN_fr f15.1.2.1 (by decide +kernel)
  have e142 : RN H3 = RN H1 := e141.trans e140
  have e143 : RN H4 = RN H3 := RN_upF f26 f2 (show n10 = ((17 : Nat) : Int) from f25) (by decide)
  have e144 : RN H4 = RN H1 := e143.trans e142
  have e145 : RV H2 = RV H1 := RV_fr f12.1.2.1 (by decide +kernel)
  have e146 : RV H3 = RV H2 := RV_fr f15.1.2.1 (by decide +kernel)
  have e147 : RV H3 = RV H1 := e146.trans e145
  have e148 : RV H4 = RV H3 := RV_upF f26 f2 (show n10 = ((17 : Nat) : Int) from f25) (by decide)
  have e149 : RV H4 = RV H1 := e148.trans e147
  have e150 : SO H2 = SO H1 := SO_fr f12.1.2.1 (by decide +kernel)
  have e151 : SO H3 = SO H2 := SO_fr f15.1.2.1 (by decide +kernel)
  have e152 : SO H3 = SO H1 := e151.trans e150
  have e153 : SO H4 = SO H3 := SO_upF f26 f2 (show n10 = ((17 : Nat) : Int) from f25) (by decide)
  have e154 : SO H4 = SO H1 := e153.trans e152
  have e155 : (0 : Int) ≤ hV H1 285 11 ∧ hV H1 285 11 ≤ 500 := f4.1.2.2 285 11 _ _ kW_285_11
  have e156 : (0 : Int) ≤ hV H1 285 13 ∧ hV H1 285 13 ≤ 2 := f4.1.2.2 285 13 _ _ kW_285_13
  have e157 : (0 : Int) ≤ hV H1 285 15 ∧ hV H1 285 15 ≤ 6 := f4.1.2.2 285 15 _ _ kW_285_15
  have e158 : (0 : Int) ≤ hV H1 285 18 ∧ hV H1 285 18 ≤ 8 := f4.1.2.2 285 18 _ _ kW_285_18
  have e159 : (0 : Int) ≤ hV H1 285 32 ∧ hV H1 285 32 ≤ 7 := f4.1.2.2 285 32 _ _ kW_285_32
  have e160 : (0 : Int) ≤ hV H1 285 34 ∧ hV H1 285 34 ≤ 1 := f4.1.2.2 285 34 _ _ kW_285_34
  have e161 : (0 : Int) ≤ hV H1 285 35 ∧ hV H1 285 35 ≤ 1 := f4.1.2.2 285 35 _ _ kW_285_35
  have e164 : (0 : Int) ≤ hV H3 285 13 ∧ hV H3 285 13 ≤ 2 := f15.1.2.2.2 285 13 _ _ kW_285_13
  try simp only [e11, e13, e17, e21, e25, e29, e34, e39, e44, e49, e54, e59, e64, e69, e74, e79, e84, e89, e94, e99, e104, e109, e114, e119, e124, e129, e134, e139, e144, e149, e154]
  have y0 := g4.1
  have y1 := g4.2.1
  have y2 := g4.2.2.1
  have y3 := g4.2.2.2.1
  have y4 := g4.2.2.2.2.1
  have y5 := g4.2.2.2.2.2.1
  have y6 := g4.2.2.2.2.2.2.1
  have y7 := g4.2.2.2.2.2.2.2.1
  have y8 := g4.2.2.2.2.2.2.2.2.1
  have y9 := g4.2.2.2.2.2.2.2.2.2.1
  have y10 := g4.2.2.2.2.2.2.2.2.2.2
  have p0 := g3.1
  have p1 := g3.2.1
  have p2 := g3.2.2.1
  have p3 := g3.2.2.2.1
  have p4 := g3.2.2.2.2.1
  have p5 := g3.2.2.2.2.2
  have r0_0 := f12.2.1
  have r0_1 := f12.2.2
  have r1_0 := f15.2.1
  have r1_1 := f15.2.2
  try simp only [e8] at r0_0
  try simp only [e6, e8, e9] at r0_1
  try simp only [e8] at r1_0
  clear g3
  clear g4
  clear f7 f18 f22 e6 e8 e9 e11 e13 e17 e21 e25 e29 e34 e39 e44 e49 e54 e59 e64 e69 e74 e79 e84 e89 e94 e99 e104 e109 e114 e119 e124 e125 e126 e127 e128 e129 e130 e131 e132 e133 e134 e135 e136 e137 e138 e139 e140 e141 e142 e143 e144 e145 e146 e147 e148 e149 e150 e151 e152 e153 e154
  clear f4 f12 f15
  subst e0
  subst e1
  subst e4

  refine ⟨⟨?_, ?_, ?_, ?_, ?_, ?_, ?_, ?_, ?_, ?_, ?_⟩, fun q hq => ?_⟩
  · exact y0
  · exact y1
  · exact y2
  · exact y3
  · exact y4
  · exact y5
  · first | trivial | omega
  · first | trivial | omega
  · first | trivial | omega
  · intro a b c
    exact y9 (by omega) (by omega) (by omega)
  · intro a b
    exact y10 (by omega) (by omega)
  · have g6 := Option.some.inj hq
    subst g6
    omega
def g_221_117_6 : vG := ([(80, [1, 10, 9], [4, 3], 0), (0, [10], [], 17), (0, [9], [], -1), (35, [8], [], 0), (20, [8, 1], [3], 15), (90, [8], [], 0), (91, [8], [], 6), (35, [7], [], 0), (20, [7, 1], [3], 13), (90, [7], [], 0), (91, [7], [], 2), (1217, [1, 6], [2, 3], 0), (0, [6], [], 1), (30, [5], [], 0), (1216, [5, 1, 4], [1, 2], 0), (90, [5], [], 0), (91, [5], [], 1), (0, [4], [], 0), (30, [3], [], 0), (20, [3, 1], [1], 13), (90, [3], [], 0), (91, [3], [], 2), (5000, [0, 1, 2], [0, 1], 117), (0, [0], [], 285), (0, [1], [], 285), (90, [2], [], 0), (91, [2], [], 1)], (4000, [1, 2], [4], 170))
theorem c_221_117_6 {q0 : Nat} : vOkm T0 (eP e_221 L_221 A_221 mu_221 (some q0)) 1 g_221_117_6 := vOk_inI fun ρ η f0 f1 f2 f3 f4 f5 f6 f7 f8 f9 f10 f11 f12 f13 f14 f15 f16 f17 f18 f19 f20 f21 f22 f23 f24 f25 f26 => q_221_19 (q0 := q0) (n0 := ρ 2) (n1 := ρ 1) (n2 := ρ 0) (n3 := ρ 3) (n4 := ρ 4) (n5 := ρ 5) (n6 := ρ 6) (n7 := ρ 7) (n8 := ρ 8) (n9 := ρ 9) (n10 := ρ 10) (H0 := η 0) (H1 := η 1) (H2 := η 2) (H3 := η 3) (H4 := η 4) f26 f25 f24 f23 f22 f21 f20 f19 f18 f17 f16 f15 f14 f13 f12 f11 f10 f9 f8 f7 f6 f5 f4 f3 f2 f1 f0
theorem kF_217_285_16 : vFree s_217.2.2.2.2 285 16 = true := by decide +kernel
theorem q_221_20 {q0 : Nat} {n0 n1 n2 n3 n4 n5 n6 n7 n8 n9 n10 : Int} {H0 H1 H2 H3 H4 : gH} (f0 : n0 ≤ 1) (f1 : 0 ≤ n0) (f2 : n1 = 285) (f3 : n2 = 285) (f4 : (hLe T0 H0 H1 ∧ hFr s_221.2.2.2.2 H0 H1 ∧ hWt T0 H1) ∧ (Ab_221_117 n2 n1 n0 H0 H1 ∧ preb_221 n2 H0) ∧ some q0 = some (mub_221_117 n2 n1 n0 H0 H1)) (f5 : n3 ≤ 2) (f6 : 0 ≤ n3) (f7 : n3 = hV H1 (n1).toNat 13) (f8 : n3 = 0) (f9 : n4 = 0) (f10 : n5 ≤ 1) (f11 : 0 ≤ n5) (f12 : (hLe T0 H1 H2 ∧ hFr s_216.2.2.2.2 H1 H2 ∧ ((0 : Int) = 0 → H2.length = H1.length) ∧ hWt T0 H2) ∧ postb_216 n5 n1 n4 H1 H2) (f13 : n5 = 0) (f14 : n6 = 1) (f15 : (hLe T0 H2 H3 ∧ hFr s_217.2.2.2.2 H2 H3 ∧ ((0 : Int) = 0 → H3.length = H2.length) ∧ hWt T0 H3) ∧ postb_217 n1 n6 H2 H3) (f16 : n7 ≤ 2) (f17 : 0 ≤ n7) (f18 : n7 = hV H3 (n1).toNat 13) (f19 : n7 ≤ 0) (f20 : n8 ≤ 6) (f21 : 0 ≤ n8) (f22 : n8 = hV H3 (n1).toNat 15) (f23 : 0 < n8) (f24 : n9 ≤ 2000) (f25 : 0 ≤ n9) (f26 : n9 = hV H3 (n1).toNat 16) (f27 : n10 = 17) (f28 : hUpd H4 H3 n1 n10 n9) : Ab_221_170 n2 n1 n0 H0 H4 ∧ ∀ q, some q0 = some q → mub_221_170 n2 n1 n0 H0 H4 < q := by
  have g4 := f4.2.1.1
  unfold Ab_221_117 at g4
  have g3 := f4.2.1.2
  unfold preb_221 at g3
  have g5 := Option.some.inj f4.2.2
  unfold mub_221_117 at g5
  unfold postb_216 at f12
  unfold postb_217 at f15
  unfold Ab_221_170
  unfold mub_221_170
  have e0 : n3 = hV H1 285 13 := (by rw [f2] at f7; exact f7 : n3 = hV H1 285 13)
  have e1 : n7 = hV H3 285 13 := (by rw [f2] at f18; exact f18 : n7 = hV H3 285 13)
  have e4 : n8 = hV H1 285 15 := (by rw [f2] at f22; exact f22 : n8 = hV H3 285 15).trans (((f15.1.2.1.1 285 15 kF_217_285_15)).trans (f12.1.2.1.1 285 15 kF_216_285_15))
  have e7 : n9 = hV H1 285 16 := (by rw [f2] at f26; exact f26 : n9 = hV H3 285 16).trans (((f15.1.2.1.1 285 16 kF_217_285_16)).trans (f12.1.2.1.1 285 16 kF_216_285_16))
  have e9 : hV H2 285 11 = hV H1 285 11 := (f12.1.2.1.1 285 11 kF_216_285_11)
  have e11 : hV H2 285 13 = hV H1 285 13 := (f12.1.2.1.1 285 13 kF_216_285_13)
  have e12 : hV H2 288 = hV H1 288 := fRow f12.1.2.1 288 kR_216_288
  have e14 : hV H4 285 13 = hV H3 285 13 := (uSlot f28 285 13 (iS (show n10 = ((17 : Nat) : Int) from f27) rfl))
  have e16 : hV H4 285 15 = hV H1 285 15 := ((uSlot f28 285 15 (iS (show n10 = ((17 : Nat) : Int) from f27) rfl))).trans (((f15.1.2.1.1 285 15 kF_217_285_15)).trans (f12.1.2.1.1 285 15 kF_216_285_15))
  have e20 : hV H4 285 18 = hV H1 285 18 := ((uSlot f28 285 18 (iS (show n10 = ((17 : Nat) : Int) from f27) rfl))).trans (((f15.1.2.1.1 285 18 kF_217_285_18)).trans (f12.1.2.1.1 285 18 kF_216_285_18))
  have e24 : hV H4 285 32 = hV H1 285 32 := ((uSlot f28 285 32 (iS (show n10 = ((17 : Nat) : Int) from f27) rfl))).trans (((f15.1.2.1.1 285 32 kF_217_285_32)).trans (f12.1.2.1.1 285 32 kF_216_285_32))
  have e28 : hV H4 285 34 = hV H1 285 34 := ((uSlot f28 285 34 (iS (show n10 = ((17 : Nat) : Int) from f27) rfl))).trans (((f15.1.2.1.1 285 34 kF_217_285_34)).trans (f12.1.2.1.1 285 34 kF_216_285_34))
  have e32 : hV H4 285 35 = hV H1 285 35 := ((uSlot f28 285 35 (iS (show n10 = ((17 : Nat) : Int) from f27) rfl))).trans (((f15.1.2.1.1 285 35 kF_217_285_35)).trans (f12.1.2.1.1 285 35 kF_216_285_35))
  have e37 : hV H4 294 = hV H1 294 := (uRowNe f28 294 (iS (show n1 = ((285 : Nat) : Int) from f2) rfl)).trans ((fRow f15.1.2.1 294 kR_217_294).trans (fRow f12.1.2.1 294 kR_216_294))
  have e42 : hV H4 296 = hV H1 296 := (uRowNe f28 296 (iS (show n1 = ((285 : Nat) : Int) from f2) rfl)).trans ((fRow f15.1.2.1 296 kR_217_296).trans (fRow f12.1.2.1 296 kR_216_296))
  have e47 : hV H4 298 = hV H1 298 := (uRowNe f28 298 (iS (show n1 = ((285 : Nat) : Int) from f2) rfl)).trans ((fRow f15.1.2.1 298 kR_217_298).trans (fRow f12.1.2.1 298 kR_216_298))
  have e52 : hV H4 300 = hV H1 300 := (uRowNe f28 300 (iS (show n1 = ((285 : Nat) : Int) from f2) rfl)).trans ((fRow f15.1.2.1 300 kR_217_300).trans (fRow f12.1.2.1 300 kR_216_300))
  have e57 : hV H4 301 = hV H1 301 := (uRowNe f28 301 (iS (show n1 = ((285 : Nat) : Int) from f2) rfl)).trans ((fRow f15.1.2.1 301 kR_217_301).trans (fRow f12.1.2.1 301 kR_216_301))
  have e62 : hV H4 302 = hV H1 302 := (uRowNe f28 302 (iS (show n1 = ((285 : Nat) : Int) from f2) rfl)).trans ((fRow f15.1.2.1 302 kR_217_302).trans (fRow f12.1.2.1 302 kR_216_302))
  have e67 : hV H4 303 = hV H1 303 := (uRowNe f28 303 (iS (show n1 = ((285 : Nat) : Int) from f2) rfl)).trans ((fRow f15.1.2.1 303 kR_217_303).trans (fRow f12.1.2.1 303 kR_216_303))
  have e72 : hV H4 305 = hV H1 305 := (uRowNe f28 305 (iS (show n1 = ((285 : Nat) : Int) from f2) rfl)).trans ((fRow f15.1.2.1 305 kR_217_305).trans (fRow f12.1.2.1 305 kR_216_305))
  have e77 : hV H4 306 = hV H1 306 := (uRowNe f28 306 (iS (show n1 = ((285 : Nat) : Int) from f2) rfl)).trans ((fRow f15.1.2.1 306 kR_217_306).trans (fRow f12.1.2.1 306 kR_216_306))
  have e82 : hV H4 307 = hV H1 307 := (uRowNe f28 307 (iS (show n1 = ((285 : Nat) : Int) from f2) rfl)).trans ((fRow f15.1.2.1 307 kR_217_307).trans (fRow f12.1.2.1 307 kR_216_307))
  have e87 : hV H4 308 = hV H1 308 := (uRowNe f28 308 (iS (show n1 = ((285 : Nat) : Int) from f2) rfl)).trans ((fRow f15.1.2.1 308 kR_217_308).trans (fRow f12.1.2.1 308 kR_216_308))
  have e92 : hV H4 309 = hV H1 309 := (uRowNe f28 309 (iS (show n1 = ((285 : Nat) : Int) from f2) rfl)).trans ((fRow f15.1.2.1 309 kR_217_309).trans (fRow f12.1.2.1 309 kR_216_309))
  have e97 : hV H4 310 = hV H1 310 := (uRowNe f28 310 (iS (show n1 = ((285 : Nat) : Int) from f2) rfl)).trans ((fRow f15.1.2.1 310 kR_217_310).trans (fRow f12.1.2.1 310 kR_216_310))
  have e102 : hV H4 311 = hV H1 311 := (uRowNe f28 311 (iS (show n1 = ((285 : Nat) : Int) from f2) rfl)).trans ((fRow f15.1.2.1 311 kR_217_311).trans (fRow f12.1.2.1 311 kR_216_311))
  have e107 : hV H4 317 = hV H1 317 := (uRowNe f28 317 (iS (show n1 = ((285 : Nat) : Int) from f2) rfl)).trans ((fRow f15.1.2.1 317 kR_217_317).trans (fRow f12.1.2.1 317 kR_216_317))
  have e112 : hV H4 318 = hV H1 318 := (uRowNe f28 318 (iS (show n1 = ((285 : Nat) : Int) from f2) rfl)).trans ((fRow f15.1.2.1 318 kR_217_318).trans (fRow f12.1.2.1 318 kR_216_318))
  have e117 : hV H4 319 = hV H1 319 := (uRowNe f28 319 (iS (show n1 = ((285 : Nat) : Int) from f2) rfl)).trans ((fRow f15.1.2.1 319 kR_217_319).trans (fRow f12.1.2.1 319 kR_216_319))
  have e122 : hV H4 320 = hV H1 320 := (uRowNe f28 320 (iS (show n1 = ((285 : Nat) : Int) from f2) rfl)).trans ((fRow f15.1.2.1 320 kR_217_320).trans (fRow f12.1.2.1 320 kR_216_320))
  have e127 : hV H4 321 = hV H1 321 := (uRowNe f28 321 (iS (show n1 = ((285 : Nat) : Int) from f2) rfl)).trans ((fRow f15.1.2.1 321 kR_217_321).trans (fRow f12.1.2.1 321 kR_216_321))
  have e128 : AC H2 = AC H1 := AC_fr f12.1.2.1 (by decide +kernel)
  have e129 : AC H3 = AC H2 := AC_fr f15.1.2.1 (by decide +kernel)
  have e130 : AC H3 = AC H1 := e129.trans e128
  have e131 : AC H4 = AC H3 := AC_upF f28 f2 (show n10 = ((17 : Nat) : Int) from f27) (by decide)
  have e132 : AC H4 = AC H1 := e131.trans e130
  have e133 : PG H2 = PG H1 := PG_fr f12.1.2.1 (by decide +kernel)
  have e134 : PG H3 = PG H2 := PG_fr f15.1.2.1 (by decide +kernel)
  have e135 : PG H3 = PG H1 := e134.trans e133
  have e136 : PG H4 = PG H3 := PG_upF f28 f2 (show n10 = ((17 : Nat) : Int) from f27) (by decide)
  have e137 : PG H4 = PG H1 := e136.trans e135
  have e138 : PQ H2 = PQ H1 := PQ_fr f12.1.2.1 (by decide +kernel)
  have e139 : PQ H3 = PQ H2 := PQ_fr f15.1.2.1 (by decide +kernel)
  have e140 : PQ H3 = PQ H1 := e139.trans e138
  have e141 : PQ H4 = PQ H3 := PQ_upF f28 f2 (show n10 = ((17 : Nat) : Int) from f27) (by decide)
  have e142 : PQ H4 = PQ H1 := e141.trans e140
  have e143 : RN H2 = RN H1 := RN_fr f12.1.2.1 (by decide +kernel)
  have e144 : RN H3 = RN H2 := RN_fr f15.1.2.1 (by decide +kernel)
  have e145 : RN H3 = RN H1 := e144.trans e143
  have e146 : RN H4 = RN H3 := RN_upF f28 f2 (show n10 = ((17 : Nat) : Int) from f27) (by decide)
  have e147 : RN H4 = RN H1 := e146.trans e145
  have e148 : RV H2 = RV H1 := RV_fr f12.1.2.1 (by decide +kernel)
  have e149 : RV H3 = RV H2 := RV_fr f15.1.2.1 (by decide +kernel)
  have e150 : RV H3 = RV H1 := e149.trans e148
  have e151 : RV H4 = RV H3 := RV_upF f28 f2 (show n10 = ((17 : Nat) : Int) from f27) (by decide)
  have e152 : RV H4 = RV H1 := e151.trans e150
  have e153 : SO H2 = SO H1 := SO_fr f12.1.2.1 (by decide +kernel)
  have e154 : SO H3 = SO H2 := SO_fr f15.1.2.1 (by decide +kernel)
  have e155 : SO H3 = SO H1 := e154.trans e153
  have e156 : SO H4 = SO H3 := SO_upF f28 f2 (show n10 = ((17 : Nat) : Int) from f27) (by decide)
  have e157 : SO H4 = SO H1 := e156.trans e155
  have e158 : (0 : Int) ≤ hV H1 285 11 ∧ hV H1 285 11 ≤ 500 := f4.1.2.2 285 11 _ _ kW_285_11
  have e159 : (0 : Int) ≤ hV H1 285 13 ∧ hV H1 285 13 ≤ 2 := f4.1.2.2 285 13 _ _ kW_285_13
  have e160 : (0 : Int) ≤ hV H1 285 15 ∧ hV H1 285 15 ≤ 6 := f4.1.2.2 285 15 _ _ kW_285_15
  have e161 : (0 : Int) ≤ hV H1 285 18 ∧ hV H1 285 18 ≤ 8 := f4.1.2.2 285 18 _ _ kW_285_18
  have e162 : (0 : Int) ≤ hV H1 285 32 ∧ hV H1 285 32 ≤ 7 := f4.1.2.2 285 32 _ _ kW_285_32
  have e163 : (0 : Int) ≤ hV H1 285 34 ∧ hV H1 285 34 ≤ 1 := f4.1.2.2 285 34 _ _ kW_285_34
  have e164 : (0 : Int) ≤ hV H1 285 35 ∧ hV H1 285 35 ≤ 1 := f4.1.2.2 285 35 _ _ kW_285_35
  have e167 : (0 : Int) ≤ hV H3 285 13 ∧ hV H3 285 13 ≤ 2 := f15.1.2.2.2 285 13 _ _ kW_285_13
  try simp only [e14, e16, e20, e24, e28, e32, e37, e42, e47, e52, e57, e62, e67, e72, e77, e82, e87, e92, e97, e102, e107, e112, e117, e122, e127, e132, e137, e142, e147, e152, e157]
  have y0 := g4.1
  have y1 := g4.2.1
  have y2 := g4.2.2.1
  have y3 := g4.2.2.2.1
  have y4 := g4.2.2.2.2.1
  have y5 := g4.2.2.2.2.2.1
  have y6 := g4.2.2.2.2.2.2.1
  have y7 := g4.2.2.2.2.2.2.2.1
  have y8 := g4.2.2.2.2.2.2.2.2.1
  have y9 := g4.2.2.2.2.2.2.2.2.2.1
  have y10 := g4.2.2.2.2.2.2.2.2.2.2
  have p0 := g3.1
  have p1 := g3.2.1
  have p2 := g3.2.2.1
  have p3 := g3.2.2.2.1
  have p4 := g3.2.2.2.2.1
  have p5 := g3.2.2.2.2.2
  have r0_0 := f12.2.1
  have r0_1 := f12.2.2
  have r1_0 := f15.2.1
  have r1_1 := f15.2.2
  try simp only [e11] at r0_0
  try simp only [e9, e11, e12] at r0_1
  try simp only [e11] at r1_0
  clear g3
  clear g4
  clear f7 f18 f22 f26 e9 e11 e12 e14 e16 e20 e24 e28 e32 e37 e42 e47 e52 e57 e62 e67 e72 e77 e82 e87 e92 e97 e102 e107 e112 e117 e122 e127 e128 e129 e130 e131 e132 e133 e134 e135 e136 e137 e138 e139 e140 e141 e142 e143 e144 e145 e146 e147 e148 e149 e150 e151 e152 e153 e154 e155 e156 e157
  clear f4 f12 f15
  subst e0
  subst e1
  subst e4
  subst e7

  refine ⟨⟨?_, ?_, ?_, ?_, ?_, ?_, ?_, ?_, ?_, ?_, ?_⟩, fun q hq => ?_⟩
  · exact y0
  · exact y1
  · exact y2
  · exact y3
  · exact y4
  · exact y5
  · first | trivial | omega
  · first | trivial | omega
  · first | trivial | omega
  · intro a b c
    exact y9 (by omega) (by omega) (by omega)
  · intro a b
    exact y10 (by omega) (by omega)
  · have g6 := Option.some.inj hq
    subst g6
    omega
def g_221_117_7 : vG := ([(80, [1, 10, 9], [4, 3], 0), (0, [10], [], 17), (20, [9, 1], [3], 16), (90, [9], [], 0), (91, [9], [], 2000), (34, [8], [], 0), (20, [8, 1], [3], 15), (90, [8], [], 0), (91, [8], [], 6), (35, [7], [], 0), (20, [7, 1], [3], 13), (90, [7], [], 0), (91, [7], [], 2), (1217, [1, 6], [2, 3], 0), (0, [6], [], 1), (30, [5], [], 0), (1216, [5, 1, 4], [1, 2], 0), (90, [5], [], 0), (91, [5], [], 1), (0, [4], [], 0), (30, [3], [], 0), (20, [3, 1], [1], 13), (90, [3], [], 0), (91, [3], [], 2), (5000, [0, 1, 2], [0, 1], 117), (0, [0], [], 285), (0, [1], [], 285), (90, [2], [], 0), (91, [2], [], 1)], (4000, [1, 2], [4], 170))
theorem c_221_117_7 {q0 : Nat} : vOkm T0 (eP e_221 L_221 A_221 mu_221 (some q0)) 1 g_221_117_7 := vOk_inI fun ρ η f0 f1 f2 f3 f4 f5 f6 f7 f8 f9 f10 f11 f12 f13 f14 f15 f16 f17 f18 f19 f20 f21 f22 f23 f24 f25 f26 f27 f28 => q_221_20 (q0 := q0) (n0 := ρ 2) (n1 := ρ 1) (n2 := ρ 0) (n3 := ρ 3) (n4 := ρ 4) (n5 := ρ 5) (n6 := ρ 6) (n7 := ρ 7) (n8 := ρ 8) (n9 := ρ 9) (n10 := ρ 10) (H0 := η 0) (H1 := η 1) (H2 := η 2) (H3 := η 3) (H4 := η 4) f28 f27 f26 f25 f24 f23 f22 f21 f20 f19 f18 f17 f16 f15 f14 f13 f12 f11 f10 f9 f8 f7 f6 f5 f4 f3 f2 f1 f0
theorem q_221_21 {q0 : Nat} {n0 n1 n2 n3 n4 n5 n6 n7 n8 n9 : Int} {H0 H1 H2 H3 H4 : gH} (f0 : n0 ≤ 1) (f1 : 0 ≤ n0) (f2 : n1 = 285) (f3 : n2 = 285) (f4 : (hLe T0 H0 H1 ∧ hFr s_221.2.2.2.2 H0 H1 ∧ hWt T0 H1) ∧ (Ab_221_117 n2 n1 n0 H0 H1 ∧ preb_221 n2 H0) ∧ some q0 = some (mub_221_117 n2 n1 n0 H0 H1)) (f5 : n3 ≤ 2) (f6 : 0 ≤ n3) (f7 : n3 = hV H1 (n1).toNat 13) (f8 : n3 = 0) (f9 : n4 = 0) (f10 : n5 ≤ 1) (f11 : 0 ≤ n5) (f12 : (hLe T0 H1 H2 ∧ hFr s_216.2.2.2.2 H1 H2 ∧ ((0 : Int) = 0 → H2.length = H1.length) ∧ hWt T0 H2) ∧ postb_216 n5 n1 n4 H1 H2) (f13 : n5 = 0) (f14 : n6 = 1) (f15 : (hLe T0 H2 H3 ∧ hFr s_217.2.2.2.2 H2 H3 ∧ ((0 : Int) = 0 → H3.length = H2.length) ∧ hWt T0 H3) ∧ postb_217 n1 n6 H2 H3) (f16 : n7 ≤ 2) (f17 : 0 ≤ n7) (f18 : n7 = hV H3 (n1).toNat 13) (f19 : 0 < n7) (f20 : n8 ≤ 2000) (f21 : 0 ≤ n8) (f22 : n8 = hV H3 (n1).toNat 14) (f23 : n9 = 17) (f24 : hUpd H4 H3 n1 n9 n8) : Ab_221_170 n2 n1 n0 H0 H4 ∧ ∀ q, some q0 = some q → mub_221_170 n2 n1 n0 H0 H4 < q := by
  have g4 := f4.2.1.1
  unfold Ab_221_117 at g4
  have g3 := f4.2.1.2
  unfold preb_221 at g3
  have g5 := Option.some.inj f4.2.2
  unfold mub_221_117 at g5
  unfold postb_216 at f12
  unfold postb_217 at f15
  unfold Ab_221_170
  unfold mub_221_170
  have e0 : n3 = hV H1 285 13 := (by rw [f2] at f7; exact f7 : n3 = hV H1 285 13)
  have e1 : n7 = hV H3 285 13 := (by rw [f2] at f18; exact f18 : n7 = hV H3 285 13)
  have e2 : n8 = hV H3 285 14 := (by rw [f2] at f22; exact f22 : n8 = hV H3 285 14)
  have e4 : hV H2 285 11 = hV H1 285 11 := (f12.1.2.1.1 285 11 kF_216_285_11)
  have e6 : hV H2 285 13 = hV H1 285 13 := (f12.1.2.1.1 285 13 kF_216_285_13)
  have e7 : hV H2 288 = hV H1 288 := fRow f12.1.2.1 288 kR_216_288
  have e9 : hV H4 285 13 = hV H3 285 13 := (uSlot f24 285 13 (iS (show n9 = ((17 : Nat) : Int) from f23) rfl))
  have e13 : hV H4 285 15 = hV H1 285 15 := ((uSlot f24 285 15 (iS (show n9 = ((17 : Nat) : Int) from f23) rfl))).trans (((f15.1.2.1.1 285 15 kF_217_285_15)).trans (f12.1.2.1.1 285 15 kF_216_285_15))
  have e17 : hV H4 285 18 = hV H1 285 18 := ((uSlot f24 285 18 (iS (show n9 = ((17 : Nat) : Int) from f23) rfl))).trans (((f15.1.2.1.1 285 18 kF_217_285_18)).trans (f12.1.2.1.1 285 18 kF_216_285_18))
  have e21 : hV H4 285 32 = hV H1 285 32 := ((uSlot f24 285 32 (iS (show n9 = ((17 : Nat) : Int) from f23) rfl))).trans (((f15.1.2.1.1 285 32 kF_217_285_32)).trans (f12.1.2.1.1 285 32 kF_216_285_32))
  have e25 : hV H4 285 34 = hV H1 285 34 := ((uSlot f24 285 34 (iS (show n9 = ((17 : Nat) : Int) from f23) rfl))).trans (((f15.1.2.1.1 285 34 kF_217_285_34)).trans (f12.1.2.1.1 285 34 kF_216_285_34))
  have e29 : hV H4 285 35 = hV H1 285 35 := ((uSlot f24 285 35 (iS (show n9 = ((17 : Nat) : Int) from f23) rfl))).trans (((f15.1.2.1.1 285 35 kF_217_285_35)).trans (f12.1.2.1.1 285 35 kF_216_285_35))
  have e34 : hV H4 294 = hV H1 294 := (uRowNe f24 294 (iS (show n1 = ((285 : Nat) : Int) from f2) rfl)).trans ((fRow f15.1.2.1 294 kR_217_294).trans (fRow f12.1.2.1 294 kR_216_294))
  have e39 : hV H4 296 = hV H1 296 := (uRowNe f24 296 (iS (show n1 = ((285 : Nat) : Int) from f2) rfl)).trans ((fRow f15.1.2.1 296 kR_217_296).trans (fRow f12.1.2.1 296 kR_216_296))
  have e44 : hV H4 298 = hV H1 298 := (uRowNe f24 298 (iS (show n1 = ((285 : Nat) : Int) from f2) rfl)).trans ((fRow f15.1.2.1 298 kR_217_298).trans (fRow f12.1.2.1 298 kR_216_298))
  have e49 : hV H4 300 = hV H1 300 := (uRowNe f24 300 (iS (show n1 = ((285 : Nat) : Int) from f2) rfl)).trans ((fRow f15.1.2.1 300 kR_217_300).trans (fRow f12.1.2.1 300 kR_216_300))
  have e54 : hV H4 301 = hV H1 301 := (uRowNe f24 301 (iS (show n1 = ((285 : Nat) : Int) from f2) rfl)).trans ((fRow f15.1.2.1 301 kR_217_301).trans (fRow f12.1.2.1 301 kR_216_301))
  have e59 : hV H4 302 = hV H1 302 := (uRowNe f24 302 (iS (show n1 = ((285 : Nat) : Int) from f2) rfl)).trans ((fRow f15.1.2.1 302 kR_217_302).trans (fRow f12.1.2.1 302 kR_216_302))
  have e64 : hV H4 303 = hV H1 303 := (uRowNe f24 303 (iS (show n1 = ((285 : Nat) : Int) from f2) rfl)).trans ((fRow f15.1.2.1 303 kR_217_303).trans (fRow f12.1.2.1 303 kR_216_303))
  have e69 : hV H4 305 = hV H1 305 := (uRowNe f24 305 (iS (show n1 = ((285 : Nat) : Int) from f2) rfl)).trans ((fRow f15.1.2.1 305 kR_217_305).trans (fRow f12.1.2.1 305 kR_216_305))
  have e74 : hV H4 306 = hV H1 306 := (uRowNe f24 306 (iS (show n1 = ((285 : Nat) : Int) from f2) rfl)).trans ((fRow f15.1.2.1 306 kR_217_306).trans (fRow f12.1.2.1 306 kR_216_306))
  have e79 : hV H4 307 = hV H1 307 := (uRowNe f24 307 (iS (show n1 = ((285 : Nat) : Int) from f2) rfl)).trans ((fRow f15.1.2.1 307 kR_217_307).trans (fRow f12.1.2.1 307 kR_216_307))
  have e84 : hV H4 308 = hV H1 308 := (uRowNe f24 308 (iS (show n1 = ((285 : Nat) : Int) from f2) rfl)).trans ((fRow f15.1.2.1 308 kR_217_308).trans (fRow f12.1.2.1 308 kR_216_308))
  have e89 : hV H4 309 = hV H1 309 := (uRowNe f24 309 (iS (show n1 = ((285 : Nat) : Int) from f2) rfl)).trans ((fRow f15.1.2.1 309 kR_217_309).trans (fRow f12.1.2.1 309 kR_216_309))
  have e94 : hV H4 310 = hV H1 310 := (uRowNe f24 310 (iS (show n1 = ((285 : Nat) : Int) from f2) rfl)).trans ((fRow f15.1.2.1 310 kR_217_310).trans (fRow f12.1.2.1 310 kR_216_310))
  have e99 : hV H4 311 = hV H1 311 := (uRowNe f24 311 (iS (show n1 = ((285 : Nat) : Int) from f2) rfl)).trans ((fRow f15.1.2.1 311 kR_217_311).trans (fRow f12.1.2.1 311 kR_216_311))
  have e104 : hV H4 317 = hV H1 317 := (uRowNe f24 317 (iS (show n1 = ((285 : Nat) : Int) from f2) rfl)).trans ((fRow f15.1.2.1 317 kR_217_317).trans (fRow f12.1.2.1 317 kR_216_317))
  have e109 : hV H4 318 = hV H1 318 := (uRowNe f24 318 (iS (show n1 = ((285 : Nat) : Int) from f2) rfl)).trans ((fRow f15.1.2.1 318 kR_217_318).trans (fRow f12.1.2.1 318 kR_216_318))
  have e114 : hV H4 319 = hV H1 319 := (uRowNe f24 319 (iS (show n1 = ((285 : Nat) : Int) from f2) rfl)).trans ((fRow f15.1.2.1 319 kR_217_319).trans (fRow f12.1.2.1 319 kR_216_319))
  have e119 : hV H4 320 = hV H1 320 := (uRowNe f24 320 (iS (show n1 = ((285 : Nat) : Int) from f2) rfl)).trans ((fRow f15.1.2.1 320 kR_217_320).trans (fRow f12.1.2.1 320 kR_216_320))
  have e124 : hV H4 321 = hV H1 321 := (uRowNe f24 321 (iS (show n1 = ((285 : Nat) : Int) from f2) rfl)).trans ((fRow f15.1.2.1 321 kR_217_321).trans (fRow f12.1.2.1 321 kR_216_321))
  have e125 : AC H2 = AC H1 := AC_fr f12.1.2.1 (by decide +kernel)
  have e126 : AC H3 = AC H2 := AC_fr f15.1.2.1 (by decide +kernel)
  have e127 : AC H3 = AC H1 := e126.trans e125
  have e128 : AC H4 = AC H3 := AC_upF f24 f2 (show n9 = ((17 : Nat) : Int) from f23) (by decide)
  have e129 : AC H4 = AC H1 := e128.trans e127
  have e130 : PG H2 = PG H1 := PG_fr f12.1.2.1 (by decide +kernel)
  have e131 : PG H3 = PG H2 := PG_fr f15.1.2.1 (by decide +kernel)
  have e132 : PG H3 = PG H1 := e131.trans e130
  have e133 : PG H4 = PG H3 := PG_upF f24 f2 (show n9 = ((17 : Nat) : Int) from f23) (by decide)
  have e134 : PG H4 = PG H1 := e133.trans e132
  have e135 : PQ H2 = PQ H1 := PQ_fr f12.1.2.1 (by decide +kernel)
  have e136 : PQ H3 = PQ H2 := PQ_fr f15.1.2.1 (by decide +kernel)
  have e137 : PQ H3 = PQ H1 := e136.trans e135
  have e138 : PQ H4 = PQ H3 := PQ_upF f24 f2 (show n9 = ((17 : Nat) : Int) from f23) (by decide)
  have e139 : PQ H4 = PQ H1 := e138.trans e137
  have e140 : RN H2 = RN H1 := RN_fr f12.1.2.1 (by decide +kernel)
  have e141 : RN H3 = RN H2 := RN_fr f15.1.2.1 (by decide +kernel)
  have e142 : RN H3 = RN H1 := e141.trans e140
  have e143 : RN H4 = RN H3 := RN_upF f24 f2 (show n9 = ((17 : Nat) : Int) from f23) (by decide)
  have e144 : RN H4 = RN H1 := e143.trans e142
  have e145 : RV H2 = RV H1 := RV_fr f12.1.2.1 (by decide +kernel)
  have e146 : RV H3 = RV H2 := RV_fr f15.1.2.1 (by decide +kernel)
  have e147 : RV H3 = RV H1 := e146.trans e145
  have e148 : RV H4 = RV H3 := RV_upF f24 f2 (show n9 = ((17 : Nat) : Int) from f23) (by decide)
  have e149 : RV H4 = RV H1 := e148.trans e147
  have e150 : SO H2 = SO H1 := SO_fr f12.1.2.1 (by decide +kernel)
  have e151 : SO H3 = SO H2 := SO_fr f15.1.2.1 (by decide +kernel)
  have e152 : SO H3 = SO H1 := e151.trans e150
  have e153 : SO H4 = SO H3 := SO_upF f24 f2 (show n9 = ((17 : Nat) : Int) from f23) (by decide)
  have e154 : SO H4 = SO H1 := e153.trans e152
  have e155 : (0 : Int) ≤ hV H1 285 11 ∧ hV H1 285 11 ≤ 500 := f4.1.2.2 285 11 _ _ kW_285_11
  have e156 : (0 : Int) ≤ hV H1 285 13 ∧ hV H1 285 13 ≤ 2 := f4.1.2.2 285 13 _ _ kW_285_13
  have e157 : (0 : Int) ≤ hV H1 285 15 ∧ hV H1 285 15 ≤ 6 := f4.1.2.2 285 15 _ _ kW_285_15
  have e158 : (0 : Int) ≤ hV H1 285 18 ∧ hV H1 285 18 ≤ 8 := f4.1.2.2 285 18 _ _ kW_285_18
  have e159 : (0 : Int) ≤ hV H1 285 32 ∧ hV H1 285 32 ≤ 7 := f4.1.2.2 285 32 _ _ kW_285_32
  have e160 : (0 : Int) ≤ hV H1 285 34 ∧ hV H1 285 34 ≤ 1 := f4.1.2.2 285 34 _ _ kW_285_34
  have e161 : (0 : Int) ≤ hV H1 285 35 ∧ hV H1 285 35 ≤ 1 := f4.1.2.2 285 35 _ _ kW_285_35
  have e164 : (0 : Int) ≤ hV H3 285 13 ∧ hV H3 285 13 ≤ 2 := f15.1.2.2.2 285 13 _ _ kW_285_13
  try simp only [e9, e13, e17, e21, e25, e29, e34, e39, e44, e49, e54, e59, e64, e69, e74, e79, e84, e89, e94, e99, e104, e109, e114, e119, e124, e129, e134, e139, e144, e149, e154]
  have y0 := g4.1
  have y1 := g4.2.1
  have y2 := g4.2.2.1
  have y3 := g4.2.2.2.1
  have y4 := g4.2.2.2.2.1
  have y5 := g4.2.2.2.2.2.1
  have y6 := g4.2.2.2.2.2.2.1
  have y7 := g4.2.2.2.2.2.2.2.1
  have y8 := g4.2.2.2.2.2.2.2.2.1
  have y9 := g4.2.2.2.2.2.2.2.2.2.1
  have y10 := g4.2.2.2.2.2.2.2.2.2.2
  have p0 := g3.1
  have p1 := g3.2.1
  have p2 := g3.2.2.1
  have p3 := g3.2.2.2.1
  have p4 := g3.2.2.2.2.1
  have p5 := g3.2.2.2.2.2
  have r0_0 := f12.2.1
  have r0_1 := f12.2.2
  have r1_0 := f15.2.1
  have r1_1 := f15.2.2
  try simp only [e6] at r0_0
  try simp only [e4, e6, e7] at r0_1
  try simp only [e6] at r1_0
  clear g3
  clear g4
  clear f7 f18 f22 e4 e6 e7 e9 e13 e17 e21 e25 e29 e34 e39 e44 e49 e54 e59 e64 e69 e74 e79 e84 e89 e94 e99 e104 e109 e114 e119 e124 e125 e126 e127 e128 e129 e130 e131 e132 e133 e134 e135 e136 e137 e138 e139 e140 e141 e142 e143 e144 e145 e146 e147 e148 e149 e150 e151 e152 e153 e154
  clear f4 f12 f15
  subst e0
  subst e1
  subst e2

  refine ⟨⟨?_, ?_, ?_, ?_, ?_, ?_, ?_, ?_, ?_, ?_, ?_⟩, fun q hq => ?_⟩
  · exact y0
  · exact y1
  · exact y2
  · exact y3
  · exact y4
  · exact y5
  · first | trivial | omega
  · first | trivial | omega
  · first | trivial | omega
  · intro a b c
    exact y9 (by omega) (by omega) (by omega)
  · intro a b
    exact y10 (by omega) (by omega)
  · have g6 := Option.some.inj hq
    subst g6
    omega
def g_221_117_8 : vG := ([(80, [1, 9, 8], [4, 3], 0), (0, [9], [], 17), (20, [8, 1], [3], 14), (90, [8], [], 0), (91, [8], [], 2000), (34, [7], [], 0), (20, [7, 1], [3], 13), (90, [7], [], 0), (91, [7], [], 2), (1217, [1, 6], [2, 3], 0), (0, [6], [], 1), (30, [5], [], 0), (1216, [5, 1, 4], [1, 2], 0), (90, [5], [], 0), (91, [5], [], 1), (0, [4], [], 0), (30, [3], [], 0), (20, [3, 1], [1], 13), (90, [3], [], 0), (91, [3], [], 2), (5000, [0, 1, 2], [0, 1], 117), (0, [0], [], 285), (0, [1], [], 285), (90, [2], [], 0), (91, [2], [], 1)], (4000, [1, 2], [4], 170))
theorem c_221_117_8 {q0 : Nat} : vOkm T0 (eP e_221 L_221 A_221 mu_221 (some q0)) 1 g_221_117_8 := vOk_inI fun ρ η f0 f1 f2 f3 f4 f5 f6 f7 f8 f9 f10 f11 f12 f13 f14 f15 f16 f17 f18 f19 f20 f21 f22 f23 f24 => q_221_21 (q0 := q0) (n0 := ρ 2) (n1 := ρ 1) (n2 := ρ 0) (n3 := ρ 3) (n4 := ρ 4) (n5 := ρ 5) (n6 := ρ 6) (n7 := ρ 7) (n8 := ρ 8) (n9 := ρ 9) (H0 := η 0) (H1 := η 1) (H2 := η 2) (H3 := η 3) (H4 := η 4) f24 f23 f22 f21 f20 f19 f18 f17 f16 f15 f14 f13 f12 f11 f10 f9 f8 f7 f6 f5 f4 f3 f2 f1 f0
def p_221_117 : List vG := [g_221_117_0,
  g_221_117_1,
  g_221_117_2,
  g_221_117_3,
  g_221_117_4,
  g_221_117_5,
  g_221_117_6,
  g_221_117_7,
  g_221_117_8]
theorem r_221_117 : vCovO false (eRc e_221 L_221 cs_221 2000 (117, [(0, (3, 12, 285, 0)), (1, (0, 0, 1, 0))])) p_221_117 = true := by decide +kernel
theorem q_221_22 {q0 : Nat} {n0 n1 n2 : Int} {H0 : gH} (f0 : n0 ≤ 6) (f1 : 1 ≤ n0) (f2 : n1 = 1) (f3 : n2 = w32 (n0 - n1)) : 0 ≤ n2 := by
  first
  | (have ix0 : n2 = n0 - 1 := Eq.trans f3 (w32_iv (Isu (Iat f1 f0) (IC 1)) (by decide)); subst ix0; clear f3)
  | (have ix0 : n2 = n0 - 1 := Eq.trans f3 (w32_id (by omega) (by omega)); subst ix0; clear f3)
  | (unfold w32 at f3; have ix0 : n2 = n0 - 1 := (by omega); subst ix0)
  | skip
  try unfold w32 at f3
  omega
def g_221_170_0 : vG := ([(2, [9, 7, 8], [], 0), (0, [8], [], 1), (90, [7], [], 1), (91, [7], [], 6)], (90, [9], [], 0))
theorem c_221_170_0 {q0 : Nat} : vOkm T0 (eP e_221 L_221 A_221 mu_221 (some q0)) 1 g_221_170_0 := vOk_inI fun ρ η f0 f1 f2 f3 => q_221_22 (q0 := q0) (n0 := ρ 7) (n1 := ρ 8) (n2 := ρ 9) (H0 := η 0) f3 f2 f1 f0
theorem q_221_23 {q0 : Nat} {n0 n1 n2 : Int} {H0 : gH} (f0 : n0 ≤ 6) (f1 : 1 ≤ n0) (f2 : n1 = 1) (f3 : n2 = w32 (n0 - n1)) : n2 ≤ 5 := by
  first
  | (have ix0 : n2 = n0 - 1 := Eq.trans f3 (w32_iv (Isu (Iat f1 f0) (IC 1)) (by decide)); subst ix0; clear f3)
  | (have ix0 : n2 = n0 - 1 := Eq.trans f3 (w32_id (by omega) (by omega)); subst ix0; clear f3)
  | (unfold w32 at f3; have ix0 : n2 = n0 - 1 := (by omega); subst ix0)
  | skip
  try unfold w32 at f3
  omega
def g_221_170_1 : vG := ([(2, [9, 7, 8], [], 0), (0, [8], [], 1), (90, [7], [], 1), (91, [7], [], 6)], (91, [9], [], 5))
theorem c_221_170_1 {q0 : Nat} : vOkm T0 (eP e_221 L_221 A_221 mu_221 (some q0)) 1 g_221_170_1 := vOk_inI fun ρ η f0 f1 f2 f3 => q_221_23 (q0 := q0) (n0 := ρ 7) (n1 := ρ 8) (n2 := ρ 9) (H0 := η 0) f3 f2 f1 f0
theorem q_221_24 {q0 : Nat} {n0 n1 n2 : Int} {H0 : gH} (f0 : n0 ≤ 8) (f1 : 0 ≤ n0) (f2 : n1 = 1) (f3 : n2 = w32 (n0 + n1)) : 0 ≤ n2 := by
  first
  | (have ix0 : n2 = n0 + 1 := Eq.trans f3 (w32_iv (Iad (Iat f1 f0) (IC 1)) (by decide)); subst ix0; clear f3)
  | (have ix0 : n2 = n0 + 1 := Eq.trans f3 (w32_id (by omega) (by omega)); subst ix0; clear f3)
  | (unfold w32 at f3; have ix0 : n2 = n0 + 1 := (by omega); subst ix0)
  | skip
  try unfold w32 at f3
  omega
def g_221_170_2 : vG := ([(1, [12, 10, 11], [], 0), (0, [11], [], 1), (90, [10], [], 0), (91, [10], [], 8)], (90, [12], [], 0))
theorem c_221_170_2 {q0 : Nat} : vOkm T0 (eP e_221 L_221 A_221 mu_221 (some q0)) 1 g_221_170_2 := vOk_inI fun ρ η f0 f1 f2 f3 => q_221_24 (q0 := q0) (n0 := ρ 10) (n1 := ρ 11) (n2 := ρ 12) (H0 := η 0) f3 f2 f1 f0
theorem q_221_25 {q0 : Nat} {n0 n1 n2 n3 n4 n5 n6 n7 n8 : Int} {H0 H1 H2 : gH} (f0 : n0 = 285) (f1 : n1 = 285) (f2 : (hLe T0 H0 H1 ∧ hFr s_221.2.2.2.2 H0 H1 ∧ hWt T0 H1) ∧ (Ab_221_170 n1 n0 n2 H0 H1 ∧ preb_221 n1 H0) ∧ some q0 = some (mub_221_170 n1 n0 n2 H0 H1)) (f3 : n3 = 293) (f4 : hUpd H2 H1 n3 n4 n5) (f5 : n6 = hV H2 (n0).toNat 18) (f6 : n7 = 1) (f7 : n8 = w32 (n6 + n7)) : n8 ≤ 8 := by
  have g4 := f2.2.1.1
  unfold Ab_221_170 at g4
  have g3 := f2.2.1.2
  unfold preb_221 at g3
  have e1 : n6 = hV H1 285 18 := (by rw [f0] at f5; exact f5 : n6 = hV H2 285 18).trans ((uPlace f4 285 18 (iS (show n3 = ((293 : Nat) : Int) from f3) rfl)))
  have e2 : (0 : Int) ≤ hV H1 285 13 ∧ hV H1 285 13 ≤ 2 := f2.1.2.2 285 13 _ _ kW_285_13
  have e3 : (0 : Int) ≤ hV H1 285 15 ∧ hV H1 285 15 ≤ 6 := f2.1.2.2 285 15 _ _ kW_285_15
  have e4 : (0 : Int) ≤ hV H1 285 18 ∧ hV H1 285 18 ≤ 8 := f2.1.2.2 285 18 _ _ kW_285_18
  have e5 : (0 : Int) ≤ hV H1 285 32 ∧ hV H1 285 32 ≤ 7 := f2.1.2.2 285 32 _ _ kW_285_32
  have e6 : (0 : Int) ≤ hV H1 285 34 ∧ hV H1 285 34 ≤ 1 := f2.1.2.2 285 34 _ _ kW_285_34
  have e7 : (0 : Int) ≤ hV H1 285 35 ∧ hV H1 285 35 ≤ 1 := f2.1.2.2 285 35 _ _ kW_285_35
  have y0 := g4.1
  have y1 := g4.2.1
  have y2 := g4.2.2.1
  have y3 := g4.2.2.2.1
  have y4 := g4.2.2.2.2.1
  have y5 := g4.2.2.2.2.2.1
  have y6 := g4.2.2.2.2.2.2.1
  have y7 := g4.2.2.2.2.2.2.2.1
  have y8 := g4.2.2.2.2.2.2.2.2.1
  have y9 := g4.2.2.2.2.2.2.2.2.2.1
  have y10 := g4.2.2.2.2.2.2.2.2.2.2
  have p0 := g3.1
  have p1 := g3.2.1
  have p2 := g3.2.2.1
  have p3 := g3.2.2.2.1
  have p4 := g3.2.2.2.2.1
  have p5 := g3.2.2.2.2.2
  clear g3
  clear g4
  clear f5
  clear f2
  subst e1
  first
  | (have ix0 : n8 = hV H1 285 18 + 1 := Eq.trans f7 (w32_iv (Iad (Iat e4.1 e4.2) (IC 1)) (by decide)); subst ix0; clear f7)
  | (have ix0 : n8 = hV H1 285 18 + 1 := Eq.trans f7 (w32_id (by omega) (by omega)); subst ix0; clear f7)
  | (unfold w32 at f7; have ix0 : n8 = hV H1 285 18 + 1 := (by omega); subst ix0)
  | skip
  try unfold w32 at f7
  omega
def g_221_170_3 : vG := ([(1, [12, 10, 11], [], 0), (0, [11], [], 1), (20, [10, 1], [2], 18), (80, [5, 6, 9], [2, 1], 0), (0, [5], [], 293), (5000, [0, 1, 2], [0, 1], 170), (0, [0], [], 285), (0, [1], [], 285)], (91, [12], [], 8))
theorem c_221_170_3 {q0 : Nat} : vOkm T0 (eP e_221 L_221 A_221 mu_221 (some q0)) 1 g_221_170_3 := vOk_inI fun ρ η f0 f1 f2 f3 f4 f5 f6 f7 => q_221_25 (q0 := q0) (n0 := ρ 1) (n1 := ρ 0) (n2 := ρ 2) (n3 := ρ 5) (n4 := ρ 6) (n5 := ρ 9) (n6 := ρ 10) (n7 := ρ 11) (n8 := ρ 12) (H0 := η 0) (H1 := η 1) (H2 := η 2) f7 f6 f5 f4 f3 f2 f1 f0
theorem kR_221_328 : vFreeR s_221.2.2.2.2 328 = true := by decide +kernel
theorem kR_221_330 : vFreeR s_221.2.2.2.2 330 = true := by decide +kernel
theorem kR_221_331 : vFreeR s_221.2.2.2.2 331 = true := by decide +kernel
theorem kR_221_332 : vFreeR s_221.2.2.2.2 332 = true := by decide +kernel
theorem kR_221_335 : vFreeR s_221.2.2.2.2 335 = true := by decide +kernel
theorem kR_221_336 : vFreeR s_221.2.2.2.2 336 = true := by decide +kernel
theorem kF_221_285_60 : vFree s_221.2.2.2.2 285 60 = true := by decide +kernel
theorem kF_221_285_64 : vFree s_221.2.2.2.2 285 64 = true := by decide +kernel
theorem q_221_26 {q0 : Nat} {n0 n1 n2 n3 n4 n5 n6 n7 n8 n9 n10 n11 n12 n13 n14 : Int} {H0 H1 H2 H3 : gH} (f0 : n0 ≤ 1) (f1 : 0 ≤ n0) (f2 : n1 = 285) (f3 : n2 = 285) (f4 : (hLe T0 H0 H1 ∧ hFr s_221.2.2.2.2 H0 H1 ∧ hWt T0 H1) ∧ (Ab_221_170 n2 n1 n0 H0 H1 ∧ preb_221 n2 H0) ∧ some q0 = some (mub_221_170 n2 n1 n0 H0 H1)) (f5 : n3 ≤ 2) (f6 : 0 ≤ n3) (f7 : n3 = hV H1 (n1).toNat 13) (f8 : n3 ≤ 0) (f9 : n4 ≤ 6) (f10 : 0 ≤ n4) (f11 : n4 = hV H1 (n1).toNat 15) (f12 : n4 ≤ 0) (f13 : n0 = 0) (f14 : n5 = 293) (f15 : n5 = hV H1 (n1).toNat 19) (f16 : n6 ≤ 8) (f17 : 0 ≤ n6) (f18 : n6 = hV H1 (n1).toNat 18) (f19 : n7 ≤ 6) (f20 : 1 ≤ n7) (f21 : n7 = hV H1 (n1).toNat 60) (f22 : n8 = 1) (f23 : n9 = w32 (n7 - n8)) (f24 : hUpd H2 H1 n5 n6 n9) (f25 : n10 ≤ 8) (f26 : 0 ≤ n10) (f27 : n10 = hV H2 (n1).toNat 18) (f28 : n11 = 1) (f29 : n12 = w32 (n10 + n11)) (f30 : n13 = 18) (f31 : hUpd H3 H2 n1 n13 n12) (f32 : n14 = 0) : postb_221 n14 n2 H0 H3 := by
  have g4 := f4.2.1.1
  unfold Ab_221_170 at g4
  have g3 := f4.2.1.2
  unfold preb_221 at g3
  unfold postb_221
  have e0 : n3 = hV H1 285 13 := (by rw [f2] at f7; exact f7 : n3 = hV H1 285 13)
  have e1 : n4 = hV H1 285 15 := (by rw [f2] at f11; exact f11 : n4 = hV H1 285 15)
  have e2 : n6 = hV H1 285 18 := (by rw [f2] at f18; exact f18 : n6 = hV H1 285 18)
  have e4 : n7 = hV H0 285 60 := (by rw [f2] at f21; exact f21 : n7 = hV H1 285 60).trans ((f4.1.2.1.1 285 60 kF_221_285_60))
  have e6 : n10 = hV H1 285 18 := (by rw [f2] at f27; exact f27 : n10 = hV H2 285 18).trans ((uPlace f24 285 18 (iS (show n5 = ((293 : Nat) : Int) from f14) rfl)))
  have e8 : hV H1 285 64 = hV H0 285 64 := (f4.1.2.1.1 285 64 kF_221_285_64)
  have e9 : hV H1 328 = hV H0 328 := fRow f4.1.2.1 328 kR_221_328
  have e10 : hV H1 330 = hV H0 330 := fRow f4.1.2.1 330 kR_221_330
  have e11 : hV H1 331 = hV H0 331 := fRow f4.1.2.1 331 kR_221_331
  have e12 : hV H1 332 = hV H0 332 := fRow f4.1.2.1 332 kR_221_332
  have e13 : hV H1 335 = hV H0 335 := fRow f4.1.2.1 335 kR_221_335
  have e14 : hV H1 336 = hV H0 336 := fRow f4.1.2.1 336 kR_221_336
  have e16 : hV H3 285 18 = n12 := (uSame f31 285 18 f2.symm f30.symm)
  have e19 : hV H3 285 64 = hV H0 285 64 := ((uSlot f31 285 64 (iS (show n13 = ((18 : Nat) : Int) from f30) rfl))).trans (((uPlace f24 285 64 (iS (show n5 = ((293 : Nat) : Int) from f14) rfl))).trans (f4.1.2.1.1 285 64 kF_221_285_64))
  have e22 : hV H3 294 = hV H1 294 := (uRowNe f31 294 (iS (show n1 = ((285 : Nat) : Int) from f2) rfl)).trans (uRowNe f24 294 (iS (show n5 = ((293 : Nat) : Int) from f14) rfl))
  have e25 : hV H3 296 = hV H1 296 := (uRowNe f31 296 (iS (show n1 = ((285 : Nat) : Int) from f2) rfl)).trans (uRowNe f24 296 (iS (show n5 = ((293 : Nat) : Int) from f14) rfl))
  have e28 : hV H3 298 = hV H1 298 := (uRowNe f31 298 (iS (show n1 = ((285 : Nat) : Int) from f2) rfl)).trans (uRowNe f24 298 (iS (show n5 = ((293 : Nat) : Int) from f14) rfl))
  have e31 : hV H3 300 = hV H1 300 := (uRowNe f31 300 (iS (show n1 = ((285 : Nat) : Int) from f2) rfl)).trans (uRowNe f24 300 (iS (show n5 = ((293 : Nat) : Int) from f14) rfl))
  have e34 : hV H3 301 = hV H1 301 := (uRowNe f31 301 (iS (show n1 = ((285 : Nat) : Int) from f2) rfl)).trans (uRowNe f24 301 (iS (show n5 = ((293 : Nat) : Int) from f14) rfl))
  have e37 : hV H3 302 = hV H1 302 := (uRowNe f31 302 (iS (show n1 = ((285 : Nat) : Int) from f2) rfl)).trans (uRowNe f24 302 (iS (show n5 = ((293 : Nat) : Int) from f14) rfl))
  have e40 : hV H3 303 = hV H1 303 := (uRowNe f31 303 (iS (show n1 = ((285 : Nat) : Int) from f2) rfl)).trans (uRowNe f24 303 (iS (show n5 = ((293 : Nat) : Int) from f14) rfl))
  have e43 : hV H3 305 = hV H1 305 := (uRowNe f31 305 (iS (show n1 = ((285 : Nat) : Int) from f2) rfl)).trans (uRowNe f24 305 (iS (show n5 = ((293 : Nat) : Int) from f14) rfl))
  have e47 : hV H3 328 = hV H0 328 := (uRowNe f31 328 (iS (show n1 = ((285 : Nat) : Int) from f2) rfl)).trans ((uRowNe f24 328 (iS (show n5 = ((293 : Nat) : Int) from f14) rfl)).trans e9)
  have e51 : hV H3 330 = hV H0 330 := (uRowNe f31 330 (iS (show n1 = ((285 : Nat) : Int) from f2) rfl)).trans ((uRowNe f24 330 (iS (show n5 = ((293 : Nat) : Int) from f14) rfl)).trans e10)
  have e55 : hV H3 331 = hV H0 331 := (uRowNe f31 331 (iS (show n1 = ((285 : Nat) : Int) from f2) rfl)).trans ((uRowNe f24 331 (iS (show n5 = ((293 : Nat) : Int) from f14) rfl)).trans e11)
  have e59 : hV H3 332 = hV H0 332 := (uRowNe f31 332 (iS (show n1 = ((285 : Nat) : Int) from f2) rfl)).trans ((uRowNe f24 332 (iS (show n5 = ((293 : Nat) : Int) from f14) rfl)).trans e12)
  have e63 : hV H3 335 = hV H0 335 := (uRowNe f31 335 (iS (show n1 = ((285 : Nat) : Int) from f2) rfl)).trans ((uRowNe f24 335 (iS (show n5 = ((293 : Nat) : Int) from f14) rfl)).trans e13)
  have e67 : hV H3 336 = hV H0 336 := (uRowNe f31 336 (iS (show n1 = ((285 : Nat) : Int) from f2) rfl)).trans ((uRowNe f24 336 (iS (show n5 = ((293 : Nat) : Int) from f14) rfl)).trans e14)
  have e68 : PQ H2 = PQ H1 := PQ_upR f24 (show n5 = ((293 : Nat) : Int) from f14) (by decide)
  have e69 : PQ H3 = PQ H2 := PQ_upF f31 f2 (show n13 = ((18 : Nat) : Int) from f30) (by decide)
  have e70 : PQ H3 = PQ H1 := e69.trans e68
  have e71 : RN H2 = RN H1 := RN_upR f24 (show n5 = ((293 : Nat) : Int) from f14) (by decide)
  have e72 : RN H3 = RN H2 := RN_upF f31 f2 (show n13 = ((18 : Nat) : Int) from f30) (by decide)
  have e73 : RN H3 = RN H1 := e72.trans e71
  have e74 : RV H2 = RV H1 := RV_upR f24 (show n5 = ((293 : Nat) : Int) from f14) (by decide)
  have e75 : RV H3 = RV H2 := RV_upF f31 f2 (show n13 = ((18 : Nat) : Int) from f30) (by decide)
  have e76 : RV H3 = RV H1 := e75.trans e74
  have e77 : (0 : Int) ≤ hV H1 285 13 ∧ hV H1 285 13 ≤ 2 := f4.1.2.2 285 13 _ _ kW_285_13
  have e78 : (0 : Int) ≤ hV H1 285 15 ∧ hV H1 285 15 ≤ 6 := f4.1.2.2 285 15 _ _ kW_285_15
  have e79 : (0 : Int) ≤ hV H1 285 18 ∧ hV H1 285 18 ≤ 8 := f4.1.2.2 285 18 _ _ kW_285_18
  have e80 : (0 : Int) ≤ hV H1 285 32 ∧ hV H1 285 32 ≤ 7 := f4.1.2.2 285 32 _ _ kW_285_32
  have e81 : (0 : Int) ≤ hV H1 285 34 ∧ hV H1 285 34 ≤ 1 := f4.1.2.2 285 34 _ _ kW_285_34
  have e82 : (0 : Int) ≤ hV H1 285 35 ∧ hV H1 285 35 ≤ 1 := f4.1.2.2 285 35 _ _ kW_285_35
  have e83 : (0 : Int) ≤ hV H0 285 64 ∧ hV H0 285 64 ≤ 20 := bTo e8 (f4.1.2.2 285 64 _ _ kW_285_64)
  try simp only [PG, AC, SO]
  try simp only [e16, e19, e22, e25, e28, e31, e34, e37, e40, e43, e47, e51, e55, e59, e63, e67, e70, e73, e76]
  have y0 := g4.1
  have y1 := g4.2.1
  have y2 := g4.2.2.1
  have y3 := g4.2.2.2.1
  have y4 := g4.2.2.2.2.1
  have y5 := g4.2.2.2.2.2.1
  have y6 := g4.2.2.2.2.2.2.1
  have y7 := g4.2.2.2.2.2.2.2.1
  have y8 := g4.2.2.2.2.2.2.2.2.1
  have y9 := g4.2.2.2.2.2.2.2.2.2.1
  have y10 := g4.2.2.2.2.2.2.2.2.2.2
  have p0 := g3.1
  have p1 := g3.2.1
  have p2 := g3.2.2.1
  have p3 := g3.2.2.2.1
  have p4 := g3.2.2.2.2.1
  have p5 := g3.2.2.2.2.2
  try simp only [PG] at y0
  try simp only [AC] at y1
  try simp only [SO] at y4
  try simp only [PG] at p0
  try simp only [AC] at p1
  try simp only [SO] at p4
  try simp only [e8, e9, e12, e13] at y1
  try simp only [e8, e9, e10, e11, e12, e13, e14] at y4
  clear g3
  clear g4
  clear f7 f11 f15 f18 f21 f27 e8 e9 e10 e11 e12 e13 e14 e19 e22 e25 e28 e31 e34 e37 e40 e43 e47 e51 e55 e59 e63 e67 e68 e69 e70 e71 e72 e73 e74 e75 e76
  clear f4
  subst e0
  subst e1
  subst e2
  subst e4
  subst e6
  first
  | (have ix0 : n9 = hV H0 285 60 - 1 := Eq.trans f23 (w32_iv (Isu (Iat f20 f19) (IC 1)) (by decide)); subst ix0; clear f23)
  | (have ix0 : n9 = hV H0 285 60 - 1 := Eq.trans f23 (w32_id (by omega) (by omega)); subst ix0; clear f23)
  | (unfold w32 at f23; have ix0 : n9 = hV H0 285 60 - 1 := (by omega); subst ix0)
  | skip
  first
  | (have ix1 : n12 = hV H1 285 18 + 1 := Eq.trans f29 (w32_iv (Iad (Iat f17 f16) (IC 1)) (by decide)); subst ix1; clear f29)
  | (have ix1 : n12 = hV H1 285 18 + 1 := Eq.trans f29 (w32_id (by omega) (by omega)); subst ix1; clear f29)
  | (unfold w32 at f29; have ix1 : n12 = hV H1 285 18 + 1 := (by omega); subst ix1)
  | skip
  try unfold w32 at f23
  try unfold w32 at f29

  have pg := y9 (by omega) (by omega) (by omega)
  rw [y6] at pg
  have pa := PA_more (sh' := hV H1 285 18 + 1) ⟨y0, y1⟩ (by omega) rfl pg
  exact ⟨pa.1, pa.2, y2, y3, SOp_more y4 (by omega), y5⟩
def g_221_170_4 : vG := ([(0, [14], [], 0), (80, [1, 13, 12], [3, 2], 0), (0, [13], [], 18), (1, [12, 10, 11], [], 0), (0, [11], [], 1), (20, [10, 1], [2], 18), (90, [10], [], 0), (91, [10], [], 8), (80, [5, 6, 9], [2, 1], 0), (2, [9, 7, 8], [], 0), (0, [8], [], 1), (20, [7, 1], [1], 60), (90, [7], [], 1), (91, [7], [], 6), (20, [6, 1], [1], 18), (90, [6], [], 0), (91, [6], [], 8), (20, [5, 1], [1], 19), (0, [5], [], 293), (30, [2], [], 0), (35, [4], [], 0), (20, [4, 1], [1], 15), (90, [4], [], 0), (91, [4], [], 6), (35, [3], [], 0), (20, [3, 1], [1], 13), (90, [3], [], 0), (91, [3], [], 2), (5000, [0, 1, 2], [0, 1], 170), (0, [0], [], 285), (0, [1], [], 285), (90, [2], [], 0), (91, [2], [], 1)], (3000, [14], [3], 235))
theorem c_221_170_4 {q0 : Nat} : vOkm T0 (eP e_221 L_221 A_221 mu_221 (some q0)) 1 g_221_170_4 := vOk_inI fun ρ η f0 f1 f2 f3 f4 f5 f6 f7 f8 f9 f10 f11 f12 f13 f14 f15 f16 f17 f18 f19 f20 f21 f22 f23 f24 f25 f26 f27 f28 f29 f30 f31 f32 => q_221_26 (q0 := q0) (n0 := ρ 2) (n1 := ρ 1) (n2 := ρ 0) (n3 := ρ 3) (n4 := ρ 4) (n5 := ρ 5) (n6 := ρ 6) (n7 := ρ 7) (n8 := ρ 8) (n9 := ρ 9) (n10 := ρ 10) (n11 := ρ 11) (n12 := ρ 12) (n13 := ρ 13) (n14 := ρ 14) (H0 := η 0) (H1 := η 1) (H2 := η 2) (H3 := η 3) f32 f31 f30 f29 f28 f27 f26 f25 f24 f23 f22 f21 f20 f19 f18 f17 f16 f15 f14 f13 f12 f11 f10 f9 f8 f7 f6 f5 f4 f3 f2 f1 f0
theorem q_221_27 {q0 : Nat} {n0 n1 n2 n3 n4 n5 n6 n7 : Int} {H0 H1 H2 : gH} (f0 : n0 ≤ 1) (f1 : 0 ≤ n0) (f2 : n1 = 285) (f3 : n2 = 285) (f4 : (hLe T0 H0 H1 ∧ hFr s_221.2.2.2.2 H0 H1 ∧ hWt T0 H1) ∧ (Ab_221_170 n2 n1 n0 H0 H1 ∧ preb_221 n2 H0) ∧ some q0 = some (mub_221_170 n2 n1 n0 H0 H1)) (f5 : n3 ≤ 2) (f6 : 0 ≤ n3) (f7 : n3 = hV H1 (n1).toNat 13) (f8 : n3 ≤ 0) (f9 : n4 ≤ 6) (f10 : 0 ≤ n4) (f11 : n4 = hV H1 (n1).toNat 15) (f12 : n4 ≤ 0) (f13 : n0 ≠ 0) (f14 : n5 ≤ 1) (f15 : 0 ≤ n5) (f16 : n5 = hV H1 (n1).toNat 35) (f17 : n6 = 34) (f18 : hUpd H2 H1 n1 n6 n5) (f19 : n7 = 0) : postb_221 n7 n2 H0 H2 := by
  have g4 := f4.2.1.1
  unfold Ab_221_170 at g4
  have g3 := f4.2.1.2
  unfold preb_221 at g3
  unfold postb_221
  have e0 : n3 = hV H1 285 13 := (by rw [f2] at f7; exact f7 : n3 = hV H1 285 13)
  have e1 : n4 = hV H1 285 15 := (by rw [f2] at f11; exact f11 : n4 = hV H1 285 15)
  have e2 : n5 = hV H1 285 35 := (by rw [f2] at f16; exact f16 : n5 = hV H1 285 35)
  have e4 : hV H2 285 34 = n5 := (uSame f18 285 34 f2.symm f17.symm)
  have e5 : hV H2 306 = hV H1 306 := uRowNe f18 306 (iS (show n1 = ((285 : Nat) : Int) from f2) rfl)
  have e6 : hV H2 307 = hV H1 307 := uRowNe f18 307 (iS (show n1 = ((285 : Nat) : Int) from f2) rfl)
  have e7 : hV H2 308 = hV H1 308 := uRowNe f18 308 (iS (show n1 = ((285 : Nat) : Int) from f2) rfl)
  have e8 : hV H2 309 = hV H1 309 := uRowNe f18 309 (iS (show n1 = ((285 : Nat) : Int) from f2) rfl)
  have e9 : hV H2 310 = hV H1 310 := uRowNe f18 310 (iS (show n1 = ((285 : Nat) : Int) from f2) rfl)
  have e10 : hV H2 311 = hV H1 311 := uRowNe f18 311 (iS (show n1 = ((285 : Nat) : Int) from f2) rfl)
  have e11 : hV H2 317 = hV H1 317 := uRowNe f18 317 (iS (show n1 = ((285 : Nat) : Int) from f2) rfl)
  have e12 : hV H2 318 = hV H1 318 := uRowNe f18 318 (iS (show n1 = ((285 : Nat) : Int) from f2) rfl)
  have e13 : hV H2 319 = hV H1 319 := uRowNe f18 319 (iS (show n1 = ((285 : Nat) : Int) from f2) rfl)
  have e14 : hV H2 320 = hV H1 320 := uRowNe f18 320 (iS (show n1 = ((285 : Nat) : Int) from f2) rfl)
  have e15 : hV H2 321 = hV H1 321 := uRowNe f18 321 (iS (show n1 = ((285 : Nat) : Int) from f2) rfl)
  have e16 : AC H2 = AC H1 := AC_upF f18 f2 (show n6 = ((34 : Nat) : Int) from f17) (by decide)
  have e17 : PG H2 = PG H1 := PG_upF f18 f2 (show n6 = ((34 : Nat) : Int) from f17) (by decide)
  have e18 : PQ H2 = PQ H1 := PQ_upF f18 f2 (show n6 = ((34 : Nat) : Int) from f17) (by decide)
  have e19 : RN H2 = RN H1 := RN_upF f18 f2 (show n6 = ((34 : Nat) : Int) from f17) (by decide)
  have e20 : SO H2 = SO H1 := SO_upF f18 f2 (show n6 = ((34 : Nat) : Int) from f17) (by decide)
  have e21 : (0 : Int) ≤ hV H1 285 13 ∧ hV H1 285 13 ≤ 2 := f4.1.2.2 285 13 _ _ kW_285_13
  have e22 : (0 : Int) ≤ hV H1 285 15 ∧ hV H1 285 15 ≤ 6 := f4.1.2.2 285 15 _ _ kW_285_15
  have e23 : (0 : Int) ≤ hV H1 285 18 ∧ hV H1 285 18 ≤ 8 := f4.1.2.2 285 18 _ _ kW_285_18
  have e24 : (0 : Int) ≤ hV H1 285 32 ∧ hV H1 285 32 ≤ 7 := f4.1.2.2 285 32 _ _ kW_285_32
  have e25 : (0 : Int) ≤ hV H1 285 34 ∧ hV H1 285 34 ≤ 1 := f4.1.2.2 285 34 _ _ kW_285_34
  have e26 : (0 : Int) ≤ hV H1 285 35 ∧ hV H1 285 35 ≤ 1 := f4.1.2.2 285 35 _ _ kW_285_35
  try simp only [RV]
  try simp only [e4, e5, e6, e7, e8, e9, e10, e11, e12, e13, e14, e15, e16, e17, e18, e19, e20]
  have y0 := g4.1
  have y1 := g4.2.1
  have y2 := g4.2.2.1
  have y3 := g4.2.2.2.1
  have y4 := g4.2.2.2.2.1
  have y5 := g4.2.2.2.2.2.1
  have y6 := g4.2.2.2.2.2.2.1
  have y7 := g4.2.2.2.2.2.2.2.1
  have y8 := g4.2.2.2.2.2.2.2.2.1
  have y9 := g4.2.2.2.2.2.2.2.2.2.1
  have y10 := g4.2.2.2.2.2.2.2.2.2.2
  have p0 := g3.1
  have p1 := g3.2.1
  have p2 := g3.2.2.1
  have p3 := g3.2.2.2.1
  have p4 := g3.2.2.2.2.1
  have p5 := g3.2.2.2.2.2
  try simp only [RV] at y3
  try simp only [RV] at p3
  clear g3
  clear g4
  clear f7 f11 f16 e5 e6 e7 e8 e9 e10 e11 e12 e13 e14 e15 e16 e17 e18 e19 e20
  clear f4
  subst e0
  subst e1
  subst e2

  first
  | exact ⟨y0, y1, y2, y3, y4, y5⟩
  | (refine ⟨y0, y1, y2, ?_, y4, y5⟩
     exact RGs_at (y10 (by omega) (by omega)) (by omega))
def g_221_170_5 : vG := ([(0, [7], [], 0), (80, [1, 6, 5], [2, 1], 0), (0, [6], [], 34), (20, [5, 1], [1], 35), (90, [5], [], 0), (91, [5], [], 1), (31, [2], [], 0), (35, [4], [], 0), (20, [4, 1], [1], 15), (90, [4], [], 0), (91, [4], [], 6), (35, [3], [], 0), (20, [3, 1], [1], 13), (90, [3], [], 0), (91, [3], [], 2), (5000, [0, 1, 2], [0, 1], 170), (0, [0], [], 285), (0, [1], [], 285), (90, [2], [], 0), (91, [2], [], 1)], (3000, [7], [2], 235))
theorem c_221_170_5 {q0 : Nat} : vOkm T0 (eP e_221 L_221 A_221 mu_221 (some q0)) 1 g_221_170_5 := vOk_inI fun ρ η f0 f1 f2 f3 f4 f5 f6 f7 f8 f9 f10 f11 f12 f13 f14 f15 f16 f17 f18 f19 => q_221_27 (q0 := q0) (n0 := ρ 2) (n1 := ρ 1) (n2 := ρ 0) (n3 := ρ 3) (n4 := ρ 4) (n5 := ρ 5) (n6 := ρ 6) (n7 := ρ 7) (H0 := η 0) (H1 := η 1) (H2 := η 2) f19 f18 f17 f16 f15 f14 f13 f12 f11 f10 f9 f8 f7 f6 f5 f4 f3 f2 f1 f0
theorem q_221_28 {q0 : Nat} {n0 n1 n2 n3 n4 n5 : Int} {H0 H1 : gH} (f0 : n0 ≤ 1) (f1 : 0 ≤ n0) (f2 : n1 = 285) (f3 : n2 = 285) (f4 : (hLe T0 H0 H1 ∧ hFr s_221.2.2.2.2 H0 H1 ∧ hWt T0 H1) ∧ (Ab_221_170 n2 n1 n0 H0 H1 ∧ preb_221 n2 H0) ∧ some q0 = some (mub_221_170 n2 n1 n0 H0 H1)) (f5 : n3 ≤ 2) (f6 : 0 ≤ n3) (f7 : n3 = hV H1 (n1).toNat 13) (f8 : n3 ≤ 0) (f9 : n4 ≤ 6) (f10 : 0 ≤ n4) (f11 : n4 = hV H1 (n1).toNat 15) (f12 : 0 < n4) (f13 : n5 ≤ 6) (f14 : 0 ≤ n5) (f15 : n5 = hV H1 (n1).toNat 15) : postb_221 n5 n2 H0 H1 := by
  have g4 := f4.2.1.1
  unfold Ab_221_170 at g4
  have g3 := f4.2.1.2
  unfold preb_221 at g3
  unfold postb_221
  have e0 : n3 = hV H1 285 13 := (by rw [f2] at f7; exact f7 : n3 = hV H1 285 13)
  have e1 : n4 = hV H1 285 15 := (by rw [f2] at f11; exact f11 : n4 = hV H1 285 15)
  have e2 : n5 = hV H1 285 15 := (by rw [f2] at f15; exact f15 : n5 = hV H1 285 15)
  have e3 : (0 : Int) ≤ hV H1 285 13 ∧ hV H1 285 13 ≤ 2 := f4.1.2.2 285 13 _ _ kW_285_13
  have e4 : (0 : Int) ≤ hV H1 285 15 ∧ hV H1 285 15 ≤ 6 := f4.1.2.2 285 15 _ _ kW_285_15
  have e5 : (0 : Int) ≤ hV H1 285 18 ∧ hV H1 285 18 ≤ 8 := f4.1.2.2 285 18 _ _ kW_285_18
  have e6 : (0 : Int) ≤ hV H1 285 32 ∧ hV H1 285 32 ≤ 7 := f4.1.2.2 285 32 _ _ kW_285_32
  have e7 : (0 : Int) ≤ hV H1 285 34 ∧ hV H1 285 34 ≤ 1 := f4.1.2.2 285 34 _ _ kW_285_34
  have e8 : (0 : Int) ≤ hV H1 285 35 ∧ hV H1 285 35 ≤ 1 := f4.1.2.2 285 35 _ _ kW_285_35
  have y0 := g4.1
  have y1 := g4.2.1
  have y2 := g4.2.2.1
  have y3 := g4.2.2.2.1
  have y4 := g4.2.2.2.2.1
  have y5 := g4.2.2.2.2.2.1
  have y6 := g4.2.2.2.2.2.2.1
  have y7 := g4.2.2.2.2.2.2.2.1
  have y8 := g4.2.2.2.2.2.2.2.2.1
  have y9 := g4.2.2.2.2.2.2.2.2.2.1
  have y10 := g4.2.2.2.2.2.2.2.2.2.2
  have p0 := g3.1
  have p1 := g3.2.1
  have p2 := g3.2.2.1
  have p3 := g3.2.2.2.1
  have p4 := g3.2.2.2.2.1
  have p5 := g3.2.2.2.2.2
  clear g3
  clear g4
  clear f7 f11 f15
  clear f4
  subst e0
  subst e1
  subst e2

  exact ⟨y0, y1, y2, y3, y4, y5⟩
def g_221_170_6 : vG := ([(20, [5, 1], [1], 15), (90, [5], [], 0), (91, [5], [], 6), (34, [4], [], 0), (20, [4, 1], [1], 15), (90, [4], [], 0), (91, [4], [], 6), (35, [3], [], 0), (20, [3, 1], [1], 13), (90, [3], [], 0), (91, [3], [], 2), (5000, [0, 1, 2], [0, 1], 170), (0, [0], [], 285), (0, [1], [], 285), (90, [2], [], 0), (91, [2], [], 1)], (3000, [5], [1], 193))
theorem c_221_170_6 {q0 : Nat} : vOkm T0 (eP e_221 L_221 A_221 mu_221 (some q0)) 1 g_221_170_6 := vOk_inI fun ρ η f0 f1 f2 f3 f4 f5 f6 f7 f8 f9 f10 f11 f12 f13 f14 f15 => q_221_28 (q0 := q0) (n0 := ρ 2) (n1 := ρ 1) (n2 := ρ 0) (n3 := ρ 3) (n4 := ρ 4) (n5 := ρ 5) (H0 := η 0) (H1 := η 1) f15 f14 f13 f12 f11 f10 f9 f8 f7 f6 f5 f4 f3 f2 f1 f0
theorem q_221_29 {q0 : Nat} {n0 n1 n2 n3 n4 : Int} {H0 H1 : gH} (f0 : n0 ≤ 1) (f1 : 0 ≤ n0) (f2 : n1 = 285) (f3 : n2 = 285) (f4 : (hLe T0 H0 H1 ∧ hFr s_221.2.2.2.2 H0 H1 ∧ hWt T0 H1) ∧ (Ab_221_170 n2 n1 n0 H0 H1 ∧ preb_221 n2 H0) ∧ some q0 = some (mub_221_170 n2 n1 n0 H0 H1)) (f5 : n3 ≤ 2) (f6 : 0 ≤ n3) (f7 : n3 = hV H1 (n1).toNat 13) (f8 : 0 < n3) (f9 : n4 ≤ 2) (f10 : 0 ≤ n4) (f11 : n4 = hV H1 (n1).toNat 13) : postb_221 n4 n2 H0 H1 := by
  have g4 := f4.2.1.1
  unfold Ab_221_170 at g4
  have g3 := f4.2.1.2
  unfold preb_221 at g3
  unfold postb_221
  have e0 : n3 = hV H1 285 13 := (by rw [f2] at f7; exact f7 : n3 = hV H1 285 13)
  have e1 : n4 = hV H1 285 13 := (by rw [f2] at f11; exact f11 : n4 = hV H1 285 13)
  have e2 : (0 : Int) ≤ hV H1 285 13 ∧ hV H1 285 13 ≤ 2 := f4.1.2.2 285 13 _ _ kW_285_13
  have e3 : (0 : Int) ≤ hV H1 285 15 ∧ hV H1 285 15 ≤ 6 := f4.1.2.2 285 15 _ _ kW_285_15
  have e4 : (0 : Int) ≤ hV H1 285 18 ∧ hV H1 285 18 ≤ 8 := f4.1.2.2 285 18 _ _ kW_285_18
  have e5 : (0 : Int) ≤ hV H1 285 32 ∧ hV H1 285 32 ≤ 7 := f4.1.2.2 285 32 _ _ kW_285_32
  have e6 : (0 : Int) ≤ hV H1 285 34 ∧ hV H1 285 34 ≤ 1 := f4.1.2.2 285 34 _ _ kW_285_34
  have e7 : (0 : Int) ≤ hV H1 285 35 ∧ hV H1 285 35 ≤ 1 := f4.1.2.2 285 35 _ _ kW_285_35
  have y0 := g4.1
  have y1 := g4.2.1
  have y2 := g4.2.2.1
  have y3 := g4.2.2.2.1
  have y4 := g4.2.2.2.2.1
  have y5 := g4.2.2.2.2.2.1
  have y6 := g4.2.2.2.2.2.2.1
  have y7 := g4.2.2.2.2.2.2.2.1
  have y8 := g4.2.2.2.2.2.2.2.2.1
  have y9 := g4.2.2.2.2.2.2.2.2.2.1
  have y10 := g4.2.2.2.2.2.2.2.2.2.2
  have p0 := g3.1
  have p1 := g3.2.1
  have p2 := g3.2.2.1
  have p3 := g3.2.2.2.1
  have p4 := g3.2.2.2.2.1
  have p5 := g3.2.2.2.2.2
  clear g3
  clear g4
  clear f7 f11
  clear f4
  subst e0
  subst e1

  exact ⟨y0, y1, y2, y3, y4, y5⟩
def g_221_170_7 : vG := ([(20, [4, 1], [1], 13), (90, [4], [], 0), (91, [4], [], 2), (34, [3], [], 0), (20, [3, 1], [1], 13), (90, [3], [], 0), (91, [3], [], 2), (5000, [0, 1, 2], [0, 1], 170), (0, [0], [], 285), (0, [1], [], 285), (90, [2], [], 0), (91, [2], [], 1)], (3000, [4], [1], 181))
theorem c_221_170_7 {q0 : Nat} : vOkm T0 (eP e_221 L_221 A_221 mu_221 (some q0)) 1 g_221_170_7 := vOk_inI fun ρ η f0 f1 f2 f3 f4 f5 f6 f7 f8 f9 f10 f11 => q_221_29 (q0 := q0) (n0 := ρ 2) (n1 := ρ 1) (n2 := ρ 0) (n3 := ρ 3) (n4 := ρ 4) (H0 := η 0) (H1 := η 1) f11 f10 f9 f8 f7 f6 f5 f4 f3 f2 f1 f0
def p_221_170 : List vG := [g_221_170_0,
  g_221_170_1,
  g_221_170_2,
  g_221_170_3,
  g_221_170_4,
  g_221_170_5,
  g_221_170_6,
  g_221_170_7]
theorem r_221_170 : vCovO false (eRc e_221 L_221 cs_221 2000 (170, [(0, (3, 12, 285, 0)), (1, (0, 0, 1, 0))])) p_221_170 = true := by decide +kernel
theorem m_221 (d : Nat) : eC e_221 (d + 11) := eC_ok (e := e_221) (L := L_221) (cs := cs_221) (n := 2000) (d := d + 10) (A := A_221) (μ := mu_221) (tp := false) (p0 := p_221_s) rfl ⟨m_214 (d + 7), ⟨m_216 (d + 9), ⟨m_217 (d + 9), ⟨m_224 d, ⟨m_231 (d + 3), trivial⟩⟩⟩⟩⟩ rfl (.inl rfl) (by decide +kernel) (fun z => nomatch z) r_221_s (allC c_221_s_0 (allC c_221_s_1 allN)) (allC (.inl ⟨p_221_22, r_221_22, fun q0 => (allC c_221_22_0 (allC c_221_22_1 (allC c_221_22_2 (allC c_221_22_3 (allC c_221_22_4 (allC c_221_22_5 (allC c_221_22_6 (allC c_221_22_7 (allC c_221_22_8 (allC c_221_22_9 (allC c_221_22_10 (allC c_221_22_11 allN))))))))))))⟩) (allC (.inl ⟨p_221_117, r_221_117, fun q0 => (allC c_221_117_0 (allC c_221_117_1 (allC c_221_117_2 (allC c_221_117_3 (allC c_221_117_4 (allC c_221_117_5 (allC c_221_117_6 (allC c_221_117_7 (allC c_221_117_8 allN)))))))))⟩) (allC (.inl ⟨p_221_170, r_221_170, fun q0 => (allC c_221_170_0 (allC c_221_170_1 (allC c_221_170_2 (allC c_221_170_3 (allC c_221_170_4 (allC c_221_170_5 (allC c_221_170_6 (allC c_221_170_7 allN))))))))⟩) allN)))
