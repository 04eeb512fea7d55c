/-! CONTRACTS of methods (printed by wip/gen/emit.py). -/
/- MixStageModel.tellRule ()V -/
noncomputable def s_232 : vM := ([(3, 12, 285, 0)], (9, 0, 0, 0), 1, 0, [(12, 11), (12, 12), (12, 13), (12, 14), (12, 15), (12, 16), (12, 44), (12, 51), (12, 55), (276, 0), (284, 0), (292, 0), (300, 0), (308, 0), (316, 0), (324, 0), (332, 0), (340, 0), (351, 0), (359, 0), (364, 0), (372, 0), (380, 0), (388, 0), (396, 0), (404, 0)])
def preb_232 (a0 : Int) (h : gH) : Prop := RR h ∧ hV h 285 35 = 1 - hV h 285 34 ∧ 600 * hV h 285 35 ≤ hV h 285 51 ∧ hV h 285 51 ≤ 600 * hV h 285 35 + hV h 285 11 + hV h 285 13 ∧ hV h 285 12 ≤ 7 * hV h 285 13 ∧ 3 * (hV h 285 44 - 200 * hV h 285 35) ≤ hV h 285 11 ∧ 200 * hV h 285 35 ≤ hV h 285 44 ∧ RN h
def pre_232 : List Int → gH → Prop := fun xs h => match xs with
  | [a0] => preb_232 a0 h
  | _ => False
def postb_232 (a0 : Int) (h0 h : gH) : Prop := RR h ∧ hV h0 285 11 ≤ hV h 285 11 ∧ hV h0 285 11 + 1 ≤ hV h 285 11 + hV h 285 13 ∧ hV h0 285 13 ≤ hV h 285 13 ∧ hV h 285 12 ≤ 7 * hV h 285 13 ∧ hV h0 285 51 ≤ hV h 285 51 ∧ hV h 285 51 ≤ 600 * hV h 285 35 + hV h 285 11 + hV h 285 13 ∧ 3 * (hV h 285 44 - 200 * hV h 285 35) ≤ hV h 285 11 ∧ 200 * hV h 285 35 ≤ hV h 285 44 ∧ RN h
def post_232 : List Int → gH → gH → Prop := fun xs h0 h => match xs with
  | [a0] => postb_232 a0 h0 h
  | _ => True
noncomputable def e_232 : vE := (232, s_232, pre_232, post_232)
noncomputable def L_232 : List vE := [e_216, e_217, e_219, e_220, e_223, e_233, e_236]
def cs_232 : List vC := [(53, [(0, (3, 12, 285, 0))]), (125, [(0, (3, 12, 285, 0)), (1, (0, 0, 23, 0))]), (202, [(0, (3, 12, 285, 0)), (1, (0, 0, 23, 0)), (2, (0, 0, 1, 0)), (3, (0, 0, 1, 0))]), (255, [(0, (3, 12, 285, 0)), (1, (0, 0, 23, 0))])]
def Ab_232_53 (a0 x0 : Int) (h0 h : gH) : Prop := RR h ∧ hV h 285 11 = hV h0 285 11 ∧ hV h 285 13 = 0 ∧ hV h0 285 13 = 0 ∧ hV h 285 51 = hV h0 285 51 ∧ hV h 285 44 = hV h0 285 44 ∧ hV h 285 12 = hV h0 285 12 ∧ hV h 306 ((hV h 285 35).toNat) ≤ 11 ∧ RN h
def mub_232_53 (a0 x0 : Int) (h0 h : gH) : Nat := 100000
def Ab_232_125 (a0 x0 x1 : Int) (h0 h : gH) : Prop := RR h ∧ hV h0 285 11 ≤ hV h 285 11 ∧ hV h0 285 11 + 1 ≤ hV h 285 11 + hV h 285 13 ∧ hV h0 285 13 ≤ hV h 285 13 ∧ hV h 285 12 ≤ 7 * hV h 285 13 ∧ hV h 285 51 = hV h0 285 51 ∧ hV h 285 44 = hV h0 285 44 ∧ hV h 306 ((hV h 285 35).toNat) ≤ 11 ∧ x1 = 12 * hV h 285 35 + hV h 306 ((hV h 285 35).toNat) ∧ hV h 308 ((x1).toNat) = hV h 285 51 ∧ hV h 309 ((x1).toNat) = hV h 285 51 ∧ hV h 310 ((x1).toNat) = hV h 285 44 ∧ RN h
def mub_232_125 (a0 x0 x1 : Int) (h0 h : gH) : Nat := 90000
def Ab_232_202 (a0 x0 x1 x2 x3 : Int) (h0 h : gH) : Prop := RR h ∧ hV h0 285 11 ≤ hV h 285 11 ∧ hV h0 285 11 + 1 ≤ hV h 285 11 + hV h 285 13 ∧ hV h0 285 13 ≤ hV h 285 13 ∧ hV h 285 12 ≤ 7 * hV h 285 13 ∧ hV h0 285 51 ≤ hV h 285 51 ∧ hV h 285 51 ≤ 600 * hV h 285 35 + hV h 285 11 + hV h 285 13 ∧ 3 * (hV h 285 44 - 200 * hV h 285 35) ≤ hV h 285 11 ∧ 200 * hV h 285 35 ≤ hV h 285 44 ∧ hV h 306 ((hV h 285 35).toNat) ≤ 11 ∧ x1 = 12 * hV h 285 35 + hV h 306 ((hV h 285 35).toNat) ∧ 600 * hV h 285 35 ≤ hV h 308 ((x1).toNat) ∧ hV h 309 ((x1).toNat) ≤ hV h 285 51 ∧ (hV h 285 13 = 0 → CGp (hV h 320) (hV h 321) (hV h 308 ((x1).toNat)) (hV h 309 ((x1).toNat))) ∧ 200 * hV h 285 35 ≤ hV h 310 ((x1).toNat) ∧ RN h
def mub_232_202 (a0 x0 x1 x2 x3 : Int) (h0 h : gH) : Nat := (1002 - 2 * hV h 285 11 - hV h 285 13).toNat * 8 + 7
def Ab_232_255 (a0 x0 x1 : Int) (h0 h : gH) : Prop := RR h ∧ hV h0 285 11 ≤ hV h 285 11 ∧ hV h0 285 11 + 1 ≤ hV h 285 11 + hV h 285 13 ∧ hV h0 285 13 ≤ hV h 285 13 ∧ hV h 285 12 ≤ 7 * hV h 285 13 ∧ hV h0 285 51 ≤ hV h 285 51 ∧ hV h 285 51 ≤ 600 * hV h 285 35 + hV h 285 11 + hV h 285 13 ∧ 3 * (hV h 285 44 - 200 * hV h 285 35) ≤ hV h 285 11 ∧ 200 * hV h 285 35 ≤ hV h 285 44 ∧ hV h 306 ((hV h 285 35).toNat) ≤ 11 ∧ x1 = 12 * hV h 285 35 + hV h 306 ((hV h 285 35).toNat) ∧ 600 * hV h 285 35 ≤ hV h 308 ((x1).toNat) ∧ hV h 309 ((x1).toNat) ≤ hV h 285 51 ∧ (hV h 285 13 = 0 → CGp (hV h 320) (hV h 321) (hV h 308 ((x1).toNat)) (hV h 309 ((x1).toNat))) ∧ 200 * hV h 285 35 ≤ hV h 310 ((x1).toNat) ∧ RN h
def mub_232_255 (a0 x0 x1 : Int) (h0 h : gH) : Nat := 0
def A_232 : Int → List Int → gH → gH → Prop := fun c xs h0 h => match c.toNat with
  | 53 => RR h ∧ hV h 285 11 = hV h0 285 11 ∧ hV h 285 13 = 0 ∧ hV h0 285 13 = 0 ∧ hV h 285 51 = hV h0 285 51 ∧ hV h 285 44 = hV h0 285 44 ∧ hV h 285 12 = hV h0 285 12 ∧ hV h 306 ((hV h 285 35).toNat) ≤ 11 ∧ RN h
  | 125 => (match xs with
    | [a0, x0, x1] => Ab_232_125 a0 x0 x1 h0 h
    | _ => False)
  | 202 => (match xs with
    | [a0, x0, x1, x2, x3] => Ab_232_202 a0 x0 x1 x2 x3 h0 h
    | _ => False)
  | 255 => (match xs with
    | [a0, x0, x1] => Ab_232_255 a0 x0 x1 h0 h
    | _ => False)
  | _ => True
def mu_232 : Int → List Int → gH → gH → Nat := fun c xs h0 h => match c.toNat with
  | 53 => 100000
  | 125 => 90000
  | 202 => (match xs with
    | [a0, x0, x1, x2, x3] => mub_232_202 a0 x0 x1 x2 x3 h0 h
    | _ => 0)
  | 255 => 0
  | _ => 0
set_option maxHeartbeats 20000000 in
theorem q_232_0 {n0 n1 n2 n3 n4 n5 n6 n7 : Int} {H0 H1 : gH} (f0 : n0 = 285) (f1 : hWt T0 H0 ∧ preb_232 n0 H0) (f2 : n1 = 42) (f3 : n2 ≤ 1) (f4 : 0 ≤ n2) (f5 : (hLe T0 H0 H1 ∧ hFr s_216.2.2.2.2 H0 H1 ∧ ((0 : Int) = 0 → H1.length = H0.length) ∧ hWt T0 H1) ∧ postb_216 n2 n0 n1 H0 H1) (f6 : n2 ≠ 0) (f7 : n3 = 306) (f8 : n3 = hV H1 (n0).toNat 36) (f9 : n4 ≤ 1) (f10 : 0 ≤ n4) (f11 : n4 = hV H1 (n0).toNat 35) (f12 : n5 ≤ 12) (f13 : 0 ≤ n5) (f14 : n5 = hV H1 (n3).toNat (n4).toNat) (f15 : n6 = 12) (f16 : n5 ≠ n6) (f17 : n7 ≤ 2) (f18 : 0 ≤ n7) (f19 : n7 = hV H1 (n0).toNat 13) (f20 : n7 ≤ 0) : Ab_232_53 n0 n0 H0 H1 ∧ ∀ q, none = some q → mub_232_53 n0 n0 H0 H1 < q := by
  unfold preb_232 at f1
  unfold postb_216 at f5
  unfold Ab_232_53
  have e1 : n4 = hV H0 285 35 := (by rw [f0] at f11; exact f11 : n4 = hV H1 285 35).trans ((f5.1.2.1.1 285 35 kF_216_285_35))
  have e2 : hV H1 306 = hV H0 306 := fRow f5.1.2.1 306 kR_216_306
  have e3 : n5 = hV H0 306 (n4).toNat := (by rw [f7] at f14; exact f14 : n5 = hV H1 306 (n4).toNat).trans ((congrFun e2 _))
  have e5 : n7 = hV H0 285 13 := (by rw [f0] at f19; exact f19 : n7 = hV H1 285 13).trans ((f5.1.2.1.1 285 13 kF_216_285_13))
  have e7 : hV H1 285 11 = hV H0 285 11 := (f5.1.2.1.1 285 11 kF_216_285_11)
  have e9 : hV H1 285 12 = hV H0 285 12 := (f5.1.2.1.1 285 12 kF_216_285_12)
  have e10 : hV H1 285 13 = hV H0 285 13 := (f5.1.2.1.1 285 13 kF_216_285_13)
  have e11 : hV H1 285 35 = hV H0 285 35 := (f5.1.2.1.1 285 35 kF_216_285_35)
  have e13 : hV H1 285 44 = hV H0 285 44 := (f5.1.2.1.1 285 44 kF_216_285_44)
  have e15 : hV H1 285 51 = hV H0 285 51 := (f5.1.2.1.1 285 51 kF_216_285_51)
  have e16 : hV H1 288 = hV H0 288 := fRow f5.1.2.1 288 kR_216_288
  have e17 : RN H1 = RN H0 := RN_fr f5.1.2.1 (by decide +kernel)
  have e18 : RR H1 = RR H0 := RR_fr f5.1.2.1 (by decide +kernel)
  have e19 : (0 : Int) ≤ hV H0 285 11 ∧ hV H0 285 11 ≤ 500 := f1.1 285 11 _ _ kW_285_11
  have e20 : (0 : Int) ≤ hV H0 285 12 ∧ hV H0 285 12 ≤ 7 := f1.1 285 12 _ _ kW_285_12
  have e21 : (0 : Int) ≤ hV H0 285 13 ∧ hV H0 285 13 ≤ 2 := f1.1 285 13 _ _ kW_285_13
  have e22 : (0 : Int) ≤ hV H0 285 34 ∧ hV H0 285 34 ≤ 1 := f1.1 285 34 _ _ kW_285_34
  have e23 : (0 : Int) ≤ hV H0 285 35 ∧ hV H0 285 35 ≤ 1 := f1.1 285 35 _ _ kW_285_35
  have e24 : (0 : Int) ≤ hV H0 285 44 ∧ hV H0 285 44 ≤ 400 := f1.1 285 44 _ _ kW_285_44
  have e25 : (0 : Int) ≤ hV H0 285 51 ∧ hV H0 285 51 ≤ 1200 := f1.1 285 51 _ _ kW_285_51
  try simp only [e7, e9, e10, e11, e13, e15, e2, e17, e18]
  have p0 := f1.2.1
  have p1 := f1.2.2.1
  have p2 := f1.2.2.2.1
  have p3 := f1.2.2.2.2.1
  have p4 := f1.2.2.2.2.2.1
  have p5 := f1.2.2.2.2.2.2.1
  have p6 := f1.2.2.2.2.2.2.2.1
  have p7 := f1.2.2.2.2.2.2.2.2
  have r0_0 := f5.2.1
  have r0_1 := f5.2.2.resolve_right (fun z => f6 z.1)
  try simp only [e10] at r0_0
  try simp only [e7, e9, e10, e11, e13, e15, e16, e2, e17, e18] at r0_1
  clear f8 f11 f14 f19 e2 e7 e9 e10 e11 e13 e15 e16 e17 e18
  clear f1 f5
  subst e1
  subst e3
  subst e5

  have w_rules := fun x : Nat => p7 x
  refine ⟨⟨?_, ?_, ?_, ?_, ?_, ?_, ?_, ?_, ?_⟩, fun q hq => ?_⟩
  · exact p0
  · first | trivial | omega
  · first | trivial | omega
  · first | trivial | omega
  · first | trivial | omega
  · first | trivial | omega
  · first | trivial | omega
  · first | trivial | omega
  · exact p7
  · exact nomatch hq
def g_232_s_0 : vG := ([(35, [7], [], 0), (20, [7, 0], [1], 13), (90, [7], [], 0), (91, [7], [], 2), (41, [5, 6], [], 0), (0, [6], [], 12), (22, [5, 3, 4], [1], 0), (90, [5], [], 0), (91, [5], [], 12), (20, [4, 0], [1], 35), (90, [4], [], 0), (91, [4], [], 1), (20, [3, 0], [1], 36), (0, [3], [], 306), (31, [2], [], 0), (1216, [2, 0, 1], [0, 1], 0), (90, [2], [], 0), (91, [2], [], 1), (0, [1], [], 42), (6000, [0], [0], 0), (0, [0], [], 285)], (4000, [0], [1], 53))
theorem c_232_s_0 : vOkm T0 (eP e_232 L_232 A_232 mu_232 none) 1 g_232_s_0 := vOk_inI fun ρ η f0 f1 f2 f3 f4 f5 f6 f7 f8 f9 f10 f11 f12 f13 f14 f15 f16 f17 f18 f19 f20 => q_232_0 (n0 := ρ 0) (n1 := ρ 1) (n2 := ρ 2) (n3 := ρ 3) (n4 := ρ 4) (n5 := ρ 5) (n6 := ρ 6) (n7 := ρ 7) (H0 := η 0) (H1 := η 1) f20 f19 f18 f17 f16 f15 f14 f13 f12 f11 f10 f9 f8 f7 f6 f5 f4 f3 f2 f1 f0
set_option maxHeartbeats 20000000 in
theorem q_232_1 {n0 n1 n2 n3 n4 n5 n6 n7 : Int} {H0 H1 : gH} (f0 : n0 = 285) (f1 : hWt T0 H0 ∧ preb_232 n0 H0) (f2 : n1 = 42) (f3 : n2 ≤ 1) (f4 : 0 ≤ n2) (f5 : (hLe T0 H0 H1 ∧ hFr s_216.2.2.2.2 H0 H1 ∧ ((0 : Int) = 0 → H1.length = H0.length) ∧ hWt T0 H1) ∧ postb_216 n2 n0 n1 H0 H1) (f6 : n2 ≠ 0) (f7 : n3 = 306) (f8 : n3 = hV H1 (n0).toNat 36) (f9 : n4 ≤ 1) (f10 : 0 ≤ n4) (f11 : n4 = hV H1 (n0).toNat 35) (f12 : n5 ≤ 12) (f13 : 0 ≤ n5) (f14 : n5 = hV H1 (n3).toNat (n4).toNat) (f15 : n6 = 12) (f16 : n5 ≠ n6) (f17 : n7 ≤ 2) (f18 : 0 ≤ n7) (f19 : n7 = hV H1 (n0).toNat 13) (f20 : 0 < n7) : postb_232 n0 H0 H1 := by
  unfold preb_232 at f1
  unfold postb_216 at f5
  unfold postb_232
  have e1 : n4 = hV H0 285 35 := (by rw [f0] at f11; exact f11 : n4 = hV H1 285 35).trans ((f5.1.2.1.1 285 35 kF_216_285_35))
  have e3 : n5 = hV H0 306 (n4).toNat := (by rw [f7] at f14; exact f14 : n5 = hV H1 306 (n4).toNat).trans ((congrFun (fRow f5.1.2.1 306 kR_216_306) _))
  have e5 : n7 = hV H0 285 13 := (by rw [f0] at f19; exact f19 : n7 = hV H1 285 13).trans ((f5.1.2.1.1 285 13 kF_216_285_13))
  have e7 : hV H1 285 11 = hV H0 285 11 := (f5.1.2.1.1 285 11 kF_216_285_11)
  have e9 : hV H1 285 12 = hV H0 285 12 := (f5.1.2.1.1 285 12 kF_216_285_12)
  have e10 : hV H1 285 13 = hV H0 285 13 := (f5.1.2.1.1 285 13 kF_216_285_13)
  have e11 : hV H1 285 35 = hV H0 285 35 := (f5.1.2.1.1 285 35 kF_216_285_35)
  have e13 : hV H1 285 44 = hV H0 285 44 := (f5.1.2.1.1 285 44 kF_216_285_44)
  have e15 : hV H1 285 51 = hV H0 285 51 := (f5.1.2.1.1 285 51 kF_216_285_51)
  have e16 : hV H1 288 = hV H0 288 := fRow f5.1.2.1 288 kR_216_288
  have e17 : RN H1 = RN H0 := RN_fr f5.1.2.1 (by decide +kernel)
  have e18 : RR H1 = RR H0 := RR_fr f5.1.2.1 (by decide +kernel)
  have e19 : (0 : Int) ≤ hV H0 285 11 ∧ hV H0 285 11 ≤ 500 := f1.1 285 11 _ _ kW_285_11
  have e20 : (0 : Int) ≤ hV H0 285 12 ∧ hV H0 285 12 ≤ 7 := f1.1 285 12 _ _ kW_285_12
  have e21 : (0 : Int) ≤ hV H0 285 13 ∧ hV H0 285 13 ≤ 2 := f1.1 285 13 _ _ kW_285_13
  have e22 : (0 : Int) ≤ hV H0 285 34 ∧ hV H0 285 34 ≤ 1 := f1.1 285 34 _ _ kW_285_34
  have e23 : (0 : Int) ≤ hV H0 285 35 ∧ hV H0 285 35 ≤ 1 := f1.1 285 35 _ _ kW_285_35
  have e24 : (0 : Int) ≤ hV H0 285 44 ∧ hV H0 285 44 ≤ 400 := f1.1 285 44 _ _ kW_285_44
  have e25 : (0 : Int) ≤ hV H0 285 51 ∧ hV H0 285 51 ≤ 1200 := f1.1 285 51 _ _ kW_285_51
  try simp only [e7, e9, e10, e11, e13, e15, e17, e18]
  have p0 := f1.2.1
  have p1 := f1.2.2.1
  have p2 := f1.2.2.2.1
  have p3 := f1.2.2.2.2.1
  have p4 := f1.2.2.2.2.2.1
  have p5 := f1.2.2.2.2.2.2.1
  have p6 := f1.2.2.2.2.2.2.2.1
  have p7 := f1.2.2.2.2.2.2.2.2
  have r0_0 := f5.2.1
  have r0_1 := f5.2.2.resolve_right (fun z => f6 z.1)
  try simp only [e10] at r0_0
  try simp only [e7, e9, e10, e11, e13, e15, e16, e17, e18] at r0_1
  clear f8 f11 f14 f19 e7 e9 e10 e11 e13 e15 e16 e17 e18
  clear f1 f5
  subst e1
  subst e3
  subst e5

  have w_rules := fun x : Nat => p7 x
  refine ⟨p0, ?_, ?_, ?_, ?_, ?_, ?_, ?_, ?_, p7⟩ <;> first | trivial | omega
def g_232_s_1 : vG := ([(34, [7], [], 0), (20, [7, 0], [1], 13), (90, [7], [], 0), (91, [7], [], 2), (41, [5, 6], [], 0), (0, [6], [], 12), (22, [5, 3, 4], [1], 0), (90, [5], [], 0), (91, [5], [], 12), (20, [4, 0], [1], 35), (90, [4], [], 0), (91, [4], [], 1), (20, [3, 0], [1], 36), (0, [3], [], 306), (31, [2], [], 0), (1216, [2, 0, 1], [0, 1], 0), (90, [2], [], 0), (91, [2], [], 1), (0, [1], [], 42), (6000, [0], [0], 0), (0, [0], [], 285)], (3000, [], [1], 52))
theorem c_232_s_1 : vOkm T0 (eP e_232 L_232 A_232 mu_232 none) 1 g_232_s_1 := vOk_inI fun ρ η f0 f1 f2 f3 f4 f5 f6 f7 f8 f9 f10 f11 f12 f13 f14 f15 f16 f17 f18 f19 f20 => q_232_1 (n0 := ρ 0) (n1 := ρ 1) (n2 := ρ 2) (n3 := ρ 3) (n4 := ρ 4) (n5 := ρ 5) (n6 := ρ 6) (n7 := ρ 7) (H0 := η 0) (H1 := η 1) f20 f19 f18 f17 f16 f15 f14 f13 f12 f11 f10 f9 f8 f7 f6 f5 f4 f3 f2 f1 f0
set_option maxHeartbeats 20000000 in
theorem kR_217_306 : vFreeR s_217.2.2.2.2 306 = true := by decide +kernel
theorem q_232_2 {n0 n1 n2 n3 n4 n5 n6 n7 n8 : Int} {H0 H1 H2 : gH} (f0 : n0 = 285) (f1 : hWt T0 H0 ∧ preb_232 n0 H0) (f2 : n1 = 42) (f3 : n2 ≤ 1) (f4 : 0 ≤ n2) (f5 : (hLe T0 H0 H1 ∧ hFr s_216.2.2.2.2 H0 H1 ∧ ((0 : Int) = 0 → H1.length = H0.length) ∧ hWt T0 H1) ∧ postb_216 n2 n0 n1 H0 H1) (f6 : n2 ≠ 0) (f7 : n3 = 306) (f8 : n3 = hV H1 (n0).toNat 36) (f9 : n4 ≤ 1) (f10 : 0 ≤ n4) (f11 : n4 = hV H1 (n0).toNat 35) (f12 : n5 ≤ 12) (f13 : 0 ≤ n5) (f14 : n5 = hV H1 (n3).toNat (n4).toNat) (f15 : n6 = 12) (f16 : n5 = n6) (f17 : n7 = 2) (f18 : (hLe T0 H1 H2 ∧ hFr s_217.2.2.2.2 H1 H2 ∧ ((0 : Int) = 0 → H2.length = H1.length) ∧ hWt T0 H2) ∧ postb_217 n0 n7 H1 H2) (f19 : n8 ≤ 2) (f20 : 0 ≤ n8) (f21 : n8 = hV H2 (n0).toNat 13) (f22 : n8 ≤ 0) : Ab_232_53 n0 n0 H0 H2 ∧ ∀ q, none = some q → mub_232_53 n0 n0 H0 H2 < q := by
  unfold preb_232 at f1
  unfold postb_216 at f5
  unfold postb_217 at f18
  unfold Ab_232_53
  have e1 : n4 = hV H0 285 35 := (by rw [f0] at f11; exact f11 : n4 = hV H1 285 35).trans ((f5.1.2.1.1 285 35 kF_216_285_35))
  have e3 : n5 = hV H0 306 (n4).toNat := (by rw [f7] at f14; exact f14 : n5 = hV H1 306 (n4).toNat).trans ((congrFun (fRow f5.1.2.1 306 kR_216_306) _))
  have e4 : n8 = hV H2 285 13 := (by rw [f0] at f21; exact f21 : n8 = hV H2 285 13)
  have e6 : hV H1 285 11 = hV H0 285 11 := (f5.1.2.1.1 285 11 kF_216_285_11)
  have e8 : hV H1 285 13 = hV H0 285 13 := (f5.1.2.1.1 285 13 kF_216_285_13)
  have e9 : hV H1 288 = hV H0 288 := fRow f5.1.2.1 288 kR_216_288
  have e11 : hV H2 285 11 = hV H0 285 11 := ((f18.1.2.1.1 285 11 kF_217_285_11)).trans (f5.1.2.1.1 285 11 kF_216_285_11)
  have e14 : hV H2 285 12 = hV H0 285 12 := ((f18.1.2.1.1 285 12 kF_217_285_12)).trans (f5.1.2.1.1 285 12 kF_216_285_12)
  have e16 : hV H2 285 35 = hV H0 285 35 := ((f18.1.2.1.1 285 35 kF_217_285_35)).trans (f5.1.2.1.1 285 35 kF_216_285_35)
  have e19 : hV H2 285 44 = hV H0 285 44 := ((f18.1.2.1.1 285 44 kF_217_285_44)).trans (f5.1.2.1.1 285 44 kF_216_285_44)
  have e22 : hV H2 285 51 = hV H0 285 51 := ((f18.1.2.1.1 285 51 kF_217_285_51)).trans (f5.1.2.1.1 285 51 kF_216_285_51)
  have e24 : hV H2 306 = hV H0 306 := (fRow f18.1.2.1 306 kR_217_306).trans (fRow f5.1.2.1 306 kR_216_306)
  have e25 : RN H1 = RN H0 := RN_fr f5.1.2.1 (by decide +kernel)
  have e26 : RN H2 = RN H1 := RN_fr f18.1.2.1 (by decide +kernel)
  have e27 : RN H2 = RN H0 := e26.trans e25
  have e28 : RR H1 = RR H0 := RR_fr f5.1.2.1 (by decide +kernel)
  have e29 : RR H2 = RR H1 := RR_fr f18.1.2.1 (by decide +kernel)
  have e30 : RR H2 = RR H0 := e29.trans e28
  have e31 : (0 : Int) ≤ hV H0 285 11 ∧ hV H0 285 11 ≤ 500 := f1.1 285 11 _ _ kW_285_11
  have e32 : (0 : Int) ≤ hV H0 285 12 ∧ hV H0 285 12 ≤ 7 := f1.1 285 12 _ _ kW_285_12
  have e33 : (0 : Int) ≤ hV H0 285 13 ∧ hV H0 285 13 ≤ 2 := f1.1 285 13 _ _ kW_285_13
  have e34 : (0 : Int) ≤ hV H0 285 34 ∧ hV H0 285 34 ≤ 1 := f1.1 285 34 _ _ kW_285_34
  have e35 : (0 : Int) ≤ hV H0 285 35 ∧ hV H0 285 35 ≤ 1 := f1.1 285 35 _ _ kW_285_35
  have e36 : (0 : Int) ≤ hV H0 285 44 ∧ hV H0 285 44 ≤ 400 := f1.1 285 44 _ _ kW_285_44
  have e37 : (0 : Int) ≤ hV H0 285 51 ∧ hV H0 285 51 ≤ 1200 := f1.1 285 51 _ _ kW_285_51
  have e42 : (0 : Int) ≤ hV H2 285 13 ∧ hV H2 285 13 ≤ 2 := f18.1.2.2.2 285 13 _ _ kW_285_13
  try simp only [e11, e14, e16, e19, e22, e24, e27, e30]
  have p0 := f1.2.1
  have p1 := f1.2.2.1
  have p2 := f1.2.2.2.1
  have p3 := f1.2.2.2.2.1
  have p4 := f1.2.2.2.2.2.1
  have p5 := f1.2.2.2.2.2.2.1
  have p6 := f1.2.2.2.2.2.2.2.1
  have p7 := f1.2.2.2.2.2.2.2.2
  have r0_0 := f5.2.1
  have r0_1 := f5.2.2.resolve_right (fun z => f6 z.1)
  have r1_0 := f18.2.1
  have r1_1 := f18.2.2
  try simp only [e8] at r0_0
  try simp only [e6, e8, e9] at r0_1
  try simp only [e8] at r1_0
  clear f8 f11 f14 f21 e6 e8 e9 e11 e14 e16 e19 e22 e24 e25 e26 e27 e28 e29 e30
  clear f1 f5 f18
  subst e1
  subst e3
  subst e4

  have w_rules := fun x : Nat => p7 x
  refine ⟨⟨?_, ?_, ?_, ?_, ?_, ?_, ?_, ?_, ?_⟩, fun q hq => ?_⟩
  · exact p0
  · first | trivial | omega
  · first | trivial | omega
  · first | trivial | omega
  · first | trivial | omega
  · first | trivial | omega
  · first | trivial | omega
  · first | trivial | omega
  · exact p7
  · exact nomatch hq
def g_232_s_2 : vG := ([(35, [8], [], 0), (20, [8, 0], [2], 13), (90, [8], [], 0), (91, [8], [], 2), (1217, [0, 7], [1, 2], 0), (0, [7], [], 2), (40, [5, 6], [], 0), (0, [6], [], 12), (22, [5, 3, 4], [1], 0), (90, [5], [], 0), (91, [5], [], 12), (20, [4, 0], [1], 35), (90, [4], [], 0), (91, [4], [], 1), (20, [3, 0], [1], 36), (0, [3], [], 306), (31, [2], [], 0), (1216, [2, 0, 1], [0, 1], 0), (90, [2], [], 0), (91, [2], [], 1), (0, [1], [], 42), (6000, [0], [0], 0), (0, [0], [], 285)], (4000, [0], [2], 53))
theorem c_232_s_2 : vOkm T0 (eP e_232 L_232 A_232 mu_232 none) 1 g_232_s_2 := vOk_inI fun ρ η f0 f1 f2 f3 f4 f5 f6 f7 f8 f9 f10 f11 f12 f13 f14 f15 f16 f17 f18 f19 f20 f21 f22 => q_232_2 (n0 := ρ 0) (n1 := ρ 1) (n2 := ρ 2) (n3 := ρ 3) (n4 := ρ 4) (n5 := ρ 5) (n6 := ρ 6) (n7 := ρ 7) (n8 := ρ 8) (H0 := η 0) (H1 := η 1) (H2 := η 2) f22 f21 f20 f19 f18 f17 f16 f15 f14 f13 f12 f11 f10 f9 f8 f7 f6 f5 f4 f3 f2 f1 f0
set_option maxHeartbeats 20000000 in
theorem q_232_3 {n0 n1 n2 n3 n4 n5 n6 n7 n8 : Int} {H0 H1 H2 : gH} (f0 : n0 = 285) (f1 : hWt T0 H0 ∧ preb_232 n0 H0) (f2 : n1 = 42) (f3 : n2 ≤ 1) (f4 : 0 ≤ n2) (f5 : (hLe T0 H0 H1 ∧ hFr s_216.2.2.2.2 H0 H1 ∧ ((0 : Int) = 0 → H1.length = H0.length) ∧ hWt T0 H1) ∧ postb_216 n2 n0 n1 H0 H1) (f6 : n2 ≠ 0) (f7 : n3 = 306) (f8 : n3 = hV H1 (n0).toNat 36) (f9 : n4 ≤ 1) (f10 : 0 ≤ n4) (f11 : n4 = hV H1 (n0).toNat 35) (f12 : n5 ≤ 12) (f13 : 0 ≤ n5) (f14 : n5 = hV H1 (n3).toNat (n4).toNat) (f15 : n6 = 12) (f16 : n5 = n6) (f17 : n7 = 2) (f18 : (hLe T0 H1 H2 ∧ hFr s_217.2.2.2.2 H1 H2 ∧ ((0 : Int) = 0 → H2.length = H1.length) ∧ hWt T0 H2) ∧ postb_217 n0 n7 H1 H2) (f19 : n8 ≤ 2) (f20 : 0 ≤ n8) (f21 : n8 = hV H2 (n0).toNat 13) (f22 : 0 < n8) : postb_232 n0 H0 H2 := by
  unfold preb_232 at f1
  unfold postb_216 at f5
  unfold postb_217 at f18
  unfold postb_232
  have e1 : n4 = hV H0 285 35 := (by rw [f0] at f11; exact f11 : n4 = hV H1 285 35).trans ((f5.1.2.1.1 285 35 kF_216_285_35))
  have e3 : n5 = hV H0 306 (n4).toNat := (by rw [f7] at f14; exact f14 : n5 = hV H1 306 (n4).toNat).trans ((congrFun (fRow f5.1.2.1 306 kR_216_306) _))
  have e4 : n8 = hV H2 285 13 := (by rw [f0] at f21; exact f21 : n8 = hV H2 285 13)
  have e6 : hV H1 285 11 = hV H0 285 11 := (f5.1.2.1.1 285 11 kF_216_285_11)
  have e8 : hV H1 285 13 = hV H0 285 13 := (f5.1.2.1.1 285 13 kF_216_285_13)
  have e9 : hV H1 288 = hV H0 288 := fRow f5.1.2.1 288 kR_216_288
  have e11 : hV H2 285 11 = hV H0 285 11 := ((f18.1.2.1.1 285 11 kF_217_285_11)).trans (f5.1.2.1.1 285 11 kF_216_285_11)
  have e14 : hV H2 285 12 = hV H0 285 12 := ((f18.1.2.1.1 285 12 kF_217_285_12)).trans (f5.1.2.1.1 285 12 kF_216_285_12)
  have e16 : hV H2 285 35 = hV H0 285 35 := ((f18.1.2.1.1 285 35 kF_217_285_35)).trans (f5.1.2.1.1 285 35 kF_216_285_35)
  have e19 : hV H2 285 44 = hV H0 285 44 := ((f18.1.2.1.1 285 44 kF_217_285_44)).trans (f5.1.2.1.1 285 44 kF_216_285_44)
  have e22 : hV H2 285 51 = hV H0 285 51 := ((f18.1.2.1.1 285 51 kF_217_285_51)).trans (f5.1.2.1.1 285 51 kF_216_285_51)
  have e23 : RN H1 = RN H0 := RN_fr f5.1.2.1 (by decide +kernel)
  have e24 : RN H2 = RN H1 := RN_fr f18.1.2.1 (by decide +kernel)
  have e25 : RN H2 = RN H0 := e24.trans e23
  have e26 : RR H1 = RR H0 := RR_fr f5.1.2.1 (by decide +kernel)
  have e27 : RR H2 = RR H1 := RR_fr f18.1.2.1 (by decide +kernel)
  have e28 : RR H2 = RR H0 := e27.trans e26
  have e29 : (0 : Int) ≤ hV H0 285 11 ∧ hV H0 285 11 ≤ 500 := f1.1 285 11 _ _ kW_285_11
  have e30 : (0 : Int) ≤ hV H0 285 12 ∧ hV H0 285 12 ≤ 7 := f1.1 285 12 _ _ kW_285_12
  have e31 : (0 : Int) ≤ hV H0 285 13 ∧ hV H0 285 13 ≤ 2 := f1.1 285 13 _ _ kW_285_13
  have e32 : (0 : Int) ≤ hV H0 285 34 ∧ hV H0 285 34 ≤ 1 := f1.1 285 34 _ _ kW_285_34
  have e33 : (0 : Int) ≤ hV H0 285 35 ∧ hV H0 285 35 ≤ 1 := f1.1 285 35 _ _ kW_285_35
  have e34 : (0 : Int) ≤ hV H0 285 44 ∧ hV H0 285 44 ≤ 400 := f1.1 285 44 _ _ kW_285_44
  have e35 : (0 : Int) ≤ hV H0 285 51 ∧ hV H0 285 51 ≤ 1200 := f1.1 285 51 _ _ kW_285_51
  have e40 : (0 : Int) ≤ hV H2 285 13 ∧ hV H2 285 13 ≤ 2 := f18.1.2.2.2 285 13 _ _ kW_285_13
  try simp only [e11, e14, e16, e19, e22, e25, e28]
  have p0 := f1.2.1
  have p1 := f1.2.2.1
  have p2 := f1.2.2.2.1
  have p3 := f1.2.2.2.2.1
  have p4 := f1.2.2.2.2.2.1
  have p5 := f1.2.2.2.2.2.2.1
  have p6 := f1.2.2.2.2.2.2.2.1
  have p7 := f1.2.2.2.2.2.2.2.2
  have r0_0 := f5.2.1
  have r0_1 := f5.2.2.resolve_right (fun z => f6 z.1)
  have r1_0 := f18.2.1
  have r1_1 := f18.2.2
  try simp only [e8] at r0_0
  try simp only [e6, e8, e9] at r0_1
  try simp only [e8] at r1_0
  clear f8 f11 f14 f21 e6 e8 e9 e11 e14 e16 e19 e22 e23 e24 e25 e26 e27 e28
  clear f1 f5 f18
  subst e1
  subst e3
  subst e4

  have w_rules := fun x : Nat => p7 x
  refine ⟨p0, ?_, ?_, ?_, ?_, ?_, ?_, ?_, ?_, p7⟩ <;> first | trivial | omega
def g_232_s_3 : vG := ([(34, [8], [], 0), (20, [8, 0], [2], 13), (90, [8], [], 0), (91, [8], [], 2), (1217, [0, 7], [1, 2], 0), (0, [7], [], 2), (40, [5, 6], [], 0), (0, [6], [], 12), (22, [5, 3, 4], [1], 0), (90, [5], [], 0), (91, [5], [], 12), (20, [4, 0], [1], 35), (90, [4], [], 0), (91, [4], [], 1), (20, [3, 0], [1], 36), (0, [3], [], 306), (31, [2], [], 0), (1216, [2, 0, 1], [0, 1], 0), (90, [2], [], 0), (91, [2], [], 1), (0, [1], [], 42), (6000, [0], [0], 0), (0, [0], [], 285)], (3000, [], [2], 52))
theorem c_232_s_3 : vOkm T0 (eP e_232 L_232 A_232 mu_232 none) 1 g_232_s_3 := vOk_inI fun ρ η f0 f1 f2 f3 f4 f5 f6 f7 f8 f9 f10 f11 f12 f13 f14 f15 f16 f17 f18 f19 f20 f21 f22 => q_232_3 (n0 := ρ 0) (n1 := ρ 1) (n2 := ρ 2) (n3 := ρ 3) (n4 := ρ 4) (n5 := ρ 5) (n6 := ρ 6) (n7 := ρ 7) (n8 := ρ 8) (H0 := η 0) (H1 := η 1) (H2 := η 2) f22 f21 f20 f19 f18 f17 f16 f15 f14 f13 f12 f11 f10 f9 f8 f7 f6 f5 f4 f3 f2 f1 f0
set_option maxHeartbeats 20000000 in
theorem q_232_4 {n0 n1 n2 n3 n4 n5 n6 n7 n8 n9 : Int} {H0 H1 H2 : gH} (f0 : n0 = 285) (f1 : hWt T0 H0 ∧ preb_232 n0 H0) (f2 : n1 = 42) (f3 : n2 ≤ 1) (f4 : 0 ≤ n2) (f5 : (hLe T0 H0 H1 ∧ hFr s_216.2.2.2.2 H0 H1 ∧ ((0 : Int) = 0 → H1.length = H0.length) ∧ hWt T0 H1) ∧ postb_216 n2 n0 n1 H0 H1) (f6 : n2 = 0) (f7 : n3 = 44) (f8 : n4 ≤ 1) (f9 : 0 ≤ n4) (f10 : (hLe T0 H1 H2 ∧ hFr s_216.2.2.2.2 H1 H2 ∧ ((0 : Int) = 0 → H2.length = H1.length) ∧ hWt T0 H2) ∧ postb_216 n4 n0 n3 H1 H2) (f11 : n4 ≠ 0) (f12 : n5 = 306) (f13 : n5 = hV H2 (n0).toNat 36) (f14 : n6 ≤ 1) (f15 : 0 ≤ n6) (f16 : n6 = hV H2 (n0).toNat 35) (f17 : n7 ≤ 12) (f18 : 0 ≤ n7) (f19 : n7 = hV H2 (n5).toNat (n6).toNat) (f20 : n8 = 12) (f21 : n7 ≠ n8) (f22 : n9 ≤ 2) (f23 : 0 ≤ n9) (f24 : n9 = hV H2 (n0).toNat 13) (f25 : n9 ≤ 0) : Ab_232_53 n0 n0 H0 H2 ∧ ∀ q, none = some q → mub_232_53 n0 n0 H0 H2 < q := by
  unfold preb_232 at f1
  unfold postb_216 at f5
  unfold postb_216 at f10
  unfold Ab_232_53
  have e2 : n6 = hV H0 285 35 := (by rw [f0] at f16; exact f16 : n6 = hV H2 285 35).trans (((f10.1.2.1.1 285 35 kF_216_285_35)).trans (f5.1.2.1.1 285 35 kF_216_285_35))
  have e5 : n7 = hV H0 306 (n6).toNat := (by rw [f12] at f19; exact f19 : n7 = hV H2 306 (n6).toNat).trans (((congrFun (fRow f10.1.2.1 306 kR_216_306) _)).trans ((congrFun (fRow f5.1.2.1 306 kR_216_306) _)))
  have e8 : n9 = hV H0 285 13 := (by rw [f0] at f24; exact f24 : n9 = hV H2 285 13).trans (((f10.1.2.1.1 285 13 kF_216_285_13)).trans (f5.1.2.1.1 285 13 kF_216_285_13))
  have e10 : hV H1 285 11 = hV H0 285 11 := (f5.1.2.1.1 285 11 kF_216_285_11)
  have e11 : hV H1 285 13 = hV H0 285 13 := (f5.1.2.1.1 285 13 kF_216_285_13)
  have e12 : hV H1 288 = hV H0 288 := fRow f5.1.2.1 288 kR_216_288
  have e14 : hV H2 285 11 = hV H0 285 11 := ((f10.1.2.1.1 285 11 kF_216_285_11)).trans (f5.1.2.1.1 285 11 kF_216_285_11)
  have e17 : hV H2 285 12 = hV H0 285 12 := ((f10.1.2.1.1 285 12 kF_216_285_12)).trans (f5.1.2.1.1 285 12 kF_216_285_12)
  have e18 : hV H2 285 13 = hV H0 285 13 := ((f10.1.2.1.1 285 13 kF_216_285_13)).trans (f5.1.2.1.1 285 13 kF_216_285_13)
  have e19 : hV H2 285 35 = hV H0 285 35 := ((f10.1.2.1.1 285 35 kF_216_285_35)).trans (f5.1.2.1.1 285 35 kF_216_285_35)
  have e22 : hV H2 285 44 = hV H0 285 44 := ((f10.1.2.1.1 285 44 kF_216_285_44)).trans (f5.1.2.1.1 285 44 kF_216_285_44)
  have e25 : hV H2 285 51 = hV H0 285 51 := ((f10.1.2.1.1 285 51 kF_216_285_51)).trans (f5.1.2.1.1 285 51 kF_216_285_51)
  have e27 : hV H2 288 = hV H0 288 := (fRow f10.1.2.1 288 kR_216_288).trans e12
  have e28 : hV H2 306 = hV H0 306 := (fRow f10.1.2.1 306 kR_216_306).trans (fRow f5.1.2.1 306 kR_216_306)
  have e29 : RN H1 = RN H0 := RN_fr f5.1.2.1 (by decide +kernel)
  have e30 : RN H2 = RN H1 := RN_fr f10.1.2.1 (by decide +kernel)
  have e31 : RN H2 = RN H0 := e30.trans e29
  have e32 : RR H1 = RR H0 := RR_fr f5.1.2.1 (by decide +kernel)
  have e33 : RR H2 = RR H1 := RR_fr f10.1.2.1 (by decide +kernel)
  have e34 : RR H2 = RR H0 := e33.trans e32
  have e35 : (0 : Int) ≤ hV H0 285 11 ∧ hV H0 285 11 ≤ 500 := f1.1 285 11 _ _ kW_285_11
  have e36 : (0 : Int) ≤ hV H0 285 12 ∧ hV H0 285 12 ≤ 7 := f1.1 285 12 _ _ kW_285_12
  have e37 : (0 : Int) ≤ hV H0 285 13 ∧ hV H0 285 13 ≤ 2 := f1.1 285 13 _ _ kW_285_13
  have e38 : (0 : Int) ≤ hV H0 285 34 ∧ hV H0 285 34 ≤ 1 := f1.1 285 34 _ _ kW_285_34
  have e39 : (0 : Int) ≤ hV H0 285 35 ∧ hV H0 285 35 ≤ 1 := f1.1 285 35 _ _ kW_285_35
  have e40 : (0 : Int) ≤ hV H0 285 44 ∧ hV H0 285 44 ≤ 400 := f1.1 285 44 _ _ kW_285_44
  have e41 : (0 : Int) ≤ hV H0 285 51 ∧ hV H0 285 51 ≤ 1200 := f1.1 285 51 _ _ kW_285_51
  try simp only [e14, e17, e18, e19, e22, e25, e28, e31, e34]
  have p0 := f1.2.1
  have p1 := f1.2.2.1
  have p2 := f1.2.2.2.1
  have p3 := f1.2.2.2.2.1
  have p4 := f1.2.2.2.2.2.1
  have p5 := f1.2.2.2.2.2.2.1
  have p6 := f1.2.2.2.2.2.2.2.1
  have p7 := f1.2.2.2.2.2.2.2.2
  have r0_0 := f5.2.1
  have r1_0 := f10.2.1
  have r1_1 := f10.2.2.resolve_right (fun z => f11 z.1)
  try simp only [e11] at r0_0
  try simp only [e18] at r1_0
  try simp only [e10, e11, e12, e14, e17, e18, e19, e22, e25, e27, e28, e31, e34] at r1_1
  clear f13 f16 f19 f24 e10 e11 e12 e14 e17 e18 e19 e22 e25 e27 e28 e29 e30 e31 e32 e33 e34
  clear f1 f5 f10
  subst e2
  subst e5
  subst e8

  have w_rules := fun x : Nat => p7 x
  refine ⟨⟨?_, ?_, ?_, ?_, ?_, ?_, ?_, ?_, ?_⟩, fun q hq => ?_⟩
  · exact p0
  · first | trivial | omega
  · first | trivial | omega
  · first | trivial | omega
  · first | trivial | omega
  · first | trivial | omega
  · first | trivial | omega
  · first | trivial | omega
  · exact p7
  · exact nomatch hq
def g_232_s_4 : vG := ([(35, [9], [], 0), (20, [9, 0], [2], 13), (90, [9], [], 0), (91, [9], [], 2), (41, [7, 8], [], 0), (0, [8], [], 12), (22, [7, 5, 6], [2], 0), (90, [7], [], 0), (91, [7], [], 12), (20, [6, 0], [2], 35), (90, [6], [], 0), (91, [6], [], 1), (20, [5, 0], [2], 36), (0, [5], [], 306), (31, [4], [], 0), (1216, [4, 0, 3], [1, 2], 0), (90, [4], [], 0), (91, [4], [], 1), (0, [3], [], 44), (30, [2], [], 0), (1216, [2, 0, 1], [0, 1], 0), (90, [2], [], 0), (91, [2], [], 1), (0, [1], [], 42), (6000, [0], [0], 0), (0, [0], [], 285)], (4000, [0], [2], 53))
theorem c_232_s_4 : vOkm T0 (eP e_232 L_232 A_232 mu_232 none) 1 g_232_s_4 := vOk_inI fun ρ η f0 f1 f2 f3 f4 f5 f6 f7 f8 f9 f10 f11 f12 f13 f14 f15 f16 f17 f18 f19 f20 f21 f22 f23 f24 f25 => q_232_4 (n0 := ρ 0) (n1 := ρ 1) (n2 := ρ 2) (n3 := ρ 3) (n4 := ρ 4) (n5 := ρ 5) (n6 := ρ 6) (n7 := ρ 7) (n8 := ρ 8) (n9 := ρ 9) (H0 := η 0) (H1 := η 1) (H2 := η 2) f25 f24 f23 f22 f21 f20 f19 f18 f17 f16 f15 f14 f13 f12 f11 f10 f9 f8 f7 f6 f5 f4 f3 f2 f1 f0
set_option maxHeartbeats 20000000 in
theorem q_232_5 {n0 n1 n2 n3 n4 n5 n6 n7 n8 n9 : Int} {H0 H1 H2 : gH} (f0 : n0 = 285) (f1 : hWt T0 H0 ∧ preb_232 n0 H0) (f2 : n1 = 42) (f3 : n2 ≤ 1) (f4 : 0 ≤ n2) (f5 : (hLe T0 H0 H1 ∧ hFr s_216.2.2.2.2 H0 H1 ∧ ((0 : Int) = 0 → H1.length = H0.length) ∧ hWt T0 H1) ∧ postb_216 n2 n0 n1 H0 H1) (f6 : n2 = 0) (f7 : n3 = 44) (f8 : n4 ≤ 1) (f9 : 0 ≤ n4) (f10 : (hLe T0 H1 H2 ∧ hFr s_216.2.2.2.2 H1 H2 ∧ ((0 : Int) = 0 → H2.length = H1.length) ∧ hWt T0 H2) ∧ postb_216 n4 n0 n3 H1 H2) (f11 : n4 ≠ 0) (f12 : n5 = 306) (f13 : n5 = hV H2 (n0).toNat 36) (f14 : n6 ≤ 1) (f15 : 0 ≤ n6) (f16 : n6 = hV H2 (n0).toNat 35) (f17 : n7 ≤ 12) (f18 : 0 ≤ n7) (f19 : n7 = hV H2 (n5).toNat (n6).toNat) (f20 : n8 = 12) (f21 : n7 ≠ n8) (f22 : n9 ≤ 2) (f23 : 0 ≤ n9) (f24 : n9 = hV H2 (n0).toNat 13) (f25 : 0 < n9) : postb_232 n0 H0 H2 := by
  unfold preb_232 at f1
  unfold postb_216 at f5
  unfold postb_216 at f10
  unfold postb_232
  have e2 : n6 = hV H0 285 35 := (by rw [f0] at f16; exact f16 : n6 = hV H2 285 35).trans (((f10.1.2.1.1 285 35 kF_216_285_35)).trans (f5.1.2.1.1 285 35 kF_216_285_35))
  have e5 : n7 = hV H0 306 (n6).toNat := (by rw [f12] at f19; exact f19 : n7 = hV H2 306 (n6).toNat).trans (((congrFun (fRow f10.1.2.1 306 kR_216_306) _)).trans ((congrFun (fRow f5.1.2.1 306 kR_216_306) _)))
  have e8 : n9 = hV H0 285 13 := (by rw [f0] at f24; exact f24 : n9 = hV H2 285 13).trans (((f10.1.2.1.1 285 13 kF_216_285_13)).trans (f5.1.2.1.1 285 13 kF_216_285_13))
  have e10 : hV H1 285 11 = hV H0 285 11 := (f5.1.2.1.1 285 11 kF_216_285_11)
  have e11 : hV H1 285 13 = hV H0 285 13 := (f5.1.2.1.1 285 13 kF_216_285_13)
  have e12 : hV H1 288 = hV H0 288 := fRow f5.1.2.1 288 kR_216_288
  have e14 : hV H2 285 11 = hV H0 285 11 := ((f10.1.2.1.1 285 11 kF_216_285_11)).trans (f5.1.2.1.1 285 11 kF_216_285_11)
  have e17 : hV H2 285 12 = hV H0 285 12 := ((f10.1.2.1.1 285 12 kF_216_285_12)).trans (f5.1.2.1.1 285 12 kF_216_285_12)
  have e18 : hV H2 285 13 = hV H0 285 13 := ((f10.1.2.1.1 285 13 kF_216_285_13)).trans (f5.1.2.1.1 285 13 kF_216_285_13)
  have e19 : hV H2 285 35 = hV H0 285 35 := ((f10.1.2.1.1 285 35 kF_216_285_35)).trans (f5.1.2.1.1 285 35 kF_216_285_35)
  have e22 : hV H2 285 44 = hV H0 285 44 := ((f10.1.2.1.1 285 44 kF_216_285_44)).trans (f5.1.2.1.1 285 44 kF_216_285_44)
  have e25 : hV H2 285 51 = hV H0 285 51 := ((f10.1.2.1.1 285 51 kF_216_285_51)).trans (f5.1.2.1.1 285 51 kF_216_285_51)
  have e27 : hV H2 288 = hV H0 288 := (fRow f10.1.2.1 288 kR_216_288).trans e12
  have e28 : RN H1 = RN H0 := RN_fr f5.1.2.1 (by decide +kernel)
  have e29 : RN H2 = RN H1 := RN_fr f10.1.2.1 (by decide +kernel)
  have e30 : RN H2 = RN H0 := e29.trans e28
  have e31 : RR H1 = RR H0 := RR_fr f5.1.2.1 (by decide +kernel)
  have e32 : RR H2 = RR H1 := RR_fr f10.1.2.1 (by decide +kernel)
  have e33 : RR H2 = RR H0 := e32.trans e31
  have e34 : (0 : Int) ≤ hV H0 285 11 ∧ hV H0 285 11 ≤ 500 := f1.1 285 11 _ _ kW_285_11
  have e35 : (0 : Int) ≤ hV H0 285 12 ∧ hV H0 285 12 ≤ 7 := f1.1 285 12 _ _ kW_285_12
  have e36 : (0 : Int) ≤ hV H0 285 13 ∧ hV H0 285 13 ≤ 2 := f1.1 285 13 _ _ kW_285_13
  have e37 : (0 : Int) ≤ hV H0 285 34 ∧ hV H0 285 34 ≤ 1 := f1.1 285 34 _ _ kW_285_34
  have e38 : (0 : Int) ≤ hV H0 285 35 ∧ hV H0 285 35 ≤ 1 := f1.1 285 35 _ _ kW_285_35
  have e39 : (0 : Int) ≤ hV H0 285 44 ∧ hV H0 285 44 ≤ 400 := f1.1 285 44 _ _ kW_285_44
  have e40 : (0 : Int) ≤ hV H0 285 51 ∧ hV H0 285 51 ≤ 1200 := f1.1 285 51 _ _ kW_285_51
  try simp only [e14, e17, e18, e19, e22, e25, e30, e33]
  have p0 := f1.2.1
  have p1 := f1.2.2.1
  have p2 := f1.2.2.2.1
  have p3 := f1.2.2.2.2.1
  have p4 := f1.2.2.2.2.2.1
  have p5 := f1.2.2.2.2.2.2.1
  have p6 := f1.2.2.2.2.2.2.2.1
  have p7 := f1.2.2.2.2.2.2.2.2
  have r0_0 := f5.2.1
  have r1_0 := f10.2.1
  have r1_1 := f10.2.2.resolve_right (fun z => f11 z.1)
  try simp only [e11] at r0_0
  try simp only [e18] at r1_0
  try simp only [e10, e11, e12, e14, e17, e18, e19, e22, e25, e27, e30, e33] at r1_1
  clear f13 f16 f19 f24 e10 e11 e12 e14 e17 e18 e19 e22 e25 e27 e28 e29 e30 e31 e32 e33
  clear f1 f5 f10
  subst e2
  subst e5
  subst e8

  have w_rules := fun x : Nat => p7 x
  refine ⟨p0, ?_, ?_, ?_, ?_, ?_, ?_, ?_, ?_, p7⟩ <;> first | trivial | omega
def g_232_s_5 : vG := ([(34, [9], [], 0), (20, [9, 0], [2], 13), (90, [9], [], 0), (91, [9], [], 2), (41, [7, 8], [], 0), (0, [8], [], 12), (22, [7, 5, 6], [2], 0), (90, [7], [], 0), (91, [7], [], 12), (20, [6, 0], [2], 35), (90, [6], [], 0), (91, [6], [], 1), (20, [5, 0], [2], 36), (0, [5], [], 306), (31, [4], [], 0), (1216, [4, 0, 3], [1, 2], 0), (90, [4], [], 0), (91, [4], [], 1), (0, [3], [], 44), (30, [2], [], 0), (1216, [2, 0, 1], [0, 1], 0), (90, [2], [], 0), (91, [2], [], 1), (0, [1], [], 42), (6000, [0], [0], 0), (0, [0], [], 285)], (3000, [], [2], 52))
theorem c_232_s_5 : vOkm T0 (eP e_232 L_232 A_232 mu_232 none) 1 g_232_s_5 := vOk_inI fun ρ η f0 f1 f2 f3 f4 f5 f6 f7 f8 f9 f10 f11 f12 f13 f14 f15 f16 f17 f18 f19 f20 f21 f22 f23 f24 f25 => q_232_5 (n0 := ρ 0) (n1 := ρ 1) (n2 := ρ 2) (n3 := ρ 3) (n4 := ρ 4) (n5 := ρ 5) (n6 := ρ 6) (n7 := ρ 7) (n8 := ρ 8) (n9 := ρ 9) (H0 := η 0) (H1 := η 1) (H2 := η 2) f25 f24 f23 f22 f21 f20 f19 f18 f17 f16 f15 f14 f13 f12 f11 f10 f9 f8 f7 f6 f5 f4 f3 f2 f1 f0
set_option maxHeartbeats 20000000 in
theorem q_232_6 {n0 n1 n2 n3 n4 n5 n6 n7 n8 n9 n10 : Int} {H0 H1 H2 H3 : gH} (f0 : n0 = 285) (f1 : hWt T0 H0 ∧ preb_232 n0 H0) (f2 : n1 = 42) (f3 : n2 ≤ 1) (f4 : 0 ≤ n2) (f5 : (hLe T0 H0 H1 ∧ hFr s_216.2.2.2.2 H0 H1 ∧ ((0 : Int) = 0 → H1.length = H0.length) ∧ hWt T0 H1) ∧ postb_216 n2 n0 n1 H0 H1) (f6 : n2 = 0) (f7 : n3 = 44) (f8 : n4 ≤ 1) (f9 : 0 ≤ n4) (f10 : (hLe T0 H1 H2 ∧ hFr s_216.2.2.2.2 H1 H2 ∧ ((0 : Int) = 0 → H2.length = H1.length) ∧ hWt T0 H2) ∧ postb_216 n4 n0 n3 H1 H2) (f11 : n4 ≠ 0) (f12 : n5 = 306) (f13 : n5 = hV H2 (n0).toNat 36) (f14 : n6 ≤ 1) (f15 : 0 ≤ n6) (f16 : n6 = hV H2 (n0).toNat 35) (f17 : n7 ≤ 12) (f18 : 0 ≤ n7) (f19 : n7 = hV H2 (n5).toNat (n6).toNat) (f20 : n8 = 12) (f21 : n7 = n8) (f22 : n9 = 2) (f23 : (hLe T0 H2 H3 ∧ hFr s_217.2.2.2.2 H2 H3 ∧ ((0 : Int) = 0 → H3.length = H2.length) ∧ hWt T0 H3) ∧ postb_217 n0 n9 H2 H3) (f24 : n10 ≤ 2) (f25 : 0 ≤ n10) (f26 : n10 = hV H3 (n0).toNat 13) (f27 : n10 ≤ 0) : Ab_232_53 n0 n0 H0 H3 ∧ ∀ q, none = some q → mub_232_53 n0 n0 H0 H3 < q := by
  unfold preb_232 at f1
  unfold postb_216 at f5
  unfold postb_216 at f10
  unfold postb_217 at f23
  unfold Ab_232_53
  have e2 : n6 = hV H0 285 35 := (by rw [f0] at f16; exact f16 : n6 = hV H2 285 35).trans (((f10.1.2.1.1 285 35 kF_216_285_35)).trans (f5.1.2.1.1 285 35 kF_216_285_35))
  have e5 : n7 = hV H0 306 (n6).toNat := (by rw [f12] at f19; exact f19 : n7 = hV H2 306 (n6).toNat).trans (((congrFun (fRow f10.1.2.1 306 kR_216_306) _)).trans ((congrFun (fRow f5.1.2.1 306 kR_216_306) _)))
  have e6 : n10 = hV H3 285 13 := (by rw [f0] at f26; exact f26 : n10 = hV H3 285 13)
  have e8 : hV H1 285 11 = hV H0 285 11 := (f5.1.2.1.1 285 11 kF_216_285_11)
  have e10 : hV H1 285 13 = hV H0 285 13 := (f5.1.2.1.1 285 13 kF_216_285_13)
  have e11 : hV H1 288 = hV H0 288 := fRow f5.1.2.1 288 kR_216_288
  have e13 : hV H2 285 11 = hV H0 285 11 := ((f10.1.2.1.1 285 11 kF_216_285_11)).trans (f5.1.2.1.1 285 11 kF_216_285_11)
  have e15 : hV H2 285 13 = hV H0 285 13 := ((f10.1.2.1.1 285 13 kF_216_285_13)).trans (f5.1.2.1.1 285 13 kF_216_285_13)
  have e17 : hV H2 288 = hV H0 288 := (fRow f10.1.2.1 288 kR_216_288).trans e11
  have e19 : hV H3 285 11 = hV H0 285 11 := ((f23.1.2.1.1 285 11 kF_217_285_11)).trans (((f10.1.2.1.1 285 11 kF_216_285_11)).trans (f5.1.2.1.1 285 11 kF_216_285_11))
  have e23 : hV H3 285 12 = hV H0 285 12 := ((f23.1.2.1.1 285 12 kF_217_285_12)).trans (((f10.1.2.1.1 285 12 kF_216_285_12)).trans (f5.1.2.1.1 285 12 kF_216_285_12))
  have e25 : hV H3 285 35 = hV H0 285 35 := ((f23.1.2.1.1 285 35 kF_217_285_35)).trans (((f10.1.2.1.1 285 35 kF_216_285_35)).trans (f5.1.2.1.1 285 35 kF_216_285_35))
  have e29 : hV H3 285 44 = hV H0 285 44 := ((f23.1.2.1.1 285 44 kF_217_285_44)).trans (((f10.1.2.1.1 285 44 kF_216_285_44)).trans (f5.1.2.1.1 285 44 kF_216_285_44))
  have e33 : hV H3 285 51 = hV H0 285 51 := ((f23.1.2.1.1 285 51 kF_217_285_51)).trans (((f10.1.2.1.1 285 51 kF_216_285_51)).trans (f5.1.2.1.1 285 51 kF_216_285_51))
  have e36 : hV H3 306 = hV H0 306 := (fRow f23.1.2.1 306 kR_217_306).trans ((fRow f10.1.2.1 306 kR_216_306).trans (fRow f5.1.2.1 306 kR_216_306))
  have e37 : RN H1 = RN H0 := RN_fr f5.1.2.1 (by decide +kernel)
  have e38 : RN H2 = RN H1 := RN_fr f10.1.2.1 (by decide +kernel)
  have e39 : RN H2 = RN H0 := e38.trans e37
  have e40 : RN H3 = RN H2 := RN_fr f23.1.2.1 (by decide +kernel)
  have e41 : RN H3 = RN H0 := e40.trans e39
  have e42 : RR H1 = RR H0 := RR_fr f5.1.2.1 (by decide +kernel)
  have e43 : RR H2 = RR H1 := RR_fr f10.1.2.1 (by decide +kernel)
  have e44 : RR H2 = RR H0 := e43.trans e42
  have e45 : RR H3 = RR H2 := RR_fr f23.1.2.1 (by decide +kernel)
  have e46 : RR H3 = RR H0 := e45.trans e44
  have e47 : (0 : Int) ≤ hV H0 285 11 ∧ hV H0 285 11 ≤ 500 := f1.1 285 11 _ _ kW_285_11
  have e48 : (0 : Int) ≤ hV H0 285 12 ∧ hV H0 285 12 ≤ 7 := f1.1 285 12 _ _ kW_285_12
  have e49 : (0 : Int) ≤ hV H0 285 13 ∧ hV H0 285 13 ≤ 2 := f1.1 285 13 _ _ kW_285_13
  have e50 : (0 : Int) ≤ hV H0 285 34 ∧ hV H0 285 34 ≤ 1 := f1.1 285 34 _ _ kW_285_34
  have e51 : (0 : Int) ≤ hV H0 285 35 ∧ hV H0 285 35 ≤ 1 := f1.1 285 35 _ _ kW_285_35
  have e52 : (0 : Int) ≤ hV H0 285 44 ∧ hV H0 285 44 ≤ 400 := f1.1 285 44 _ _ kW_285_44
  have e53 : (0 : Int) ≤ hV H0 285 51 ∧ hV H0 285 51 ≤ 1200 := f1.1 285 51 _ _ kW_285_51
  have e60 : (0 : Int) ≤ hV H3 285 13 ∧ hV H3 285 13 ≤ 2 := f23.1.2.2.2 285 13 _ _ kW_285_13
  try simp only [e19, e23, e25, e29, e33, e36, e41, e46]
  have p0 := f1.2.1
  have p1 := f1.2.2.1
  have p2 := f1.2.2.2.1
  have p3 := f1.2.2.2.2.1
  have p4 := f1.2.2.2.2.2.1
  have p5 := f1.2.2.2.2.2.2.1
  have p6 := f1.2.2.2.2.2.2.2.1
  have p7 := f1.2.2.2.2.2.2.2.2
  have r0_0 := f5.2.1
  have r1_0 := f10.2.1
  have r1_1 := f10.2.2.resolve_right (fun z => f11 z.1)
  have r2_0 := f23.2.1
  have r2_1 := f23.2.2
  try simp only [e10] at r0_0
  try simp only [e15] at r1_0
  try simp only [e8, e10, e11, e13, e15, e17] at r1_1
  try simp only [e15] at r2_0
  clear f13 f16 f19 f26 e8 e10 e11 e13 e15 e17 e19 e23 e25 e29 e33 e36 e37 e38 e39 e40 e41 e42 e43 e44 e45 e46
  clear f1 f5 f10 f23
  subst e2
  subst e5
  subst e6

  have w_rules := fun x : Nat => p7 x
  refine ⟨⟨?_, ?_, ?_, ?_, ?_, ?_, ?_, ?_, ?_⟩, fun q hq => ?_⟩
  · exact p0
  · first | trivial | omega
  · first | trivial | omega
  · first | trivial | omega
  · first | trivial | omega
  · first | trivial | omega
  · first | trivial | omega
  · first | trivial | omega
  · exact p7
  · exact nomatch hq
def g_232_s_6 : vG := ([(35, [10], [], 0), (20, [10, 0], [3], 13), (90, [10], [], 0), (91, [10], [], 2), (1217, [0, 9], [2, 3], 0), (0, [9], [], 2), (40, [7, 8], [], 0), (0, [8], [], 12), (22, [7, 5, 6], [2], 0), (90, [7], [], 0), (91, [7], [], 12), (20, [6, 0], [2], 35), (90, [6], [], 0), (91, [6], [], 1), (20, [5, 0], [2], 36), (0, [5], [], 306), (31, [4], [], 0), (1216, [4, 0, 3], [1, 2], 0), (90, [4], [], 0), (91, [4], [], 1), (0, [3], [], 44), (30, [2], [], 0), (1216, [2, 0, 1], [0, 1], 0), (90, [2], [], 0), (91, [2], [], 1), (0, [1], [], 42), (6000, [0], [0], 0), (0, [0], [], 285)], (4000, [0], [3], 53))
theorem c_232_s_6 : vOkm T0 (eP e_232 L_232 A_232 mu_232 none) 1 g_232_s_6 := vOk_inI fun ρ η f0 f1 f2 f3 f4 f5 f6 f7 f8 f9 f10 f11 f12 f13 f14 f15 f16 f17 f18 f19 f20 f21 f22 f23 f24 f25 f26 f27 => q_232_6 (n0 := ρ 0) (n1 := ρ 1) (n2 := ρ 2) (n3 := ρ 3) (n4 := ρ 4) (n5 := ρ 5) (n6 := ρ 6) (n7 := ρ 7) (n8 := ρ 8) (n9 := ρ 9) (n10 := ρ 10) (H0 := η 0) (H1 := η 1) (H2 := η 2) (H3 := η 3) f27 f26 f25 f24 f23 f22 f21 f20 f19 f18 f17 f16 f15 f14 f13 f12 f11 f10 f9 f8 f7 f6 f5 f4 f3 f2 f1 f0
set_option maxHeartbeats 20000000 in
theorem q_232_7 {n0 n1 n2 n3 n4 n5 n6 n7 n8 n9 n10 : Int} {H0 H1 H2 H3 : gH} (f0 : n0 = 285) (f1 : hWt T0 H0 ∧ preb_232 n0 H0) (f2 : n1 = 42) (f3 : n2 ≤ 1) (f4 : 0 ≤ n2) (f5 : (hLe T0 H0 H1 ∧ hFr s_216.2.2.2.2 H0 H1 ∧ ((0 : Int) = 0 → H1.length = H0.length) ∧ hWt T0 H1) ∧ postb_216 n2 n0 n1 H0 H1) (f6 : n2 = 0) (f7 : n3 = 44) (f8 : n4 ≤ 1) (f9 : 0 ≤ n4) (f10 : (hLe T0 H1 H2 ∧ hFr s_216.2.2.2.2 H1 H2 ∧ ((0 : Int) = 0 → H2.length = H1.length) ∧ hWt T0 H2) ∧ postb_216 n4 n0 n3 H1 H2) (f11 : n4 ≠ 0) (f12 : n5 = 306) (f13 : n5 = hV H2 (n0).toNat 36) (f14 : n6 ≤ 1) (f15 : 0 ≤ n6) (f16 : n6 = hV H2 (n0).toNat 35) (f17 : n7 ≤ 12) (f18 : 0 ≤ n7) (f19 : n7 = hV H2 (n5).toNat (n6).toNat) (f20 : n8 = 12) (f21 : n7 = n8) (f22 : n9 = 2) (f23 : (hLe T0 H2 H3 ∧ hFr s_217.2.2.2.2 H2 H3 ∧ ((0 : Int) = 0 → H3.length = H2.length) ∧ hWt T0 H3) ∧ postb_217 n0 n9 H2 H3) (f24 : n10 ≤ 2) (f25 : 0 ≤ n10) (f26 : n10 = hV H3 (n0).toNat 13) (f27 : 0 < n10) : postb_232 n0 H0 H3 := by
  unfold preb_232 at f1
  unfold postb_216 at f5
  unfold postb_216 at f10
  unfold postb_217 at f23
  unfold postb_232
  have e2 : n6 = hV H0 285 35 := (by rw [f0] at f16; exact f16 : n6 = hV H2 285 35).trans (((f10.1.2.1.1 285 35 kF_216_285_35)).trans (f5.1.2.1.1 285 35 kF_216_285_35))
  have e5 : n7 = hV H0 306 (n6).toNat := (by rw [f12] at f19; exact f19 : n7 = hV H2 306 (n6).toNat).trans (((congrFun (fRow f10.1.2.1 306 kR_216_306) _)).trans ((congrFun (fRow f5.1.2.1 306 kR_216_306) _)))
  have e6 : n10 = hV H3 285 13 := (by rw [f0] at f26; exact f26 : n10 = hV H3 285 13)
  have e8 : hV H1 285 11 = hV H0 285 11 := (f5.1.2.1.1 285 11 kF_216_285_11)
  have e10 : hV H1 285 13 = hV H0 285 13 := (f5.1.2.1.1 285 13 kF_216_285_13)
  have e11 : hV H1 288 = hV H0 288 := fRow f5.1.2.1 288 kR_216_288
  have e13 : hV H2 285 11 = hV H0 285 11 := ((f10.1.2.1.1 285 11 kF_216_285_11)).trans (f5.1.2.1.1 285 11 kF_216_285_11)
  have e15 : hV H2 285 13 = hV H0 285 13 := ((f10.1.2.1.1 285 13 kF_216_285_13)).trans (f5.1.2.1.1 285 13 kF_216_285_13)
  have e17 : hV H2 288 = hV H0 288 := (fRow f10.1.2.1 288 kR_216_288).trans e11
  have e19 : hV H3 285 11 = hV H0 285 11 := ((f23.1.2.1.1 285 11 kF_217_285_11)).trans (((f10.1.2.1.1 285 11 kF_216_285_11)).trans (f5.1.2.1.1 285 11 kF_216_285_11))
  have e23 : hV H3 285 12 = hV H0 285 12 := ((f23.1.2.1.1 285 12 kF_217_285_12)).trans (((f10.1.2.1.1 285 12 kF_216_285_12)).trans (f5.1.2.1.1 285 12 kF_216_285_12))
  have e25 : hV H3 285 35 = hV H0 285 35 := ((f23.1.2.1.1 285 35 kF_217_285_35)).trans (((f10.1.2.1.1 285 35 kF_216_285_35)).trans (f5.1.2.1.1 285 35 kF_216_285_35))
  have e29 : hV H3 285 44 = hV H0 285 44 := ((f23.1.2.1.1 285 44 kF_217_285_44)).trans (((f10.1.2.1.1 285 44 kF_216_285_44)).trans (f5.1.2.1.1 285 44 kF_216_285_44))
  have e33 : hV H3 285 51 = hV H0 285 51 := ((f23.1.2.1.1 285 51 kF_217_285_51)).trans (((f10.1.2.1.1 285 51 kF_216_285_51)).trans (f5.1.2.1.1 285 51 kF_216_285_51))
  have e34 : RN H1 = RN H0 := RN_fr f5.1.2.1 (by decide +kernel)
  have e35 : RN H2 = RN H1 := RN_fr f10.1.2.1 (by decide +kernel)
  have e36 : RN H2 = RN H0 := e35.trans e34
  have e37 : RN H3 = RN H2 := RN_fr f23.1.2.1 (by decide +kernel)
  have e38 : RN H3 = RN H0 := e37.trans e36
  have e39 : RR H1 = RR H0 := RR_fr f5.1.2.1 (by decide +kernel)
  have e40 : RR H2 = RR H1 := RR_fr f10.1.2.1 (by decide +kernel)
  have e41 : RR H2 = RR H0 := e40.trans e39
  have e42 : RR H3 = RR H2 := RR_fr f23.1.2.1 (by decide +kernel)
  have e43 : RR H3 = RR H0 := e42.trans e41
  have e44 : (0 : Int) ≤ hV H0 285 11 ∧ hV H0 285 11 ≤ 500 := f1.1 285 11 _ _ kW_285_11
  have e45 : (0 : Int) ≤ hV H0 285 12 ∧ hV H0 285 12 ≤ 7 := f1.1 285 12 _ _ kW_285_12
  have e46 : (0 : Int) ≤ hV H0 285 13 ∧ hV H0 285 13 ≤ 2 := f1.1 285 13 _ _ kW_285_13
  have e47 : (0 : Int) ≤ hV H0 285 34 ∧ hV H0 285 34 ≤ 1 := f1.1 285 34 _ _ kW_285_34
  have e48 : (0 : Int) ≤ hV H0 285 35 ∧ hV H0 285 35 ≤ 1 := f1.1 285 35 _ _ kW_285_35
  have e49 : (0 : Int) ≤ hV H0 285 44 ∧ hV H0 285 44 ≤ 400 := f1.1 285 44 _ _ kW_285_44
  have e50 : (0 : Int) ≤ hV H0 285 51 ∧ hV H0 285 51 ≤ 1200 := f1.1 285 51 _ _ kW_285_51
  have e57 : (0 : Int) ≤ hV H3 285 13 ∧ hV H3 285 13 ≤ 2 := f23.1.2.2.2 285 13 _ _ kW_285_13
  try simp only [e19, e23, e25, e29, e33, e38, e43]
  have p0 := f1.2.1
  have p1 := f1.2.2.1
  have p2 := f1.2.2.2.1
  have p3 := f1.2.2.2.2.1
  have p4 := f1.2.2.2.2.2.1
  have p5 := f1.2.2.2.2.2.2.1
  have p6 := f1.2.2.2.2.2.2.2.1
  have p7 := f1.2.2.2.2.2.2.2.2
  have r0_0 := f5.2.1
  have r1_0 := f10.2.1
  have r1_1 := f10.2.2.resolve_right (fun z => f11 z.1)
  have r2_0 := f23.2.1
  have r2_1 := f23.2.2
  try simp only [e10] at r0_0
  try simp only [e15] at r1_0
  try simp only [e8, e10, e11, e13, e15, e17] at r1_1
  try simp only [e15] at r2_0
  clear f13 f16 f19 f26 e8 e10 e11 e13 e15 e17 e19 e23 e25 e29 e33 e34 e35 e36 e37 e38 e39 e40 e41 e42 e43
  clear f1 f5 f10 f23
  subst e2
  subst e5
  subst e6

  have w_rules := fun x : Nat => p7 x
  refine ⟨p0, ?_, ?_, ?_, ?_, ?_, ?_, ?_, ?_, p7⟩ <;> first | trivial | omega
def g_232_s_7 : vG := ([(34, [10], [], 0), (20, [10, 0], [3], 13), (90, [10], [], 0), (91, [10], [], 2), (1217, [0, 9], [2, 3], 0), (0, [9], [], 2), (40, [7, 8], [], 0), (0, [8], [], 12), (22, [7, 5, 6], [2], 0), (90, [7], [], 0), (91, [7], [], 12), (20, [6, 0], [2], 35), (90, [6], [], 0), (91, [6], [], 1), (20, [5, 0], [2], 36), (0, [5], [], 306), (31, [4], [], 0), (1216, [4, 0, 3], [1, 2], 0), (90, [4], [], 0), (91, [4], [], 1), (0, [3], [], 44), (30, [2], [], 0), (1216, [2, 0, 1], [0, 1], 0), (90, [2], [], 0), (91, [2], [], 1), (0, [1], [], 42), (6000, [0], [0], 0), (0, [0], [], 285)], (3000, [], [3], 52))
theorem c_232_s_7 : vOkm T0 (eP e_232 L_232 A_232 mu_232 none) 1 g_232_s_7 := vOk_inI fun ρ η f0 f1 f2 f3 f4 f5 f6 f7 f8 f9 f10 f11 f12 f13 f14 f15 f16 f17 f18 f19 f20 f21 f22 f23 f24 f25 f26 f27 => q_232_7 (n0 := ρ 0) (n1 := ρ 1) (n2 := ρ 2) (n3 := ρ 3) (n4 := ρ 4) (n5 := ρ 5) (n6 := ρ 6) (n7 := ρ 7) (n8 := ρ 8) (n9 := ρ 9) (n10 := ρ 10) (H0 := η 0) (H1 := η 1) (H2 := η 2) (H3 := η 3) f27 f26 f25 f24 f23 f22 f21 f20 f19 f18 f17 f16 f15 f14 f13 f12 f11 f10 f9 f8 f7 f6 f5 f4 f3 f2 f1 f0
set_option maxHeartbeats 20000000 in
theorem q_232_8 {n0 n1 n2 n3 n4 n5 n6 : Int} {H0 H1 H2 H3 : gH} (f0 : n0 = 285) (f1 : hWt T0 H0 ∧ preb_232 n0 H0) (f2 : n1 = 42) (f3 : n2 ≤ 1) (f4 : 0 ≤ n2) (f5 : (hLe T0 H0 H1 ∧ hFr s_216.2.2.2.2 H0 H1 ∧ ((0 : Int) = 0 → H1.length = H0.length) ∧ hWt T0 H1) ∧ postb_216 n2 n0 n1 H0 H1) (f6 : n2 = 0) (f7 : n3 = 44) (f8 : n4 ≤ 1) (f9 : 0 ≤ n4) (f10 : (hLe T0 H1 H2 ∧ hFr s_216.2.2.2.2 H1 H2 ∧ ((0 : Int) = 0 → H2.length = H1.length) ∧ hWt T0 H2) ∧ postb_216 n4 n0 n3 H1 H2) (f11 : n4 = 0) (f12 : n5 = 1) (f13 : (hLe T0 H2 H3 ∧ hFr s_217.2.2.2.2 H2 H3 ∧ ((0 : Int) = 0 → H3.length = H2.length) ∧ hWt T0 H3) ∧ postb_217 n0 n5 H2 H3) (f14 : n6 ≤ 2) (f15 : 0 ≤ n6) (f16 : n6 = hV H3 (n0).toNat 13) (f17 : n6 ≤ 0) : Ab_232_53 n0 n0 H0 H3 ∧ ∀ q, none = some q → mub_232_53 n0 n0 H0 H3 < q := by
  unfold preb_232 at f1
  unfold postb_216 at f5
  unfold postb_216 at f10
  unfold postb_217 at f13
  unfold Ab_232_53
  have e0 : n6 = hV H3 285 13 := (by rw [f0] at f16; exact f16 : n6 = hV H3 285 13)
  have e4 : hV H1 285 13 = hV H0 285 13 := (f5.1.2.1.1 285 13 kF_216_285_13)
  have e9 : hV H2 285 13 = hV H0 285 13 := ((f10.1.2.1.1 285 13 kF_216_285_13)).trans (f5.1.2.1.1 285 13 kF_216_285_13)
  have e13 : hV H3 285 11 = hV H0 285 11 := ((f13.1.2.1.1 285 11 kF_217_285_11)).trans (((f10.1.2.1.1 285 11 kF_216_285_11)).trans (f5.1.2.1.1 285 11 kF_216_285_11))
  have e17 : hV H3 285 12 = hV H0 285 12 := ((f13.1.2.1.1 285 12 kF_217_285_12)).trans (((f10.1.2.1.1 285 12 kF_216_285_12)).trans (f5.1.2.1.1 285 12 kF_216_285_12))
  have e21 : hV H3 285 35 = hV H0 285 35 := ((f13.1.2.1.1 285 35 kF_217_285_35)).trans (((f10.1.2.1.1 285 35 kF_216_285_35)).trans (f5.1.2.1.1 285 35 kF_216_285_35))
  have e25 : hV H3 285 44 = hV H0 285 44 := ((f13.1.2.1.1 285 44 kF_217_285_44)).trans (((f10.1.2.1.1 285 44 kF_216_285_44)).trans (f5.1.2.1.1 285 44 kF_216_285_44))
  have e29 : hV H3 285 51 = hV H0 285 51 := ((f13.1.2.1.1 285 51 kF_217_285_51)).trans (((f10.1.2.1.1 285 51 kF_216_285_51)).trans (f5.1.2.1.1 285 51 kF_216_285_51))
  have e34 : hV H3 306 = hV H0 306 := (fRow f13.1.2.1 306 kR_217_306).trans ((fRow f10.1.2.1 306 kR_216_306).trans (fRow f5.1.2.1 306 kR_216_306))
  have e35 : RN H1 = RN H0 := RN_fr f5.1.2.1 (by decide +kernel)
  have e36 : RN H2 = RN H1 := RN_fr f10.1.2.1 (by decide +kernel)
  have e37 : RN H2 = RN H0 := e36.trans e35
  have e38 : RN H3 = RN H2 := RN_fr f13.1.2.1 (by decide +kernel)
  have e39 : RN H3 = RN H0 := e38.trans e37
  have e40 : RR H1 = RR H0 := RR_fr f5.1.2.1 (by decide +kernel)
  have e41 : RR H2 = RR H1 := RR_fr f10.1.2.1 (by decide +kernel)
  have e42 : RR H2 = RR H0 := e41.trans e40
  have e43 : RR H3 = RR H2 := RR_fr f13.1.2.1 (by decide +kernel)
  have e44 : RR H3 = RR H0 := e43.trans e42
  have e45 : (0 : Int) ≤ hV H0 285 11 ∧ hV H0 285 11 ≤ 500 := f1.1 285 11 _ _ kW_285_11
  have e46 : (0 : Int) ≤ hV H0 285 12 ∧ hV H0 285 12 ≤ 7 := f1.1 285 12 _ _ kW_285_12
  have e47 : (0 : Int) ≤ hV H0 285 13 ∧ hV H0 285 13 ≤ 2 := f1.1 285 13 _ _ kW_285_13
  have e48 : (0 : Int) ≤ hV H0 285 34 ∧ hV H0 285 34 ≤ 1 := f1.1 285 34 _ _ kW_285_34
  have e49 : (0 : Int) ≤ hV H0 285 35 ∧ hV H0 285 35 ≤ 1 := f1.1 285 35 _ _ kW_285_35
  have e50 : (0 : Int) ≤ hV H0 285 44 ∧ hV H0 285 44 ≤ 400 := f1.1 285 44 _ _ kW_285_44
  have e51 : (0 : Int) ≤ hV H0 285 51 ∧ hV H0 285 51 ≤ 1200 := f1.1 285 51 _ _ kW_285_51
  have e58 : (0 : Int) ≤ hV H3 285 13 ∧ hV H3 285 13 ≤ 2 := f13.1.2.2.2 285 13 _ _ kW_285_13
  try simp only [e13, e17, e21, e25, e29, e34, e39, e44]
  have p0 := f1.2.1
  have p1 := f1.2.2.1
  have p2 := f1.2.2.2.1
  have p3 := f1.2.2.2.2.1
  have p4 := f1.2.2.2.2.2.1
  have p5 := f1.2.2.2.2.2.2.1
  have p6 := f1.2.2.2.2.2.2.2.1
  have p7 := f1.2.2.2.2.2.2.2.2
  have r0_0 := f5.2.1
  have r1_0 := f10.2.1
  have r2_0 := f13.2.1
  have r2_1 := f13.2.2
  try simp only [e4] at r0_0
  try simp only [e9] at r1_0
  try simp only [e9] at r2_0
  clear f16 e4 e9 e13 e17 e21 e25 e29 e34 e35 e36 e37 e38 e39 e40 e41 e42 e43 e44
  clear f1 f5 f10 f13
  subst e0

  have w_rules := fun x : Nat => p7 x
  refine ⟨⟨?_, ?_, ?_, ?_, ?_, ?_, ?_, ?_, ?_⟩, fun q hq => ?_⟩
  · exact p0
  · first | trivial | omega
  · first | trivial | omega
  · first | trivial | omega
  · first | trivial | omega
  · first | trivial | omega
  · first | trivial | omega
  · first | trivial | omega
  · exact p7
  · exact nomatch hq
def g_232_s_8 : vG := ([(35, [6], [], 0), (20, [6, 0], [3], 13), (90, [6], [], 0), (91, [6], [], 2), (1217, [0, 5], [2, 3], 0), (0, [5], [], 1), (30, [4], [], 0), (1216, [4, 0, 3], [1, 2], 0), (90, [4], [], 0), (91, [4], [], 1), (0, [3], [], 44), (30, [2], [], 0), (1216, [2, 0, 1], [0, 1], 0), (90, [2], [], 0), (91, [2], [], 1), (0, [1], [], 42), (6000, [0], [0], 0), (0, [0], [], 285)], (4000, [0], [3], 53))
theorem c_232_s_8 : vOkm T0 (eP e_232 L_232 A_232 mu_232 none) 1 g_232_s_8 := vOk_inI fun ρ η f0 f1 f2 f3 f4 f5 f6 f7 f8 f9 f10 f11 f12 f13 f14 f15 f16 f17 => q_232_8 (n0 := ρ 0) (n1 := ρ 1) (n2 := ρ 2) (n3 := ρ 3) (n4 := ρ 4) (n5 := ρ 5) (n6 := ρ 6) (H0 := η 0) (H1 := η 1) (H2 := η 2) (H3 := η 3) f17 f16 f15 f14 f13 f12 f11 f10 f9 f8 f7 f6 f5 f4 f3 f2 f1 f0
set_option maxHeartbeats 20000000 in
theorem q_232_9 {n0 n1 n2 n3 n4 n5 n6 : Int} {H0 H1 H2 H3 : gH} (f0 : n0 = 285) (f1 : hWt T0 H0 ∧ preb_232 n0 H0) (f2 : n1 = 42) (f3 : n2 ≤ 1) (f4 : 0 ≤ n2) (f5 : (hLe T0 H0 H1 ∧ hFr s_216.2.2.2.2 H0 H1 ∧ ((0 : Int) = 0 → H1.length = H0.length) ∧ hWt T0 H1) ∧ postb_216 n2 n0 n1 H0 H1) (f6 : n2 = 0) (f7 : n3 = 44) (f8 : n4 ≤ 1) (f9 : 0 ≤ n4) (f10 : (hLe T0 H1 H2 ∧ hFr s_216.2.2.2.2 H1 H2 ∧ ((0 : Int) = 0 → H2.length = H1.length) ∧ hWt T0 H2) ∧ postb_216 n4 n0 n3 H1 H2) (f11 : n4 = 0) (f12 : n5 = 1) (f13 : (hLe T0 H2 H3 ∧ hFr s_217.2.2.2.2 H2 H3 ∧ ((0 : Int) = 0 → H3.length = H2.length) ∧ hWt T0 H3) ∧ postb_217 n0 n5 H2 H3) (f14 : n6 ≤ 2) (f15 : 0 ≤ n6) (f16 : n6 = hV H3 (n0).toNat 13) (f17 : 0 < n6) : postb_232 n0 H0 H3 := by
  unfold preb_232 at f1
  unfold postb_216 at f5
  unfold postb_216 at f10
  unfold postb_217 at f13
  unfold postb_232
  have e0 : n6 = hV H3 285 13 := (by rw [f0] at f16; exact f16 : n6 = hV H3 285 13)
  have e4 : hV H1 285 13 = hV H0 285 13 := (f5.1.2.1.1 285 13 kF_216_285_13)
  have e9 : hV H2 285 13 = hV H0 285 13 := ((f10.1.2.1.1 285 13 kF_216_285_13)).trans (f5.1.2.1.1 285 13 kF_216_285_13)
  have e13 : hV H3 285 11 = hV H0 285 11 := ((f13.1.2.1.1 285 11 kF_217_285_11)).trans (((f10.1.2.1.1 285 11 kF_216_285_11)).trans (f5.1.2.1.1 285 11 kF_216_285_11))
  have e17 : hV H3 285 12 = hV H0 285 12 := ((f13.1.2.1.1 285 12 kF_217_285_12)).trans (((f10.1.2.1.1 285 12 kF_216_285_12)).trans (f5.1.2.1.1 285 12 kF_216_285_12))
  have e21 : hV H3 285 35 = hV H0 285 35 := ((f13.1.2.1.1 285 35 kF_217_285_35)).trans (((f10.1.2.1.1 285 35 kF_216_285_35)).trans (f5.1.2.1.1 285 35 kF_216_285_35))
  have e25 : hV H3 285 44 = hV H0 285 44 := ((f13.1.2.1.1 285 44 kF_217_285_44)).trans (((f10.1.2.1.1 285 44 kF_216_285_44)).trans (f5.1.2.1.1 285 44 kF_216_285_44))
  have e29 : hV H3 285 51 = hV H0 285 51 := ((f13.1.2.1.1 285 51 kF_217_285_51)).trans (((f10.1.2.1.1 285 51 kF_216_285_51)).trans (f5.1.2.1.1 285 51 kF_216_285_51))
  have e30 : RN H1 = RN H0 := RN_fr f5.1.2.1 (by decide +kernel)
  have e31 : RN H2 = RN H1 := RN_fr f10.1.2.1 (by decide +kernel)
  have e32 : RN H2 = RN H0 := e31.trans e30
  have e33 : RN H3 = RN H2 := RN_fr f13.1.2.1 (by decide +kernel)
  have e34 : RN H3 = RN H0 := e33.trans e32
  have e35 : RR H1 = RR H0 := RR_fr f5.1.2.1 (by decide +kernel)
  have e36 : RR H2 = RR H1 := RR_fr f10.1.2.1 (by decide +kernel)
  have e37 : RR H2 = RR H0 := e36.trans e35
  have e38 : RR H3 = RR H2 := RR_fr f13.1.2.1 (by decide +kernel)
  have e39 : RR H3 = RR H0 := e38.trans e37
  have e40 : (0 : Int) ≤ hV H0 285 11 ∧ hV H0 285 11 ≤ 500 := f1.1 285 11 _ _ kW_285_11
  have e41 : (0 : Int) ≤ hV H0 285 12 ∧ hV H0 285 12 ≤ 7 := f1.1 285 12 _ _ kW_285_12
  have e42 : (0 : Int) ≤ hV H0 285 13 ∧ hV H0 285 13 ≤ 2 := f1.1 285 13 _ _ kW_285_13
  have e43 : (0 : Int) ≤ hV H0 285 34 ∧ hV H0 285 34 ≤ 1 := f1.1 285 34 _ _ kW_285_34
  have e44 : (0 : Int) ≤ hV H0 285 35 ∧ hV H0 285 35 ≤ 1 := f1.1 285 35 _ _ kW_285_35
  have e45 : (0 : Int) ≤ hV H0 285 44 ∧ hV H0 285 44 ≤ 400 := f1.1 285 44 _ _ kW_285_44
  have e46 : (0 : Int) ≤ hV H0 285 51 ∧ hV H0 285 51 ≤ 1200 := f1.1 285 51 _ _ kW_285_51
  have e53 : (0 : Int) ≤ hV H3 285 13 ∧ hV H3 285 13 ≤ 2 := f13.1.2.2.2 285 13 _ _ kW_285_13
  try simp only [e13, e17, e21, e25, e29, e34, e39]
  have p0 := f1.2.1
  have p1 := f1.2.2.1
  have p2 := f1.2.2.2.1
  have p3 := f1.2.2.2.2.1
  have p4 := f1.2.2.2.2.2.1
  have p5 := f1.2.2.2.2.2.2.1
  have p6 := f1.2.2.2.2.2.2.2.1
  have p7 := f1.2.2.2.2.2.2.2.2
  have r0_0 := f5.2.1
  have r1_0 := f10.2.1
  have r2_0 := f13.2.1
  have r2_1 := f13.2.2
  try simp only [e4] at r0_0
  try simp only [e9] at r1_0
  try simp only [e9] at r2_0
  clear f16 e4 e9 e13 e17 e21 e25 e29 e30 e31 e32 e33 e34 e35 e36 e37 e38 e39
  clear f1 f5 f10 f13
  subst e0

  have w_rules := fun x : Nat => p7 x
  refine ⟨p0, ?_, ?_, ?_, ?_, ?_, ?_, ?_, ?_, p7⟩ <;> first | trivial | omega
def g_232_s_9 : vG := ([(34, [6], [], 0), (20, [6, 0], [3], 13), (90, [6], [], 0), (91, [6], [], 2), (1217, [0, 5], [2, 3], 0), (0, [5], [], 1), (30, [4], [], 0), (1216, [4, 0, 3], [1, 2], 0), (90, [4], [], 0), (91, [4], [], 1), (0, [3], [], 44), (30, [2], [], 0), (1216, [2, 0, 1], [0, 1], 0), (90, [2], [], 0), (91, [2], [], 1), (0, [1], [], 42), (6000, [0], [0], 0), (0, [0], [], 285)], (3000, [], [3], 52))
theorem c_232_s_9 : vOkm T0 (eP e_232 L_232 A_232 mu_232 none) 1 g_232_s_9 := vOk_inI fun ρ η f0 f1 f2 f3 f4 f5 f6 f7 f8 f9 f10 f11 f12 f13 f14 f15 f16 f17 => q_232_9 (n0 := ρ 0) (n1 := ρ 1) (n2 := ρ 2) (n3 := ρ 3) (n4 := ρ 4) (n5 := ρ 5) (n6 := ρ 6) (H0 := η 0) (H1 := η 1) (H2 := η 2) (H3 := η 3) f17 f16 f15 f14 f13 f12 f11 f10 f9 f8 f7 f6 f5 f4 f3 f2 f1 f0
def p_232_s : List vG := [g_232_s_0,
  g_232_s_1,
  g_232_s_2,
  g_232_s_3,
  g_232_s_4,
  g_232_s_5,
  g_232_s_6,
  g_232_s_7,
  g_232_s_8,
  g_232_s_9]
theorem r_232_s : vCovO false (eR0 e_232 L_232 cs_232 2000) p_232_s = true := by decide +kernel
set_option maxHeartbeats 20000000 in
theorem kF_232_285_35 : vFree s_232.2.2.2.2 285 35 = true := by decide +kernel
theorem kF_232_285_34 : vFree s_232.2.2.2.2 285 34 = true := by decide +kernel
theorem q_232_10 {q0 : Nat} {n0 n1 n2 n3 n4 n5 n6 n7 n8 : Int} {H0 H1 : gH} (f0 : n0 = 285) (f1 : n1 = 285) (f2 : (hLe T0 H0 H1 ∧ hFr s_232.2.2.2.2 H0 H1 ∧ hWt T0 H1) ∧ (Ab_232_53 n1 n0 H0 H1 ∧ preb_232 n1 H0) ∧ some q0 = some (mub_232_53 n1 n0 H0 H1)) (f3 : n2 = 12) (f4 : n3 ≤ 1) (f5 : 0 ≤ n3) (f6 : n3 = hV H1 (n0).toNat 35) (f7 : n4 = w32 (n2 * n3)) (f8 : n5 = 306) (f9 : n5 = hV H1 (n0).toNat 36) (f10 : n6 ≤ 1) (f11 : 0 ≤ n6) (f12 : n6 = hV H1 (n0).toNat 35) (f13 : n7 ≤ 12) (f14 : 0 ≤ n7) (f15 : n7 = hV H1 (n5).toNat (n6).toNat) (f16 : n8 = w32 (n4 + n7)) : 0 ≤ n8 ∧ n8 < 24 := by
  have g4 := f2.2.1.1
  unfold Ab_232_53 at g4
  have g3 := f2.2.1.2
  unfold preb_232 at g3
  have e1 : n3 = hV H0 285 35 := (by rw [f0] at f6; exact f6 : n3 = hV H1 285 35).trans ((f2.1.2.1.1 285 35 kF_232_285_35))
  have e2 : n6 = hV H0 285 35 := (by rw [f0] at f12; exact f12 : n6 = hV H1 285 35).trans ((f2.1.2.1.1 285 35 kF_232_285_35))
  have e3 : n7 = hV H1 306 (n6).toNat := (by rw [f8] at f15; exact f15 : n7 = hV H1 306 (n6).toNat)
  have e6 : hV H1 285 35 = hV H0 285 35 := (f2.1.2.1.1 285 35 kF_232_285_35)
  have e7 : (0 : Int) ≤ hV H1 285 11 ∧ hV H1 285 11 ≤ 500 := f2.1.2.2 285 11 _ _ kW_285_11
  have e8 : (0 : Int) ≤ hV H1 285 12 ∧ hV H1 285 12 ≤ 7 := f2.1.2.2 285 12 _ _ kW_285_12
  have e9 : (0 : Int) ≤ hV H1 285 13 ∧ hV H1 285 13 ≤ 2 := f2.1.2.2 285 13 _ _ kW_285_13
  have e10 : (0 : Int) ≤ hV H0 285 34 ∧ hV H0 285 34 ≤ 1 := bTo ((f2.1.2.1.1 285 34 kF_232_285_34)) (f2.1.2.2 285 34 _ _ kW_285_34)
  have e11 : (0 : Int) ≤ hV H0 285 35 ∧ hV H0 285 35 ≤ 1 := bTo e6 (f2.1.2.2 285 35 _ _ kW_285_35)
  have e12 : (0 : Int) ≤ hV H1 285 44 ∧ hV H1 285 44 ≤ 400 := f2.1.2.2 285 44 _ _ kW_285_44
  have e13 : (0 : Int) ≤ hV H1 285 51 ∧ hV H1 285 51 ≤ 1200 := f2.1.2.2 285 51 _ _ kW_285_51
  have y0 := g4.1
  have y1 := g4.2.1
  have y2 := g4.2.2.1
  have y3 := g4.2.2.2.1
  have y4 := g4.2.2.2.2.1
  have y5 := g4.2.2.2.2.2.1
  have y6 := g4.2.2.2.2.2.2.1
  have y7 := g4.2.2.2.2.2.2.2.1
  have y8 := g4.2.2.2.2.2.2.2.2
  have p0 := g3.1
  have p1 := g3.2.1
  have p2 := g3.2.2.1
  have p3 := g3.2.2.2.1
  have p4 := g3.2.2.2.2.1
  have p5 := g3.2.2.2.2.2.1
  have p6 := g3.2.2.2.2.2.2.1
  have p7 := g3.2.2.2.2.2.2.2
  try simp only [e6] at y7
  clear g3
  clear g4
  clear f6 f9 f12 f15 e6
  clear f2
  subst e1
  subst e2
  subst e3
  rw [f3] at f7
  first
  | (have ix0 : n4 = 12 * (hV H0 285 35) := Eq.trans f7 (w32_iv (Iml 12 rfl (Iat f5 f4)) (by decide)); subst ix0; clear f7)
  | (have ix0 : n4 = 12 * (hV H0 285 35) := Eq.trans f7 (w32_id (by omega) (by omega)); subst ix0; clear f7)
  | (unfold w32 at f7; have ix0 : n4 = 12 * (hV H0 285 35) := (by omega); subst ix0)
  | skip
  first
  | (have ix1 : n8 = (12 * (hV H0 285 35)) + hV H1 306 (hV H0 285 35).toNat := Eq.trans f16 (w32_iv (Iad (Iml 12 rfl (Iat f5 f4)) (Iat f14 f13)) (by decide)); subst ix1; clear f16)
  | (have ix1 : n8 = (12 * (hV H0 285 35)) + hV H1 306 (hV H0 285 35).toNat := Eq.trans f16 (w32_id (by omega) (by omega)); subst ix1; clear f16)
  | (unfold w32 at f16; have ix1 : n8 = (12 * (hV H0 285 35)) + hV H1 306 (hV H0 285 35).toNat := (by omega); subst ix1)
  | skip
  try unfold w32 at f7
  try unfold w32 at f16
  omega
def g_232_53_0 : vG := ([(1, [8, 4, 7], [], 0), (22, [7, 5, 6], [1], 0), (90, [7], [], 0), (91, [7], [], 12), (20, [6, 1], [1], 35), (90, [6], [], 0), (91, [6], [], 1), (20, [5, 1], [1], 36), (0, [5], [], 306), (3, [4, 2, 3], [], 0), (20, [3, 1], [1], 35), (90, [3], [], 0), (91, [3], [], 1), (0, [2], [], 12), (5000, [0, 1], [0, 1], 53), (0, [0], [], 285), (0, [1], [], 285)], (70, [8], [], 24))
theorem c_232_53_0 {q0 : Nat} : vOkm T0 (eP e_232 L_232 A_232 mu_232 (some q0)) 1 g_232_53_0 := vOk_inI fun ρ η f0 f1 f2 f3 f4 f5 f6 f7 f8 f9 f10 f11 f12 f13 f14 f15 f16 => q_232_10 (q0 := q0) (n0 := ρ 1) (n1 := ρ 0) (n2 := ρ 2) (n3 := ρ 3) (n4 := ρ 4) (n5 := ρ 5) (n6 := ρ 6) (n7 := ρ 7) (n8 := ρ 8) (H0 := η 0) (H1 := η 1) f16 f15 f14 f13 f12 f11 f10 f9 f8 f7 f6 f5 f4 f3 f2 f1 f0
set_option maxHeartbeats 20000000 in
theorem q_232_11 {q0 : Nat} {n0 n1 n2 n3 n4 n5 n6 n7 n8 n9 n10 n11 n12 n13 : Int} {H0 H1 H2 H3 H4 : gH} (f0 : n0 = 285) (f1 : n1 = 285) (f2 : (hLe T0 H0 H1 ∧ hFr s_232.2.2.2.2 H0 H1 ∧ hWt T0 H1) ∧ (Ab_232_53 n1 n0 H0 H1 ∧ preb_232 n1 H0) ∧ some q0 = some (mub_232_53 n1 n0 H0 H1)) (f3 : n2 = 12) (f4 : n3 ≤ 1) (f5 : 0 ≤ n3) (f6 : n3 = hV H1 (n0).toNat 35) (f7 : n4 = w32 (n2 * n3)) (f8 : n5 = 306) (f9 : n5 = hV H1 (n0).toNat 36) (f10 : n6 ≤ 1) (f11 : 0 ≤ n6) (f12 : n6 = hV H1 (n0).toNat 35) (f13 : n7 ≤ 12) (f14 : 0 ≤ n7) (f15 : n7 = hV H1 (n5).toNat (n6).toNat) (f16 : n8 = w32 (n4 + n7)) (f17 : n9 = 307) (f18 : n9 = hV H1 (n0).toNat 37) (f19 : n10 = 42) (f20 : n11 ≤ 1) (f21 : 0 ≤ n11) (f22 : (hLe T0 H1 H2 ∧ hFr s_216.2.2.2.2 H1 H2 ∧ ((0 : Int) = 0 → H2.length = H1.length) ∧ hWt T0 H2) ∧ postb_216 n11 n0 n10 H1 H2) (f23 : n11 = 0) (f24 : n12 = 1) (f25 : hUpd H3 H2 n9 n8 n12) (f26 : (hLe T0 H3 H4 ∧ hFr s_219.2.2.2.2 H3 H4 ∧ ((0 : Int) = 0 → H4.length = H3.length) ∧ hWt T0 H4) ∧ postb_219 n0 H3 H4) (f27 : n13 ≤ 1200) (f28 : 0 ≤ n13) (f29 : n13 = hV H4 (n0).toNat 51) : 0 ≤ n8 ∧ n8 < 24 := by
  have g4 := f2.2.1.1
  unfold Ab_232_53 at g4
  have g3 := f2.2.1.2
  unfold preb_232 at g3
  unfold postb_216 at f22
  unfold postb_219 at f26
  have e1 : n3 = hV H0 285 35 := (by rw [f0] at f6; exact f6 : n3 = hV H1 285 35).trans ((f2.1.2.1.1 285 35 kF_232_285_35))
  have e2 : n6 = hV H0 285 35 := (by rw [f0] at f12; exact f12 : n6 = hV H1 285 35).trans ((f2.1.2.1.1 285 35 kF_232_285_35))
  have e3 : n7 = hV H1 306 (n6).toNat := (by rw [f8] at f15; exact f15 : n7 = hV H1 306 (n6).toNat)
  have e7 : n13 = hV H1 285 51 := (by rw [f0] at f29; exact f29 : n13 = hV H4 285 51).trans (((f26.1.2.1.1 285 51 kF_219_285_51)).trans (((uPlace f25 285 51 (iS (show n9 = ((307 : Nat) : Int) from f17) rfl))).trans (f22.1.2.1.1 285 51 kF_216_285_51)))
  have e9 : hV H1 285 34 = hV H0 285 34 := (f2.1.2.1.1 285 34 kF_232_285_34)
  have e10 : hV H1 285 35 = hV H0 285 35 := (f2.1.2.1.1 285 35 kF_232_285_35)
  have e14 : hV H2 285 13 = hV H1 285 13 := (f22.1.2.1.1 285 13 kF_216_285_13)
  have e19 : hV H3 285 11 = hV H1 285 11 := ((uPlace f25 285 11 (iS (show n9 = ((307 : Nat) : Int) from f17) rfl))).trans (f22.1.2.1.1 285 11 kF_216_285_11)
  have e21 : hV H3 285 13 = hV H1 285 13 := ((uPlace f25 285 13 (iS (show n9 = ((307 : Nat) : Int) from f17) rfl))).trans (f22.1.2.1.1 285 13 kF_216_285_13)
  have e22 : (0 : Int) ≤ hV H1 285 11 ∧ hV H1 285 11 ≤ 500 := f2.1.2.2 285 11 _ _ kW_285_11
  have e23 : (0 : Int) ≤ hV H1 285 12 ∧ hV H1 285 12 ≤ 7 := f2.1.2.2 285 12 _ _ kW_285_12
  have e24 : (0 : Int) ≤ hV H1 285 13 ∧ hV H1 285 13 ≤ 2 := f2.1.2.2 285 13 _ _ kW_285_13
  have e25 : (0 : Int) ≤ hV H0 285 34 ∧ hV H0 285 34 ≤ 1 := bTo e9 (f2.1.2.2 285 34 _ _ kW_285_34)
  have e26 : (0 : Int) ≤ hV H0 285 35 ∧ hV H0 285 35 ≤ 1 := bTo e10 (f2.1.2.2 285 35 _ _ kW_285_35)
  have e27 : (0 : Int) ≤ hV H1 285 44 ∧ hV H1 285 44 ≤ 400 := f2.1.2.2 285 44 _ _ kW_285_44
  have e28 : (0 : Int) ≤ hV H1 285 51 ∧ hV H1 285 51 ≤ 1200 := f2.1.2.2 285 51 _ _ kW_285_51
  have e31 : (0 : Int) ≤ hV H4 285 11 ∧ hV H4 285 11 ≤ 500 := f26.1.2.2.2 285 11 _ _ kW_285_11
  have e32 : (0 : Int) ≤ hV H4 285 13 ∧ hV H4 285 13 ≤ 2 := f26.1.2.2.2 285 13 _ _ kW_285_13
  try simp only [RR]
  have y0 := g4.1
  have y1 := g4.2.1
  have y2 := g4.2.2.1
  have y3 := g4.2.2.2.1
  have y4 := g4.2.2.2.2.1
  have y5 := g4.2.2.2.2.2.1
  have y6 := g4.2.2.2.2.2.2.1
  have y7 := g4.2.2.2.2.2.2.2.1
  have y8 := g4.2.2.2.2.2.2.2.2
  have p0 := g3.1
  have p1 := g3.2.1
  have p2 := g3.2.2.1
  have p3 := g3.2.2.2.1
  have p4 := g3.2.2.2.2.1
  have p5 := g3.2.2.2.2.2.1
  have p6 := g3.2.2.2.2.2.2.1
  have p7 := g3.2.2.2.2.2.2.2
  have r0_0 := f22.2.1
  have r1_0 := f26.2.1
  have r1_1 := f26.2.2.1
  have r1_2 := f26.2.2.2.1
  have r1_3 := f26.2.2.2.2
  try simp only [RR] at y0
  try simp only [RR] at p0
  try simp only [e9, e10] at y0
  try simp only [e10] at y7
  try simp only [e14] at r0_0
  try simp only [e19] at r1_0
  try simp only [e19] at r1_1
  try simp only [e21] at r1_2
  try simp only [e19] at r1_3
  clear g3
  clear g4
  clear f6 f9 f12 f15 f18 f29 e9 e10 e14 e19 e21
  clear f2 f22 f26
  subst e1
  subst e2
  subst e3
  subst e7
  rw [f3] at f7
  first
  | (have ix0 : n4 = 12 * (hV H0 285 35) := Eq.trans f7 (w32_iv (Iml 12 rfl (Iat f5 f4)) (by decide)); subst ix0; clear f7)
  | (have ix0 : n4 = 12 * (hV H0 285 35) := Eq.trans f7 (w32_id (by omega) (by omega)); subst ix0; clear f7)
  | (unfold w32 at f7; have ix0 : n4 = 12 * (hV H0 285 35) := (by omega); subst ix0)
  | skip
  first
  | (have ix1 : n8 = (12 * (hV H0 285 35)) + hV H1 306 (hV H0 285 35).toNat := Eq.trans f16 (w32_iv (Iad (Iml 12 rfl (Iat f5 f4)) (Iat f14 f13)) (by decide)); subst ix1; clear f16)
  | (have ix1 : n8 = (12 * (hV H0 285 35)) + hV H1 306 (hV H0 285 35).toNat := Eq.trans f16 (w32_id (by omega) (by omega)); subst ix1; clear f16)
  | (unfold w32 at f16; have ix1 : n8 = (12 * (hV H0 285 35)) + hV H1 306 (hV H0 285 35).toNat := (by omega); subst ix1)
  | skip
  try unfold w32 at f7
  try unfold w32 at f16
  omega
def g_232_53_1 : vG := ([(20, [14, 1], [4], 51), (90, [14], [], 0), (91, [14], [], 1200), (1219, [1], [3, 4], 0), (80, [9, 8, 12], [3, 2], 0), (0, [12], [], 1), (30, [11], [], 0), (1216, [11, 1, 10], [1, 2], 0), (90, [11], [], 0), (91, [11], [], 1), (0, [10], [], 42), (20, [9, 1], [1], 37), (0, [9], [], 307), (1, [8, 4, 7], [], 0), (22, [7, 5, 6], [1], 0), (90, [7], [], 0), (91, [7], [], 12), (20, [6, 1], [1], 35), (90, [6], [], 0), (91, [6], [], 1), (20, [5, 1], [1], 36), (0, [5], [], 306), (3, [4, 2, 3], [], 0), (20, [3, 1], [1], 35), (90, [3], [], 0), (91, [3], [], 1), (0, [2], [], 12), (5000, [0, 1], [0, 1], 53), (0, [0], [], 285), (0, [1], [], 285)], (70, [8], [], 24))
theorem c_232_53_1 {q0 : Nat} : vOkm T0 (eP e_232 L_232 A_232 mu_232 (some q0)) 1 g_232_53_1 := vOk_inI fun ρ η f0 f1 f2 f3 f4 f5 f6 f7 f8 f9 f10 f11 f12 f13 f14 f15 f16 f17 f18 f19 f20 f21 f22 f23 f24 f25 f26 f27 f28 f29 => q_232_11 (q0 := q0) (n0 := ρ 1) (n1 := ρ 0) (n2 := ρ 2) (n3 := ρ 3) (n4 := ρ 4) (n5 := ρ 5) (n6 := ρ 6) (n7 := ρ 7) (n8 := ρ 8) (n9 := ρ 9) (n10 := ρ 10) (n11 := ρ 11) (n12 := ρ 12) (n13 := ρ 14) (H0 := η 0) (H1 := η 1) (H2 := η 2) (H3 := η 3) (H4 := η 4) f29 f28 f27 f26 f25 f24 f23 f22 f21 f20 f19 f18 f17 f16 f15 f14 f13 f12 f11 f10 f9 f8 f7 f6 f5 f4 f3 f2 f1 f0
set_option maxHeartbeats 20000000 in
theorem q_232_12 {q0 : Nat} {n0 n1 n2 n3 n4 n5 n6 n7 n8 n9 n10 n11 n12 n13 n14 n15 : Int} {H0 H1 H2 H3 H4 H5 : gH} (f0 : n0 = 285) (f1 : n1 = 285) (f2 : (hLe T0 H0 H1 ∧ hFr s_232.2.2.2.2 H0 H1 ∧ hWt T0 H1) ∧ (Ab_232_53 n1 n0 H0 H1 ∧ preb_232 n1 H0) ∧ some q0 = some (mub_232_53 n1 n0 H0 H1)) (f3 : n2 = 12) (f4 : n3 ≤ 1) (f5 : 0 ≤ n3) (f6 : n3 = hV H1 (n0).toNat 35) (f7 : n4 = w32 (n2 * n3)) (f8 : n5 = 306) (f9 : n5 = hV H1 (n0).toNat 36) (f10 : n6 ≤ 1) (f11 : 0 ≤ n6) (f12 : n6 = hV H1 (n0).toNat 35) (f13 : n7 ≤ 12) (f14 : 0 ≤ n7) (f15 : n7 = hV H1 (n5).toNat (n6).toNat) (f16 : n8 = w32 (n4 + n7)) (f17 : n9 = 307) (f18 : n9 = hV H1 (n0).toNat 37) (f19 : n10 = 42) (f20 : n11 ≤ 1) (f21 : 0 ≤ n11) (f22 : (hLe T0 H1 H2 ∧ hFr s_216.2.2.2.2 H1 H2 ∧ ((0 : Int) = 0 → H2.length = H1.length) ∧ hWt T0 H2) ∧ postb_216 n11 n0 n10 H1 H2) (f23 : n11 = 0) (f24 : n12 = 1) (f25 : hUpd H3 H2 n9 n8 n12) (f26 : (hLe T0 H3 H4 ∧ hFr s_219.2.2.2.2 H3 H4 ∧ ((0 : Int) = 0 → H4.length = H3.length) ∧ hWt T0 H4) ∧ postb_219 n0 H3 H4) (f27 : n13 = 308) (f28 : n13 = hV H4 (n0).toNat 38) (f29 : n14 ≤ 1200) (f30 : 0 ≤ n14) (f31 : n14 = hV H4 (n0).toNat 51) (f32 : hUpd H5 H4 n13 n8 n14) (f33 : n15 ≤ 1200) (f34 : 0 ≤ n15) (f35 : n15 = hV H5 (n0).toNat 51) : 0 ≤ n8 ∧ n8 < 24 := by
  have g4 := f2.2.1.1
  unfold Ab_232_53 at g4
  have g3 := f2.2.1.2
  unfold preb_232 at g3
  unfold postb_216 at f22
  unfold postb_219 at f26
  have e1 : n3 = hV H0 285 35 := (by rw [f0] at f6; exact f6 : n3 = hV H1 285 35).trans ((f2.1.2.1.1 285 35 kF_232_285_35))
  have e2 : n6 = hV H0 285 35 := (by rw [f0] at f12; exact f12 : n6 = hV H1 285 35).trans ((f2.1.2.1.1 285 35 kF_232_285_35))
  have e3 : n7 = hV H1 306 (n6).toNat := (by rw [f8] at f15; exact f15 : n7 = hV H1 306 (n6).toNat)
  have e7 : n14 = hV H1 285 51 := (by rw [f0] at f31; exact f31 : n14 = hV H4 285 51).trans (((f26.1.2.1.1 285 51 kF_219_285_51)).trans (((uPlace f25 285 51 (iS (show n9 = ((307 : Nat) : Int) from f17) rfl))).trans (f22.1.2.1.1 285 51 kF_216_285_51)))
  have e9 : n15 = hV H1 285 51 := (by rw [f0] at f35; exact f35 : n15 = hV H5 285 51).trans (((uPlace f32 285 51 (iS (show n13 = ((308 : Nat) : Int) from f27) rfl))).trans (((f26.1.2.1.1 285 51 kF_219_285_51)).trans (((uPlace f25 285 51 (iS (show n9 = ((307 : Nat) : Int) from f17) rfl))).trans (f22.1.2.1.1 285 51 kF_216_285_51))))
  have e11 : hV H1 285 34 = hV H0 285 34 := (f2.1.2.1.1 285 34 kF_232_285_34)
  have e12 : hV H1 285 35 = hV H0 285 35 := (f2.1.2.1.1 285 35 kF_232_285_35)
  have e16 : hV H2 285 13 = hV H1 285 13 := (f22.1.2.1.1 285 13 kF_216_285_13)
  have e21 : hV H3 285 11 = hV H1 285 11 := ((uPlace f25 285 11 (iS (show n9 = ((307 : Nat) : Int) from f17) rfl))).trans (f22.1.2.1.1 285 11 kF_216_285_11)
  have e23 : hV H3 285 13 = hV H1 285 13 := ((uPlace f25 285 13 (iS (show n9 = ((307 : Nat) : Int) from f17) rfl))).trans (f22.1.2.1.1 285 13 kF_216_285_13)
  have e24 : (0 : Int) ≤ hV H1 285 11 ∧ hV H1 285 11 ≤ 500 := f2.1.2.2 285 11 _ _ kW_285_11
  have e25 : (0 : Int) ≤ hV H1 285 12 ∧ hV H1 285 12 ≤ 7 := f2.1.2.2 285 12 _ _ kW_285_12
  have e26 : (0 : Int) ≤ hV H1 285 13 ∧ hV H1 285 13 ≤ 2 := f2.1.2.2 285 13 _ _ kW_285_13
  have e27 : (0 : Int) ≤ hV H0 285 34 ∧ hV H0 285 34 ≤ 1 := bTo e11 (f2.1.2.2 285 34 _ _ kW_285_34)
  have e28 : (0 : Int) ≤ hV H0 285 35 ∧ hV H0 285 35 ≤ 1 := bTo e12 (f2.1.2.2 285 35 _ _ kW_285_35)
  have e29 : (0 : Int) ≤ hV H1 285 44 ∧ hV H1 285 44 ≤ 400 := f2.1.2.2 285 44 _ _ kW_285_44
  have e30 : (0 : Int) ≤ hV H1 285 51 ∧ hV H1 285 51 ≤ 1200 := f2.1.2.2 285 51 _ _ kW_285_51
  have e33 : (0 : Int) ≤ hV H4 285 11 ∧ hV H4 285 11 ≤ 500 := f26.1.2.2.2 285 11 _ _ kW_285_11
  have e34 : (0 : Int) ≤ hV H4 285 13 ∧ hV H4 285 13 ≤ 2 := f26.1.2.2.2 285 13 _ _ kW_285_13
  try simp only [RR]
  have y0 := g4.1
  have y1 := g4.2.1
  have y2 := g4.2.2.1
  have y3 := g4.2.2.2.1
  have y4 := g4.2.2.2.2.1
  have y5 := g4.2.2.2.2.2.1
  have y6 := g4.2.2.2.2.2.2.1
  have y7 := g4.2.2.2.2.2.2.2.1
  have y8 := g4.2.2.2.2.2.2.2.2
  have p0 := g3.1
  have p1 := g3.2.1
  have p2 := g3.2.2.1
  have p3 := g3.2.2.2.1
  have p4 := g3.2.2.2.2.1
  have p5 := g3.2.2.2.2.2.1
  have p6 := g3.2.2.2.2.2.2.1
  have p7 := g3.2.2.2.2.2.2.2
  have r0_0 := f22.2.1
  have r1_0 := f26.2.1
  have r1_1 := f26.2.2.1
  have r1_2 := f26.2.2.2.1
  have r1_3 := f26.2.2.2.2
  try simp only [RR] at y0
  try simp only [RR] at p0
  try simp only [e11, e12] at y0
  try simp only [e12] at y7
  try simp only [e16] at r0_0
  try simp only [e21] at r1_0
  try simp only [e21] at r1_1
  try simp only [e23] at r1_2
  try simp only [e21] at r1_3
  clear g3
  clear g4
  clear f6 f9 f12 f15 f18 f28 f31 f35 e11 e12 e16 e21 e23
  clear f2 f22 f26
  subst e1
  subst e2
  subst e3
  subst e7
  subst e9
  rw [f3] at f7
  first
  | (have ix0 : n4 = 12 * (hV H0 285 35) := Eq.trans f7 (w32_iv (Iml 12 rfl (Iat f5 f4)) (by decide)); subst ix0; clear f7)
  | (have ix0 : n4 = 12 * (hV H0 285 35) := Eq.trans f7 (w32_id (by omega) (by omega)); subst ix0; clear f7)
  | (unfold w32 at f7; have ix0 : n4 = 12 * (hV H0 285 35) := (by omega); subst ix0)
  | skip
  first
  | (have ix1 : n8 = (12 * (hV H0 285 35)) + hV H1 306 (hV H0 285 35).toNat := Eq.trans f16 (w32_iv (Iad (Iml 12 rfl (Iat f5 f4)) (Iat f14 f13)) (by decide)); subst ix1; clear f16)
  | (have ix1 : n8 = (12 * (hV H0 285 35)) + hV H1 306 (hV H0 285 35).toNat := Eq.trans f16 (w32_id (by omega) (by omega)); subst ix1; clear f16)
  | (unfold w32 at f16; have ix1 : n8 = (12 * (hV H0 285 35)) + hV H1 306 (hV H0 285 35).toNat := (by omega); subst ix1)
  | skip
  try unfold w32 at f7
  try unfold w32 at f16
  omega
def g_232_53_2 : vG := ([(20, [16, 1], [5], 51), (90, [16], [], 0), (91, [16], [], 1200), (80, [13, 8, 14], [5, 4], 0), (20, [14, 1], [4], 51), (90, [14], [], 0), (91, [14], [], 1200), (20, [13, 1], [4], 38), (0, [13], [], 308), (1219, [1], [3, 4], 0), (80, [9, 8, 12], [3, 2], 0), (0, [12], [], 1), (30, [11], [], 0), (1216, [11, 1, 10], [1, 2], 0), (90, [11], [], 0), (91, [11], [], 1), (0, [10], [], 42), (20, [9, 1], [1], 37), (0, [9], [], 307), (1, [8, 4, 7], [], 0), (22, [7, 5, 6], [1], 0), (90, [7], [], 0), (91, [7], [], 12), (20, [6, 1], [1], 35), (90, [6], [], 0), (91, [6], [], 1), (20, [5, 1], [1], 36), (0, [5], [], 306), (3, [4, 2, 3], [], 0), (20, [3, 1], [1], 35), (90, [3], [], 0), (91, [3], [], 1), (0, [2], [], 12), (5000, [0, 1], [0, 1], 53), (0, [0], [], 285), (0, [1], [], 285)], (70, [8], [], 24))
theorem c_232_53_2 {q0 : Nat} : vOkm T0 (eP e_232 L_232 A_232 mu_232 (some q0)) 1 g_232_53_2 := vOk_inI fun ρ η f0 f1 f2 f3 f4 f5 f6 f7 f8 f9 f10 f11 f12 f13 f14 f15 f16 f17 f18 f19 f20 f21 f22 f23 f24 f25 f26 f27 f28 f29 f30 f31 f32 f33 f34 f35 => q_232_12 (q0 := q0) (n0 := ρ 1) (n1 := ρ 0) (n2 := ρ 2) (n3 := ρ 3) (n4 := ρ 4) (n5 := ρ 5) (n6 := ρ 6) (n7 := ρ 7) (n8 := ρ 8) (n9 := ρ 9) (n10 := ρ 10) (n11 := ρ 11) (n12 := ρ 12) (n13 := ρ 13) (n14 := ρ 14) (n15 := ρ 16) (H0 := η 0) (H1 := η 1) (H2 := η 2) (H3 := η 3) (H4 := η 4) (H5 := η 5) f35 f34 f33 f32 f31 f30 f29 f28 f27 f26 f25 f24 f23 f22 f21 f20 f19 f18 f17 f16 f15 f14 f13 f12 f11 f10 f9 f8 f7 f6 f5 f4 f3 f2 f1 f0
set_option maxHeartbeats 20000000 in
theorem q_232_13 {q0 : Nat} {n0 n1 n2 n3 n4 n5 n6 n7 n8 n9 n10 n11 n12 n13 n14 n15 n16 n17 : Int} {H0 H1 H2 H3 H4 H5 H6 : gH} (f0 : n0 = 285) (f1 : n1 = 285) (f2 : (hLe T0 H0 H1 ∧ hFr s_232.2.2.2.2 H0 H1 ∧ hWt T0 H1) ∧ (Ab_232_53 n1 n0 H0 H1 ∧ preb_232 n1 H0) ∧ some q0 = some (mub_232_53 n1 n0 H0 H1)) (f3 : n2 = 12) (f4 : n3 ≤ 1) (f5 : 0 ≤ n3) (f6 : n3 = hV H1 (n0).toNat 35) (f7 : n4 = w32 (n2 * n3)) (f8 : n5 = 306) (f9 : n5 = hV H1 (n0).toNat 36) (f10 : n6 ≤ 1) (f11 : 0 ≤ n6) (f12 : n6 = hV H1 (n0).toNat 35) (f13 : n7 ≤ 12) (f14 : 0 ≤ n7) (f15 : n7 = hV H1 (n5).toNat (n6).toNat) (f16 : n8 = w32 (n4 + n7)) (f17 : n9 = 307) (f18 : n9 = hV H1 (n0).toNat 37) (f19 : n10 = 42) (f20 : n11 ≤ 1) (f21 : 0 ≤ n11) (f22 : (hLe T0 H1 H2 ∧ hFr s_216.2.2.2.2 H1 H2 ∧ ((0 : Int) = 0 → H2.length = H1.length) ∧ hWt T0 H2) ∧ postb_216 n11 n0 n10 H1 H2) (f23 : n11 = 0) (f24 : n12 = 1) (f25 : hUpd H3 H2 n9 n8 n12) (f26 : (hLe T0 H3 H4 ∧ hFr s_219.2.2.2.2 H3 H4 ∧ ((0 : Int) = 0 → H4.length = H3.length) ∧ hWt T0 H4) ∧ postb_219 n0 H3 H4) (f27 : n13 = 308) (f28 : n13 = hV H4 (n0).toNat 38) (f29 : n14 ≤ 1200) (f30 : 0 ≤ n14) (f31 : n14 = hV H4 (n0).toNat 51) (f32 : hUpd H5 H4 n13 n8 n14) (f33 : n15 = 309) (f34 : n15 = hV H5 (n0).toNat 39) (f35 : n16 ≤ 1200) (f36 : 0 ≤ n16) (f37 : n16 = hV H5 (n0).toNat 51) (f38 : hUpd H6 H5 n15 n8 n16) (f39 : n17 ≤ 400) (f40 : 0 ≤ n17) (f41 : n17 = hV H6 (n0).toNat 44) : 0 ≤ n8 ∧ n8 < 24 := by
  have g4 := f2.2.1.1
  unfold Ab_232_53 at g4
  have g3 := f2.2.1.2
  unfold preb_232 at g3
  unfold postb_216 at f22
  unfold postb_219 at f26
  have e1 : n3 = hV H0 285 35 := (by rw [f0] at f6; exact f6 : n3 = hV H1 285 35).trans ((f2.1.2.1.1 285 35 kF_232_285_35))
  have e2 : n6 = hV H0 285 35 := (by rw [f0] at f12; exact f12 : n6 = hV H1 285 35).trans ((f2.1.2.1.1 285 35 kF_232_285_35))
  have e3 : n7 = hV H1 306 (n6).toNat := (by rw [f8] at f15; exact f15 : n7 = hV H1 306 (n6).toNat)
  have e7 : n14 = hV H1 285 51 := (by rw [f0] at f31; exact f31 : n14 = hV H4 285 51).trans (((f26.1.2.1.1 285 51 kF_219_285_51)).trans (((uPlace f25 285 51 (iS (show n9 = ((307 : Nat) : Int) from f17) rfl))).trans (f22.1.2.1.1 285 51 kF_216_285_51)))
  have e9 : n16 = hV H1 285 51 := (by rw [f0] at f37; exact f37 : n16 = hV H5 285 51).trans (((uPlace f32 285 51 (iS (show n13 = ((308 : Nat) : Int) from f27) rfl))).trans (((f26.1.2.1.1 285 51 kF_219_285_51)).trans (((uPlace f25 285 51 (iS (show n9 = ((307 : Nat) : Int) from f17) rfl))).trans (f22.1.2.1.1 285 51 kF_216_285_51))))
  have e15 : n17 = hV H1 285 44 := (by rw [f0] at f41; exact f41 : n17 = hV H6 285 44).trans (((uPlace f38 285 44 (iS (show n15 = ((309 : Nat) : Int) from f33) rfl))).trans (((uPlace f32 285 44 (iS (show n13 = ((308 : Nat) : Int) from f27) rfl))).trans (((f26.1.2.1.1 285 44 kF_219_285_44)).trans (((uPlace f25 285 44 (iS (show n9 = ((307 : Nat) : Int) from f17) rfl))).trans (f22.1.2.1.1 285 44 kF_216_285_44)))))
  have e17 : hV H1 285 34 = hV H0 285 34 := (f2.1.2.1.1 285 34 kF_232_285_34)
  have e18 : hV H1 285 35 = hV H0 285 35 := (f2.1.2.1.1 285 35 kF_232_285_35)
  have e22 : hV H2 285 13 = hV H1 285 13 := (f22.1.2.1.1 285 13 kF_216_285_13)
  have e27 : hV H3 285 11 = hV H1 285 11 := ((uPlace f25 285 11 (iS (show n9 = ((307 : Nat) : Int) from f17) rfl))).trans (f22.1.2.1.1 285 11 kF_216_285_11)
  have e29 : hV H3 285 13 = hV H1 285 13 := ((uPlace f25 285 13 (iS (show n9 = ((307 : Nat) : Int) from f17) rfl))).trans (f22.1.2.1.1 285 13 kF_216_285_13)
  have e30 : (0 : Int) ≤ hV H1 285 11 ∧ hV H1 285 11 ≤ 500 := f2.1.2.2 285 11 _ _ kW_285_11
  have e31 : (0 : Int) ≤ hV H1 285 12 ∧ hV H1 285 12 ≤ 7 := f2.1.2.2 285 12 _ _ kW_285_12
  have e32 : (0 : Int) ≤ hV H1 285 13 ∧ hV H1 285 13 ≤ 2 := f2.1.2.2 285 13 _ _ kW_285_13
  have e33 : (0 : Int) ≤ hV H0 285 34 ∧ hV H0 285 34 ≤ 1 := bTo e17 (f2.1.2.2 285 34 _ _ kW_285_34)
  have e34 : (0 : Int) ≤ hV H0 285 35 ∧ hV H0 285 35 ≤ 1 := bTo e18 (f2.1.2.2 285 35 _ _ kW_285_35)
  have e35 : (0 : Int) ≤ hV H1 285 44 ∧ hV H1 285 44 ≤ 400 := f2.1.2.2 285 44 _ _ kW_285_44
  have e36 : (0 : Int) ≤ hV H1 285 51 ∧ hV H1 285 51 ≤ 1200 := f2.1.2.2 285 51 _ _ kW_285_51
  have e39 : (0 : Int) ≤ hV H4 285 11 ∧ hV H4 285 11 ≤ 500 := f26.1.2.2.2 285 11 _ _ kW_285_11
  have e40 : (0 : Int) ≤ hV H4 285 13 ∧ hV H4 285 13 ≤ 2 := f26.1.2.2.2 285 13 _ _ kW_285_13
  try simp only [RR]
  have y0 := g4.1
  have y1 := g4.2.1
  have y2 := g4.2.2.1
  have y3 := g4.2.2.2.1
  have y4 := g4.2.2.2.2.1
  have y5 := g4.2.2.2.2.2.1
  have y6 := g4.2.2.2.2.2.2.1
  have y7 := g4.2.2.2.2.2.2.2.1
  have y8 := g4.2.2.2.2.2.2.2.2
  have p0 := g3.1
  have p1 := g3.2.1
  have p2 := g3.2.2.1
  have p3 := g3.2.2.2.1
  have p4 := g3.2.2.2.2.1
  have p5 := g3.2.2.2.2.2.1
  have p6 := g3.2.2.2.2.2.2.1
  have p7 := g3.2.2.2.2.2.2.2
  have r0_0 := f22.2.1
  have r1_0 := f26.2.1
  have r1_1 := f26.2.2.1
  have r1_2 := f26.2.2.2.1
  have r1_3 := f26.2.2.2.2
  try simp only [RR] at y0
  try simp only [RR] at p0
  try simp only [e17, e18] at y0
  try simp only [e18] at y7
  try simp only [e22] at r0_0
  try simp only [e27] at r1_0
  try simp only [e27] at r1_1
  try simp only [e29] at r1_2
  try simp only [e27] at r1_3
  clear g3
  clear g4
  clear f6 f9 f12 f15 f18 f28 f31 f34 f37 f41 e17 e18 e22 e27 e29
  clear f2 f22 f26
  subst e1
  subst e2
  subst e3
  subst e7
  subst e9
  subst e15
  rw [f3] at f7
  first
  | (have ix0 : n4 = 12 * (hV H0 285 35) := Eq.trans f7 (w32_iv (Iml 12 rfl (Iat f5 f4)) (by decide)); subst ix0; clear f7)
  | (have ix0 : n4 = 12 * (hV H0 285 35) := Eq.trans f7 (w32_id (by omega) (by omega)); subst ix0; clear f7)
  | (unfold w32 at f7; have ix0 : n4 = 12 * (hV H0 285 35) := (by omega); subst ix0)
  | skip
  first
  | (have ix1 : n8 = (12 * (hV H0 285 35)) + hV H1 306 (hV H0 285 35).toNat := Eq.trans f16 (w32_iv (Iad (Iml 12 rfl (Iat f5 f4)) (Iat f14 f13)) (by decide)); subst ix1; clear f16)
  | (have ix1 : n8 = (12 * (hV H0 285 35)) + hV H1 306 (hV H0 285 35).toNat := Eq.trans f16 (w32_id (by omega) (by omega)); subst ix1; clear f16)
  | (unfold w32 at f16; have ix1 : n8 = (12 * (hV H0 285 35)) + hV H1 306 (hV H0 285 35).toNat := (by omega); subst ix1)
  | skip
  try unfold w32 at f7
  try unfold w32 at f16
  omega
def g_232_53_3 : vG := ([(20, [18, 1], [6], 44), (90, [18], [], 0), (91, [18], [], 400), (80, [15, 8, 16], [6, 5], 0), (20, [16, 1], [5], 51), (90, [16], [], 0), (91, [16], [], 1200), (20, [15, 1], [5], 39), (0, [15], [], 309), (80, [13, 8, 14], [5, 4], 0), (20, [14, 1], [4], 51), (90, [14], [], 0), (91, [14], [], 1200), (20, [13, 1], [4], 38), (0, [13], [], 308), (1219, [1], [3, 4], 0), (80, [9, 8, 12], [3, 2], 0), (0, [12], [], 1), (30, [11], [], 0), (1216, [11, 1, 10], [1, 2], 0), (90, [11], [], 0), (91, [11], [], 1), (0, [10], [], 42), (20, [9, 1], [1], 37), (0, [9], [], 307), (1, [8, 4, 7], [], 0), (22, [7, 5, 6], [1], 0), (90, [7], [], 0), (91, [7], [], 12), (20, [6, 1], [1], 35), (90, [6], [], 0), (91, [6], [], 1), (20, [5, 1], [1], 36), (0, [5], [], 306), (3, [4, 2, 3], [], 0), (20, [3, 1], [1], 35), (90, [3], [], 0), (91, [3], [], 1), (0, [2], [], 12), (5000, [0, 1], [0, 1], 53), (0, [0], [], 285), (0, [1], [], 285)], (70, [8], [], 24))
theorem c_232_53_3 {q0 : Nat} : vOkm T0 (eP e_232 L_232 A_232 mu_232 (some q0)) 1 g_232_53_3 := vOk_inI fun ρ η f0 f1 f2 f3 f4 f5 f6 f7 f8 f9 f10 f11 f12 f13 f14 f15 f16 f17 f18 f19 f20 f21 f22 f23 f24 f25 f26 f27 f28 f29 f30 f31 f32 f33 f34 f35 f36 f37 f38 f39 f40 f41 => q_232_13 (q0 := q0) (n0 := ρ 1) (n1 := ρ 0) (n2 := ρ 2) (n3 := ρ 3) (n4 := ρ 4) (n5 := ρ 5) (n6 := ρ 6) (n7 := ρ 7) (n8 := ρ 8) (n9 := ρ 9) (n10 := ρ 10) (n11 := ρ 11) (n12 := ρ 12) (n13 := ρ 13) (n14 := ρ 14) (n15 := ρ 15) (n16 := ρ 16) (n17 := ρ 18) (H0 := η 0) (H1 := η 1) (H2 := η 2) (H3 := η 3) (H4 := η 4) (H5 := η 5) (H6 := η 6) f41 f40 f39 f38 f37 f36 f35 f34 f33 f32 f31 f30 f29 f28 f27 f26 f25 f24 f23 f22 f21 f20 f19 f18 f17 f16 f15 f14 f13 f12 f11 f10 f9 f8 f7 f6 f5 f4 f3 f2 f1 f0
set_option maxHeartbeats 20000000 in
theorem q_232_14 {q0 : Nat} {n0 n1 n2 n3 n4 n5 n6 n7 n8 n9 n10 n11 n12 n13 n14 n15 n16 n17 : Int} {H0 H1 H2 H3 H4 H5 H6 : gH} (f0 : n0 = 285) (f1 : n1 = 285) (f2 : (hLe T0 H0 H1 ∧ hFr s_232.2.2.2.2 H0 H1 ∧ hWt T0 H1) ∧ (Ab_232_53 n1 n0 H0 H1 ∧ preb_232 n1 H0) ∧ some q0 = some (mub_232_53 n1 n0 H0 H1)) (f3 : n2 = 12) (f4 : n3 ≤ 1) (f5 : 0 ≤ n3) (f6 : n3 = hV H1 (n0).toNat 35) (f7 : n4 = w32 (n2 * n3)) (f8 : n5 = 306) (f9 : n5 = hV H1 (n0).toNat 36) (f10 : n6 ≤ 1) (f11 : 0 ≤ n6) (f12 : n6 = hV H1 (n0).toNat 35) (f13 : n7 ≤ 12) (f14 : 0 ≤ n7) (f15 : n7 = hV H1 (n5).toNat (n6).toNat) (f16 : n8 = w32 (n4 + n7)) (f17 : n9 = 307) (f18 : n9 = hV H1 (n0).toNat 37) (f19 : n10 = 42) (f20 : n11 ≤ 1) (f21 : 0 ≤ n11) (f22 : (hLe T0 H1 H2 ∧ hFr s_216.2.2.2.2 H1 H2 ∧ ((0 : Int) = 0 → H2.length = H1.length) ∧ hWt T0 H2) ∧ postb_216 n11 n0 n10 H1 H2) (f23 : n11 = 0) (f24 : n12 = 1) (f25 : hUpd H3 H2 n9 n8 n12) (f26 : (hLe T0 H3 H4 ∧ hFr s_219.2.2.2.2 H3 H4 ∧ ((0 : Int) = 0 → H4.length = H3.length) ∧ hWt T0 H4) ∧ postb_219 n0 H3 H4) (f27 : n13 = 308) (f28 : n13 = hV H4 (n0).toNat 38) (f29 : n14 ≤ 1200) (f30 : 0 ≤ n14) (f31 : n14 = hV H4 (n0).toNat 51) (f32 : hUpd H5 H4 n13 n8 n14) (f33 : n15 = 309) (f34 : n15 = hV H5 (n0).toNat 39) (f35 : n16 ≤ 1200) (f36 : 0 ≤ n16) (f37 : n16 = hV H5 (n0).toNat 51) (f38 : hUpd H6 H5 n15 n8 n16) (f39 : n17 ≤ 400) (f40 : 0 ≤ n17) (f41 : n17 = hV H6 (n0).toNat 44) : 0 ≤ n8 := by
  have g4 := f2.2.1.1
  unfold Ab_232_53 at g4
  have g3 := f2.2.1.2
  unfold preb_232 at g3
  unfold postb_216 at f22
  unfold postb_219 at f26
  have e1 : n3 = hV H0 285 35 := (by rw [f0] at f6; exact f6 : n3 = hV H1 285 35).trans ((f2.1.2.1.1 285 35 kF_232_285_35))
  have e2 : n6 = hV H0 285 35 := (by rw [f0] at f12; exact f12 : n6 = hV H1 285 35).trans ((f2.1.2.1.1 285 35 kF_232_285_35))
  have e3 : n7 = hV H1 306 (n6).toNat := (by rw [f8] at f15; exact f15 : n7 = hV H1 306 (n6).toNat)
  have e7 : n14 = hV H1 285 51 := (by rw [f0] at f31; exact f31 : n14 = hV H4 285 51).trans (((f26.1.2.1.1 285 51 kF_219_285_51)).trans (((uPlace f25 285 51 (iS (show n9 = ((307 : Nat) : Int) from f17) rfl))).trans (f22.1.2.1.1 285 51 kF_216_285_51)))
  have e9 : n16 = hV H1 285 51 := (by rw [f0] at f37; exact f37 : n16 = hV H5 285 51).trans (((uPlace f32 285 51 (iS (show n13 = ((308 : Nat) : Int) from f27) rfl))).trans (((f26.1.2.1.1 285 51 kF_219_285_51)).trans (((uPlace f25 285 51 (iS (show n9 = ((307 : Nat) : Int) from f17) rfl))).trans (f22.1.2.1.1 285 51 kF_216_285_51))))
  have e15 : n17 = hV H1 285 44 := (by rw [f0] at f41; exact f41 : n17 = hV H6 285 44).trans (((uPlace f38 285 44 (iS (show n15 = ((309 : Nat) : Int) from f33) rfl))).trans (((uPlace f32 285 44 (iS (show n13 = ((308 : Nat) : Int) from f27) rfl))).trans (((f26.1.2.1.1 285 44 kF_219_285_44)).trans (((uPlace f25 285 44 (iS (show n9 = ((307 : Nat) : Int) from f17) rfl))).trans (f22.1.2.1.1 285 44 kF_216_285_44)))))
  have e17 : hV H1 285 34 = hV H0 285 34 := (f2.1.2.1.1 285 34 kF_232_285_34)
  have e18 : hV H1 285 35 = hV H0 285 35 := (f2.1.2.1.1 285 35 kF_232_285_35)
  have e22 : hV H2 285 13 = hV H1 285 13 := (f22.1.2.1.1 285 13 kF_216_285_13)
  have e27 : hV H3 285 11 = hV H1 285 11 := ((uPlace f25 285 11 (iS (show n9 = ((307 : Nat) : Int) from f17) rfl))).trans (f22.1.2.1.1 285 11 kF_216_285_11)
  have e29 : hV H3 285 13 = hV H1 285 13 := ((uPlace f25 285 13 (iS (show n9 = ((307 : Nat) : Int) from f17) rfl))).trans (f22.1.2.1.1 285 13 kF_216_285_13)
  have e30 : (0 : Int) ≤ hV H1 285 11 ∧ hV H1 285 11 ≤ 500 := f2.1.2.2 285 11 _ _ kW_285_11
  have e31 : (0 : Int) ≤ hV H1 285 12 ∧ hV H1 285 12 ≤ 7 := f2.1.2.2 285 12 _ _ kW_285_12
  have e32 : (0 : Int) ≤ hV H1 285 13 ∧ hV H1 285 13 ≤ 2 := f2.1.2.2 285 13 _ _ kW_285_13
  have e33 : (0 : Int) ≤ hV H0 285 34 ∧ hV H0 285 34 ≤ 1 := bTo e17 (f2.1.2.2 285 34 _ _ kW_285_34)
  have e34 : (0 : Int) ≤ hV H0 285 35 ∧ hV H0 285 35 ≤ 1 := bTo e18 (f2.1.2.2 285 35 _ _ kW_285_35)
  have e35 : (0 : Int) ≤ hV H1 285 44 ∧ hV H1 285 44 ≤ 400 := f2.1.2.2 285 44 _ _ kW_285_44
  have e36 : (0 : Int) ≤ hV H1 285 51 ∧ hV H1 285 51 ≤ 1200 := f2.1.2.2 285 51 _ _ kW_285_51
  have e39 : (0 : Int) ≤ hV H4 285 11 ∧ hV H4 285 11 ≤ 500 := f26.1.2.2.2 285 11 _ _ kW_285_11
  have e40 : (0 : Int) ≤ hV H4 285 13 ∧ hV H4 285 13 ≤ 2 := f26.1.2.2.2 285 13 _ _ kW_285_13
  try simp only [RR]
  have y0 := g4.1
  have y1 := g4.2.1
  have y2 := g4.2.2.1
  have y3 := g4.2.2.2.1
  have y4 := g4.2.2.2.2.1
  have y5 := g4.2.2.2.2.2.1
  have y6 := g4.2.2.2.2.2.2.1
  have y7 := g4.2.2.2.2.2.2.2.1
  have y8 := g4.2.2.2.2.2.2.2.2
  have p0 := g3.1
  have p1 := g3.2.1
  have p2 := g3.2.2.1
  have p3 := g3.2.2.2.1
  have p4 := g3.2.2.2.2.1
  have p5 := g3.2.2.2.2.2.1
  have p6 := g3.2.2.2.2.2.2.1
  have p7 := g3.2.2.2.2.2.2.2
  have r0_0 := f22.2.1
  have r1_0 := f26.2.1
  have r1_1 := f26.2.2.1
  have r1_2 := f26.2.2.2.1
  have r1_3 := f26.2.2.2.2
  try simp only [RR] at y0
  try simp only [RR] at p0
  try simp only [e17, e18] at y0
  try simp only [e18] at y7
  try simp only [e22] at r0_0
  try simp only [e27] at r1_0
  try simp only [e27] at r1_1
  try simp only [e29] at r1_2
  try simp only [e27] at r1_3
  clear g3
  clear g4
  clear f6 f9 f12 f15 f18 f28 f31 f34 f37 f41 e17 e18 e22 e27 e29
  clear f2 f22 f26
  subst e1
  subst e2
  subst e3
  subst e7
  subst e9
  subst e15
  rw [f3] at f7
  first
  | (have ix0 : n4 = 12 * (hV H0 285 35) := Eq.trans f7 (w32_iv (Iml 12 rfl (Iat f5 f4)) (by decide)); subst ix0; clear f7)
  | (have ix0 : n4 = 12 * (hV H0 285 35) := Eq.trans f7 (w32_id (by omega) (by omega)); subst ix0; clear f7)
  | (unfold w32 at f7; have ix0 : n4 = 12 * (hV H0 285 35) := (by omega); subst ix0)
  | skip
  first
  | (have ix1 : n8 = (12 * (hV H0 285 35)) + hV H1 306 (hV H0 285 35).toNat := Eq.trans f16 (w32_iv (Iad (Iml 12 rfl (Iat f5 f4)) (Iat f14 f13)) (by decide)); subst ix1; clear f16)
  | (have ix1 : n8 = (12 * (hV H0 285 35)) + hV H1 306 (hV H0 285 35).toNat := Eq.trans f16 (w32_id (by omega) (by omega)); subst ix1; clear f16)
  | (unfold w32 at f16; have ix1 : n8 = (12 * (hV H0 285 35)) + hV H1 306 (hV H0 285 35).toNat := (by omega); subst ix1)
  | skip
  try unfold w32 at f7
  try unfold w32 at f16
  omega
def g_232_53_4 : vG := ([(20, [18, 1], [6], 44), (90, [18], [], 0), (91, [18], [], 400), (80, [15, 8, 16], [6, 5], 0), (20, [16, 1], [5], 51), (90, [16], [], 0), (91, [16], [], 1200), (20, [15, 1], [5], 39), (0, [15], [], 309), (80, [13, 8, 14], [5, 4], 0), (20, [14, 1], [4], 51), (90, [14], [], 0), (91, [14], [], 1200), (20, [13, 1], [4], 38), (0, [13], [], 308), (1219, [1], [3, 4], 0), (80, [9, 8, 12], [3, 2], 0), (0, [12], [], 1), (30, [11], [], 0), (1216, [11, 1, 10], [1, 2], 0), (90, [11], [], 0), (91, [11], [], 1), (0, [10], [], 42), (20, [9, 1], [1], 37), (0, [9], [], 307), (1, [8, 4, 7], [], 0), (22, [7, 5, 6], [1], 0), (90, [7], [], 0), (91, [7], [], 12), (20, [6, 1], [1], 35), (90, [6], [], 0), (91, [6], [], 1), (20, [5, 1], [1], 36), (0, [5], [], 306), (3, [4, 2, 3], [], 0), (20, [3, 1], [1], 35), (90, [3], [], 0), (91, [3], [], 1), (0, [2], [], 12), (5000, [0, 1], [0, 1], 53), (0, [0], [], 285), (0, [1], [], 285)], (90, [8], [], 0))
theorem c_232_53_4 {q0 : Nat} : vOkm T0 (eP e_232 L_232 A_232 mu_232 (some q0)) 1 g_232_53_4 := vOk_inI fun ρ η f0 f1 f2 f3 f4 f5 f6 f7 f8 f9 f10 f11 f12 f13 f14 f15 f16 f17 f18 f19 f20 f21 f22 f23 f24 f25 f26 f27 f28 f29 f30 f31 f32 f33 f34 f35 f36 f37 f38 f39 f40 f41 => q_232_14 (q0 := q0) (n0 := ρ 1) (n1 := ρ 0) (n2 := ρ 2) (n3 := ρ 3) (n4 := ρ 4) (n5 := ρ 5) (n6 := ρ 6) (n7 := ρ 7) (n8 := ρ 8) (n9 := ρ 9) (n10 := ρ 10) (n11 := ρ 11) (n12 := ρ 12) (n13 := ρ 13) (n14 := ρ 14) (n15 := ρ 15) (n16 := ρ 16) (n17 := ρ 18) (H0 := η 0) (H1 := η 1) (H2 := η 2) (H3 := η 3) (H4 := η 4) (H5 := η 5) (H6 := η 6) f41 f40 f39 f38 f37 f36 f35 f34 f33 f32 f31 f30 f29 f28 f27 f26 f25 f24 f23 f22 f21 f20 f19 f18 f17 f16 f15 f14 f13 f12 f11 f10 f9 f8 f7 f6 f5 f4 f3 f2 f1 f0
set_option maxHeartbeats 20000000 in
theorem q_232_15 {q0 : Nat} {n0 n1 n2 n3 n4 n5 n6 n7 n8 n9 n10 n11 n12 n13 n14 n15 n16 n17 : Int} {H0 H1 H2 H3 H4 H5 H6 : gH} (f0 : n0 = 285) (f1 : n1 = 285) (f2 : (hLe T0 H0 H1 ∧ hFr s_232.2.2.2.2 H0 H1 ∧ hWt T0 H1) ∧ (Ab_232_53 n1 n0 H0 H1 ∧ preb_232 n1 H0) ∧ some q0 = some (mub_232_53 n1 n0 H0 H1)) (f3 : n2 = 12) (f4 : n3 ≤ 1) (f5 : 0 ≤ n3) (f6 : n3 = hV H1 (n0).toNat 35) (f7 : n4 = w32 (n2 * n3)) (f8 : n5 = 306) (f9 : n5 = hV H1 (n0).toNat 36) (f10 : n6 ≤ 1) (f11 : 0 ≤ n6) (f12 : n6 = hV H1 (n0).toNat 35) (f13 : n7 ≤ 12) (f14 : 0 ≤ n7) (f15 : n7 = hV H1 (n5).toNat (n6).toNat) (f16 : n8 = w32 (n4 + n7)) (f17 : n9 = 307) (f18 : n9 = hV H1 (n0).toNat 37) (f19 : n10 = 42) (f20 : n11 ≤ 1) (f21 : 0 ≤ n11) (f22 : (hLe T0 H1 H2 ∧ hFr s_216.2.2.2.2 H1 H2 ∧ ((0 : Int) = 0 → H2.length = H1.length) ∧ hWt T0 H2) ∧ postb_216 n11 n0 n10 H1 H2) (f23 : n11 = 0) (f24 : n12 = 1) (f25 : hUpd H3 H2 n9 n8 n12) (f26 : (hLe T0 H3 H4 ∧ hFr s_219.2.2.2.2 H3 H4 ∧ ((0 : Int) = 0 → H4.length = H3.length) ∧ hWt T0 H4) ∧ postb_219 n0 H3 H4) (f27 : n13 = 308) (f28 : n13 = hV H4 (n0).toNat 38) (f29 : n14 ≤ 1200) (f30 : 0 ≤ n14) (f31 : n14 = hV H4 (n0).toNat 51) (f32 : hUpd H5 H4 n13 n8 n14) (f33 : n15 = 309) (f34 : n15 = hV H5 (n0).toNat 39) (f35 : n16 ≤ 1200) (f36 : 0 ≤ n16) (f37 : n16 = hV H5 (n0).toNat 51) (f38 : hUpd H6 H5 n15 n8 n16) (f39 : n17 ≤ 400) (f40 : 0 ≤ n17) (f41 : n17 = hV H6 (n0).toNat 44) : n8 ≤ 23 := by
  have g4 := f2.2.1.1
  unfold Ab_232_53 at g4
  have g3 := f2.2.1.2
  unfold preb_232 at g3
  unfold postb_216 at f22
  unfold postb_219 at f26
  have e1 : n3 = hV H0 285 35 := (by rw [f0] at f6; exact f6 : n3 = hV H1 285 35).trans ((f2.1.2.1.1 285 35 kF_232_285_35))
  have e2 : n6 = hV H0 285 35 := (by rw [f0] at f12; exact f12 : n6 = hV H1 285 35).trans ((f2.1.2.1.1 285 35 kF_232_285_35))
  have e3 : n7 = hV H1 306 (n6).toNat := (by rw [f8] at f15; exact f15 : n7 = hV H1 306 (n6).toNat)
  have e7 : n14 = hV H1 285 51 := (by rw [f0] at f31; exact f31 : n14 = hV H4 285 51).trans (((f26.1.2.1.1 285 51 kF_219_285_51)).trans (((uPlace f25 285 51 (iS (show n9 = ((307 : Nat) : Int) from f17) rfl))).trans (f22.1.2.1.1 285 51 kF_216_285_51)))
  have e9 : n16 = hV H1 285 51 := (by rw [f0] at f37; exact f37 : n16 = hV H5 285 51).trans (((uPlace f32 285 51 (iS (show n13 = ((308 : Nat) : Int) from f27) rfl))).trans (((f26.1.2.1.1 285 51 kF_219_285_51)).trans (((uPlace f25 285 51 (iS (show n9 = ((307 : Nat) : Int) from f17) rfl))).trans (f22.1.2.1.1 285 51 kF_216_285_51))))
  have e15 : n17 = hV H1 285 44 := (by rw [f0] at f41; exact f41 : n17 = hV H6 285 44).trans (((uPlace f38 285 44 (iS (show n15 = ((309 : Nat) : Int) from f33) rfl))).trans (((uPlace f32 285 44 (iS (show n13 = ((308 : Nat) : Int) from f27) rfl))).trans (((f26.1.2.1.1 285 44 kF_219_285_44)).trans (((uPlace f25 285 44 (iS (show n9 = ((307 : Nat) : Int) from f17) rfl))).trans (f22.1.2.1.1 285 44 kF_216_285_44)))))
  have e17 : hV H1 285 34 = hV H0 285 34 := (f2.1.2.1.1 285 34 kF_232_285_34)
  have e18 : hV H1 285 35 = hV H0 285 35 := (f2.1.2.1.1 285 35 kF_232_285_35)
  have e22 : hV H2 285 13 = hV H1 285 13 := (f22.1.2.1.1 285 13 kF_216_285_13)
  have e27 : hV H3 285 11 = hV H1 285 11 := ((uPlace f25 285 11 (iS (show n9 = ((307 : Nat) : Int) from f17) rfl))).trans (f22.1.2.1.1 285 11 kF_216_285_11)
  have e29 : hV H3 285 13 = hV H1 285 13 := ((uPlace f25 285 13 (iS (show n9 = ((307 : Nat) : Int) from f17) rfl))).trans (f22.1.2.1.1 285 13 kF_216_285_13)
  have e30 : (0 : Int) ≤ hV H1 285 11 ∧ hV H1 285 11 ≤ 500 := f2.1.2.2 285 11 _ _ kW_285_11
  have e31 : (0 : Int) ≤ hV H1 285 12 ∧ hV H1 285 12 ≤ 7 := f2.1.2.2 285 12 _ _ kW_285_12
  have e32 : (0 : Int) ≤ hV H1 285 13 ∧ hV H1 285 13 ≤ 2 := f2.1.2.2 285 13 _ _ kW_285_13
  have e33 : (0 : Int) ≤ hV H0 285 34 ∧ hV H0 285 34 ≤ 1 := bTo e17 (f2.1.2.2 285 34 _ _ kW_285_34)
  have e34 : (0 : Int) ≤ hV H0 285 35 ∧ hV H0 285 35 ≤ 1 := bTo e18 (f2.1.2.2 285 35 _ _ kW_285_35)
  have e35 : (0 : Int) ≤ hV H1 285 44 ∧ hV H1 285 44 ≤ 400 := f2.1.2.2 285 44 _ _ kW_285_44
  have e36 : (0 : Int) ≤ hV H1 285 51 ∧ hV H1 285 51 ≤ 1200 := f2.1.2.2 285 51 _ _ kW_285_51
  have e39 : (0 : Int) ≤ hV H4 285 11 ∧ hV H4 285 11 ≤ 500 := f26.1.2.2.2 285 11 _ _ kW_285_11
  have e40 : (0 : Int) ≤ hV H4 285 13 ∧ hV H4 285 13 ≤ 2 := f26.1.2.2.2 285 13 _ _ kW_285_13
  try simp only [RR]
  have y0 := g4.1
  have y1 := g4.2.1
  have y2 := g4.2.2.1
  have y3 := g4.2.2.2.1
  have y4 := g4.2.2.2.2.1
  have y5 := g4.2.2.2.2.2.1
  have y6 := g4.2.2.2.2.2.2.1
  have y7 := g4.2.2.2.2.2.2.2.1
  have y8 := g4.2.2.2.2.2.2.2.2
  have p0 := g3.1
  have p1 := g3.2.1
  have p2 := g3.2.2.1
  have p3 := g3.2.2.2.1
  have p4 := g3.2.2.2.2.1
  have p5 := g3.2.2.2.2.2.1
  have p6 := g3.2.2.2.2.2.2.1
  have p7 := g3.2.2.2.2.2.2.2
  have r0_0 := f22.2.1
  have r1_0 := f26.2.1
  have r1_1 := f26.2.2.1
  have r1_2 := f26.2.2.2.1
  have r1_3 := f26.2.2.2.2
  try simp only [RR] at y0
  try simp only [RR] at p0
  try simp only [e17, e18] at y0
  try simp only [e18] at y7
  try simp only [e22] at r0_0
  try simp only [e27] at r1_0
  try simp only [e27] at r1_1
  try simp only [e29] at r1_2
  try simp only [e27] at r1_3
  clear g3
  clear g4
  clear f6 f9 f12 f15 f18 f28 f31 f34 f37 f41 e17 e18 e22 e27 e29
  clear f2 f22 f26
  subst e1
  subst e2
  subst e3
  subst e7
  subst e9
  subst e15
  rw [f3] at f7
  first
  | (have ix0 : n4 = 12 * (hV H0 285 35) := Eq.trans f7 (w32_iv (Iml 12 rfl (Iat f5 f4)) (by decide)); subst ix0; clear f7)
  | (have ix0 : n4 = 12 * (hV H0 285 35) := Eq.trans f7 (w32_id (by omega) (by omega)); subst ix0; clear f7)
  | (unfold w32 at f7; have ix0 : n4 = 12 * (hV H0 285 35) := (by omega); subst ix0)
  | skip
  first
  | (have ix1 : n8 = (12 * (hV H0 285 35)) + hV H1 306 (hV H0 285 35).toNat := Eq.trans f16 (w32_iv (Iad (Iml 12 rfl (Iat f5 f4)) (Iat f14 f13)) (by decide)); subst ix1; clear f16)
  | (have ix1 : n8 = (12 * (hV H0 285 35)) + hV H1 306 (hV H0 285 35).toNat := Eq.trans f16 (w32_id (by omega) (by omega)); subst ix1; clear f16)
  | (unfold w32 at f16; have ix1 : n8 = (12 * (hV H0 285 35)) + hV H1 306 (hV H0 285 35).toNat := (by omega); subst ix1)
  | skip
  try unfold w32 at f7
  try unfold w32 at f16
  omega
def g_232_53_5 : vG := ([(20, [18, 1], [6], 44), (90, [18], [], 0), (91, [18], [], 400), (80, [15, 8, 16], [6, 5], 0), (20, [16, 1], [5], 51), (90, [16], [], 0), (91, [16], [], 1200), (20, [15, 1], [5], 39), (0, [15], [], 309), (80, [13, 8, 14], [5, 4], 0), (20, [14, 1], [4], 51), (90, [14], [], 0), (91, [14], [], 1200), (20, [13, 1], [4], 38), (0, [13], [], 308), (1219, [1], [3, 4], 0), (80, [9, 8, 12], [3, 2], 0), (0, [12], [], 1), (30, [11], [], 0), (1216, [11, 1, 10], [1, 2], 0), (90, [11], [], 0), (91, [11], [], 1), (0, [10], [], 42), (20, [9, 1], [1], 37), (0, [9], [], 307), (1, [8, 4, 7], [], 0), (22, [7, 5, 6], [1], 0), (90, [7], [], 0), (91, [7], [], 12), (20, [6, 1], [1], 35), (90, [6], [], 0), (91, [6], [], 1), (20, [5, 1], [1], 36), (0, [5], [], 306), (3, [4, 2, 3], [], 0), (20, [3, 1], [1], 35), (90, [3], [], 0), (91, [3], [], 1), (0, [2], [], 12), (5000, [0, 1], [0, 1], 53), (0, [0], [], 285), (0, [1], [], 285)], (91, [8], [], 23))
theorem c_232_53_5 {q0 : Nat} : vOkm T0 (eP e_232 L_232 A_232 mu_232 (some q0)) 1 g_232_53_5 := vOk_inI fun ρ η f0 f1 f2 f3 f4 f5 f6 f7 f8 f9 f10 f11 f12 f13 f14 f15 f16 f17 f18 f19 f20 f21 f22 f23 f24 f25 f26 f27 f28 f29 f30 f31 f32 f33 f34 f35 f36 f37 f38 f39 f40 f41 => q_232_15 (q0 := q0) (n0 := ρ 1) (n1 := ρ 0) (n2 := ρ 2) (n3 := ρ 3) (n4 := ρ 4) (n5 := ρ 5) (n6 := ρ 6) (n7 := ρ 7) (n8 := ρ 8) (n9 := ρ 9) (n10 := ρ 10) (n11 := ρ 11) (n12 := ρ 12) (n13 := ρ 13) (n14 := ρ 14) (n15 := ρ 15) (n16 := ρ 16) (n17 := ρ 18) (H0 := η 0) (H1 := η 1) (H2 := η 2) (H3 := η 3) (H4 := η 4) (H5 := η 5) (H6 := η 6) f41 f40 f39 f38 f37 f36 f35 f34 f33 f32 f31 f30 f29 f28 f27 f26 f25 f24 f23 f22 f21 f20 f19 f18 f17 f16 f15 f14 f13 f12 f11 f10 f9 f8 f7 f6 f5 f4 f3 f2 f1 f0
set_option maxHeartbeats 20000000 in
theorem q_232_16 {q0 : Nat} {n0 n1 n2 n3 n4 n5 n6 n7 n8 n9 n10 n11 n12 n13 n14 n15 n16 n17 n18 : Int} {H0 H1 H2 H3 H4 H5 H6 H7 : gH} (f0 : n0 = 285) (f1 : n1 = 285) (f2 : (hLe T0 H0 H1 ∧ hFr s_232.2.2.2.2 H0 H1 ∧ hWt T0 H1) ∧ (Ab_232_53 n1 n0 H0 H1 ∧ preb_232 n1 H0) ∧ some q0 = some (mub_232_53 n1 n0 H0 H1)) (f3 : n2 = 12) (f4 : n3 ≤ 1) (f5 : 0 ≤ n3) (f6 : n3 = hV H1 (n0).toNat 35) (f7 : n4 = w32 (n2 * n3)) (f8 : n5 = 306) (f9 : n5 = hV H1 (n0).toNat 36) (f10 : n6 ≤ 1) (f11 : 0 ≤ n6) (f12 : n6 = hV H1 (n0).toNat 35) (f13 : n7 ≤ 12) (f14 : 0 ≤ n7) (f15 : n7 = hV H1 (n5).toNat (n6).toNat) (f16 : n8 = w32 (n4 + n7)) (f17 : n9 = 307) (f18 : n9 = hV H1 (n0).toNat 37) (f19 : n10 = 42) (f20 : n11 ≤ 1) (f21 : 0 ≤ n11) (f22 : (hLe T0 H1 H2 ∧ hFr s_216.2.2.2.2 H1 H2 ∧ ((0 : Int) = 0 → H2.length = H1.length) ∧ hWt T0 H2) ∧ postb_216 n11 n0 n10 H1 H2) (f23 : n11 = 0) (f24 : n12 = 1) (f25 : hUpd H3 H2 n9 n8 n12) (f26 : (hLe T0 H3 H4 ∧ hFr s_219.2.2.2.2 H3 H4 ∧ ((0 : Int) = 0 → H4.length = H3.length) ∧ hWt T0 H4) ∧ postb_219 n0 H3 H4) (f27 : n13 = 308) (f28 : n13 = hV H4 (n0).toNat 38) (f29 : n14 ≤ 1200) (f30 : 0 ≤ n14) (f31 : n14 = hV H4 (n0).toNat 51) (f32 : hUpd H5 H4 n13 n8 n14) (f33 : n15 = 309) (f34 : n15 = hV H5 (n0).toNat 39) (f35 : n16 ≤ 1200) (f36 : 0 ≤ n16) (f37 : n16 = hV H5 (n0).toNat 51) (f38 : hUpd H6 H5 n15 n8 n16) (f39 : n17 = 310) (f40 : n17 = hV H6 (n0).toNat 40) (f41 : n18 ≤ 400) (f42 : 0 ≤ n18) (f43 : n18 = hV H6 (n0).toNat 44) (f44 : hUpd H7 H6 n17 n8 n18) : Ab_232_125 n1 n0 n8 H0 H7 ∧ ∀ q, some q0 = some q → mub_232_125 n1 n0 n8 H0 H7 < q := by
  have g4 := f2.2.1.1
  unfold Ab_232_53 at g4
  have g3 := f2.2.1.2
  unfold preb_232 at g3
  have g5 := Option.some.inj f2.2.2
  unfold mub_232_53 at g5
  unfold postb_216 at f22
  unfold postb_219 at f26
  unfold Ab_232_125
  unfold mub_232_125
  have e1 : n3 = hV H0 285 35 := (by rw [f0] at f6; exact f6 : n3 = hV H1 285 35).trans ((f2.1.2.1.1 285 35 kF_232_285_35))
  have e2 : n6 = hV H0 285 35 := (by rw [f0] at f12; exact f12 : n6 = hV H1 285 35).trans ((f2.1.2.1.1 285 35 kF_232_285_35))
  have e3 : n7 = hV H1 306 (n6).toNat := (by rw [f8] at f15; exact f15 : n7 = hV H1 306 (n6).toNat)
  have e7 : n14 = hV H1 285 51 := (by rw [f0] at f31; exact f31 : n14 = hV H4 285 51).trans (((f26.1.2.1.1 285 51 kF_219_285_51)).trans (((uPlace f25 285 51 (iS (show n9 = ((307 : Nat) : Int) from f17) rfl))).trans (f22.1.2.1.1 285 51 kF_216_285_51)))
  have e9 : n16 = hV H1 285 51 := (by rw [f0] at f37; exact f37 : n16 = hV H5 285 51).trans (((uPlace f32 285 51 (iS (show n13 = ((308 : Nat) : Int) from f27) rfl))).trans (((f26.1.2.1.1 285 51 kF_219_285_51)).trans (((uPlace f25 285 51 (iS (show n9 = ((307 : Nat) : Int) from f17) rfl))).trans (f22.1.2.1.1 285 51 kF_216_285_51))))
  have e15 : n18 = hV H1 285 44 := (by rw [f0] at f43; exact f43 : n18 = hV H6 285 44).trans (((uPlace f38 285 44 (iS (show n15 = ((309 : Nat) : Int) from f33) rfl))).trans (((uPlace f32 285 44 (iS (show n13 = ((308 : Nat) : Int) from f27) rfl))).trans (((f26.1.2.1.1 285 44 kF_219_285_44)).trans (((uPlace f25 285 44 (iS (show n9 = ((307 : Nat) : Int) from f17) rfl))).trans (f22.1.2.1.1 285 44 kF_216_285_44)))))
  have e17 : hV H1 285 34 = hV H0 285 34 := (f2.1.2.1.1 285 34 kF_232_285_34)
  have e18 : hV H1 285 35 = hV H0 285 35 := (f2.1.2.1.1 285 35 kF_232_285_35)
  have e22 : hV H2 285 13 = hV H1 285 13 := (f22.1.2.1.1 285 13 kF_216_285_13)
  have e27 : hV H3 285 11 = hV H1 285 11 := ((uPlace f25 285 11 (iS (show n9 = ((307 : Nat) : Int) from f17) rfl))).trans (f22.1.2.1.1 285 11 kF_216_285_11)
  have e29 : hV H3 285 13 = hV H1 285 13 := ((uPlace f25 285 13 (iS (show n9 = ((307 : Nat) : Int) from f17) rfl))).trans (f22.1.2.1.1 285 13 kF_216_285_13)
  have e33 : hV H7 285 11 = hV H4 285 11 := ((uPlace f44 285 11 (iS (show n17 = ((310 : Nat) : Int) from f39) rfl))).trans (((uPlace f38 285 11 (iS (show n15 = ((309 : Nat) : Int) from f33) rfl))).trans (uPlace f32 285 11 (iS (show n13 = ((308 : Nat) : Int) from f27) rfl)))
  have e40 : hV H7 285 12 = hV H1 285 12 := ((uPlace f44 285 12 (iS (show n17 = ((310 : Nat) : Int) from f39) rfl))).trans (((uPlace f38 285 12 (iS (show n15 = ((309 : Nat) : Int) from f33) rfl))).trans (((uPlace f32 285 12 (iS (show n13 = ((308 : Nat) : Int) from f27) rfl))).trans (((f26.1.2.1.1 285 12 kF_219_285_12)).trans (((uPlace f25 285 12 (iS (show n9 = ((307 : Nat) : Int) from f17) rfl))).trans (f22.1.2.1.1 285 12 kF_216_285_12)))))
  have e44 : hV H7 285 13 = hV H4 285 13 := ((uPlace f44 285 13 (iS (show n17 = ((310 : Nat) : Int) from f39) rfl))).trans (((uPlace f38 285 13 (iS (show n15 = ((309 : Nat) : Int) from f33) rfl))).trans (uPlace f32 285 13 (iS (show n13 = ((308 : Nat) : Int) from f27) rfl)))
  have e51 : hV H7 285 34 = hV H0 285 34 := ((uPlace f44 285 34 (iS (show n17 = ((310 : Nat) : Int) from f39) rfl))).trans (((uPlace f38 285 34 (iS (show n15 = ((309 : Nat) : Int) from f33) rfl))).trans (((uPlace f32 285 34 (iS (show n13 = ((308 : Nat) : Int) from f27) rfl))).trans (((f26.1.2.1.1 285 34 kF_219_285_34)).trans (((uPlace f25 285 34 (iS (show n9 = ((307 : Nat) : Int) from f17) rfl))).trans (((f22.1.2.1.1 285 34 kF_216_285_34)).trans (f2.1.2.1.1 285 34 kF_232_285_34))))))
  have e58 : hV H7 285 35 = hV H0 285 35 := ((uPlace f44 285 35 (iS (show n17 = ((310 : Nat) : Int) from f39) rfl))).trans (((uPlace f38 285 35 (iS (show n15 = ((309 : Nat) : Int) from f33) rfl))).trans (((uPlace f32 285 35 (iS (show n13 = ((308 : Nat) : Int) from f27) rfl))).trans (((f26.1.2.1.1 285 35 kF_219_285_35)).trans (((uPlace f25 285 35 (iS (show n9 = ((307 : Nat) : Int) from f17) rfl))).trans (((f22.1.2.1.1 285 35 kF_216_285_35)).trans (f2.1.2.1.1 285 35 kF_232_285_35))))))
  have e60 : hV H7 285 44 = hV H1 285 44 := ((uPlace f44 285 44 (iS (show n17 = ((310 : Nat) : Int) from f39) rfl))).trans (((uPlace f38 285 44 (iS (show n15 = ((309 : Nat) : Int) from f33) rfl))).trans (((uPlace f32 285 44 (iS (show n13 = ((308 : Nat) : Int) from f27) rfl))).trans (((f26.1.2.1.1 285 44 kF_219_285_44)).trans (((uPlace f25 285 44 (iS (show n9 = ((307 : Nat) : Int) from f17) rfl))).trans (f22.1.2.1.1 285 44 kF_216_285_44)))))
  have e63 : hV H7 285 51 = hV H1 285 51 := ((uPlace f44 285 51 (iS (show n17 = ((310 : Nat) : Int) from f39) rfl))).trans (((uPlace f38 285 51 (iS (show n15 = ((309 : Nat) : Int) from f33) rfl))).trans (((uPlace f32 285 51 (iS (show n13 = ((308 : Nat) : Int) from f27) rfl))).trans (((f26.1.2.1.1 285 51 kF_219_285_51)).trans (((uPlace f25 285 51 (iS (show n9 = ((307 : Nat) : Int) from f17) rfl))).trans (f22.1.2.1.1 285 51 kF_216_285_51)))))
  have e74 : hV H7 306 = hV H1 306 := (uRowNe f44 306 (iS (show n17 = ((310 : Nat) : Int) from f39) rfl)).trans ((uRowNe f38 306 (iS (show n15 = ((309 : Nat) : Int) from f33) rfl)).trans ((uRowNe f32 306 (iS (show n13 = ((308 : Nat) : Int) from f27) rfl)).trans ((fRow f26.1.2.1 306 kR_219_306).trans ((uRowNe f25 306 (iS (show n9 = ((307 : Nat) : Int) from f17) rfl)).trans (fRow f22.1.2.1 306 kR_216_306)))))
  have e85 : hV H7 307 = (uF (hV H1 307) n8 n12) := (uRowNe f44 307 (iS (show n17 = ((310 : Nat) : Int) from f39) rfl)).trans ((uRowNe f38 307 (iS (show n15 = ((309 : Nat) : Int) from f33) rfl)).trans ((uRowNe f32 307 (iS (show n13 = ((308 : Nat) : Int) from f27) rfl)).trans ((fRow f26.1.2.1 307 kR_219_307).trans ((uRow f25 307 f17.symm).trans (congrArg (fun z => uF z n8 n12) (fRow f22.1.2.1 307 kR_216_307))))))
  have e96 : hV H7 308 = (uF (hV H1 308) n8 n14) := (uRowNe f44 308 (iS (show n17 = ((310 : Nat) : Int) from f39) rfl)).trans ((uRowNe f38 308 (iS (show n15 = ((309 : Nat) : Int) from f33) rfl)).trans ((uRow f32 308 f27.symm).trans (congrArg (fun z => uF z n8 n14) ((fRow f26.1.2.1 308 kR_219_308).trans ((uRowNe f25 308 (iS (show n9 = ((307 : Nat) : Int) from f17) rfl)).trans (fRow f22.1.2.1 308 kR_216_308))))))
  have e107 : hV H7 309 = (uF (hV H1 309) n8 n16) := (uRowNe f44 309 (iS (show n17 = ((310 : Nat) : Int) from f39) rfl)).trans ((uRow f38 309 f33.symm).trans (congrArg (fun z => uF z n8 n16) ((uRowNe f32 309 (iS (show n13 = ((308 : Nat) : Int) from f27) rfl)).trans ((fRow f26.1.2.1 309 kR_219_309).trans ((uRowNe f25 309 (iS (show n9 = ((307 : Nat) : Int) from f17) rfl)).trans (fRow f22.1.2.1 309 kR_216_309))))))
  have e118 : hV H7 310 = (uF (hV H1 310) n8 n18) := (uRow f44 310 f39.symm).trans (congrArg (fun z => uF z n8 n18) ((uRowNe f38 310 (iS (show n15 = ((309 : Nat) : Int) from f33) rfl)).trans ((uRowNe f32 310 (iS (show n13 = ((308 : Nat) : Int) from f27) rfl)).trans ((fRow f26.1.2.1 310 kR_219_310).trans ((uRowNe f25 310 (iS (show n9 = ((307 : Nat) : Int) from f17) rfl)).trans (fRow f22.1.2.1 310 kR_216_310))))))
  have e129 : hV H7 311 = hV H1 311 := (uRowNe f44 311 (iS (show n17 = ((310 : Nat) : Int) from f39) rfl)).trans ((uRowNe f38 311 (iS (show n15 = ((309 : Nat) : Int) from f33) rfl)).trans ((uRowNe f32 311 (iS (show n13 = ((308 : Nat) : Int) from f27) rfl)).trans ((fRow f26.1.2.1 311 kR_219_311).trans ((uRowNe f25 311 (iS (show n9 = ((307 : Nat) : Int) from f17) rfl)).trans (fRow f22.1.2.1 311 kR_216_311)))))
  have e140 : hV H7 317 = hV H1 317 := (uRowNe f44 317 (iS (show n17 = ((310 : Nat) : Int) from f39) rfl)).trans ((uRowNe f38 317 (iS (show n15 = ((309 : Nat) : Int) from f33) rfl)).trans ((uRowNe f32 317 (iS (show n13 = ((308 : Nat) : Int) from f27) rfl)).trans ((fRow f26.1.2.1 317 kR_219_317).trans ((uRowNe f25 317 (iS (show n9 = ((307 : Nat) : Int) from f17) rfl)).trans (fRow f22.1.2.1 317 kR_216_317)))))
  have e151 : hV H7 318 = hV H1 318 := (uRowNe f44 318 (iS (show n17 = ((310 : Nat) : Int) from f39) rfl)).trans ((uRowNe f38 318 (iS (show n15 = ((309 : Nat) : Int) from f33) rfl)).trans ((uRowNe f32 318 (iS (show n13 = ((308 : Nat) : Int) from f27) rfl)).trans ((fRow f26.1.2.1 318 kR_219_318).trans ((uRowNe f25 318 (iS (show n9 = ((307 : Nat) : Int) from f17) rfl)).trans (fRow f22.1.2.1 318 kR_216_318)))))
  have e162 : hV H7 319 = hV H1 319 := (uRowNe f44 319 (iS (show n17 = ((310 : Nat) : Int) from f39) rfl)).trans ((uRowNe f38 319 (iS (show n15 = ((309 : Nat) : Int) from f33) rfl)).trans ((uRowNe f32 319 (iS (show n13 = ((308 : Nat) : Int) from f27) rfl)).trans ((fRow f26.1.2.1 319 kR_219_319).trans ((uRowNe f25 319 (iS (show n9 = ((307 : Nat) : Int) from f17) rfl)).trans (fRow f22.1.2.1 319 kR_216_319)))))
  have e173 : hV H7 320 = hV H1 320 := (uRowNe f44 320 (iS (show n17 = ((310 : Nat) : Int) from f39) rfl)).trans ((uRowNe f38 320 (iS (show n15 = ((309 : Nat) : Int) from f33) rfl)).trans ((uRowNe f32 320 (iS (show n13 = ((308 : Nat) : Int) from f27) rfl)).trans ((fRow f26.1.2.1 320 kR_219_320).trans ((uRowNe f25 320 (iS (show n9 = ((307 : Nat) : Int) from f17) rfl)).trans (fRow f22.1.2.1 320 kR_216_320)))))
  have e184 : hV H7 321 = hV H1 321 := (uRowNe f44 321 (iS (show n17 = ((310 : Nat) : Int) from f39) rfl)).trans ((uRowNe f38 321 (iS (show n15 = ((309 : Nat) : Int) from f33) rfl)).trans ((uRowNe f32 321 (iS (show n13 = ((308 : Nat) : Int) from f27) rfl)).trans ((fRow f26.1.2.1 321 kR_219_321).trans ((uRowNe f25 321 (iS (show n9 = ((307 : Nat) : Int) from f17) rfl)).trans (fRow f22.1.2.1 321 kR_216_321)))))
  have e185 : RN H2 = RN H1 := RN_fr f22.1.2.1 (by decide +kernel)
  have e186 : RN H3 = RN H2 := RN_upR f25 (show n9 = ((307 : Nat) : Int) from f17) (by decide)
  have e187 : RN H3 = RN H1 := e186.trans e185
  have e188 : RN H4 = RN H3 := RN_fr f26.1.2.1 (by decide +kernel)
  have e189 : RN H4 = RN H1 := e188.trans e187
  have e190 : RN H5 = RN H4 := RN_upR f32 (show n13 = ((308 : Nat) : Int) from f27) (by decide)
  have e191 : RN H5 = RN H1 := e190.trans e189
  have e192 : RN H6 = RN H5 := RN_upR f38 (show n15 = ((309 : Nat) : Int) from f33) (by decide)
  have e193 : RN H6 = RN H1 := e192.trans e191
  have e194 : RN H7 = RN H6 := RN_upR f44 (show n17 = ((310 : Nat) : Int) from f39) (by decide)
  have e195 : RN H7 = RN H1 := e194.trans e193
  have e196 : (0 : Int) ≤ hV H1 285 11 ∧ hV H1 285 11 ≤ 500 := f2.1.2.2 285 11 _ _ kW_285_11
  have e197 : (0 : Int) ≤ hV H1 285 12 ∧ hV H1 285 12 ≤ 7 := f2.1.2.2 285 12 _ _ kW_285_12
  have e198 : (0 : Int) ≤ hV H1 285 13 ∧ hV H1 285 13 ≤ 2 := f2.1.2.2 285 13 _ _ kW_285_13
  have e199 : (0 : Int) ≤ hV H0 285 34 ∧ hV H0 285 34 ≤ 1 := bTo e17 (f2.1.2.2 285 34 _ _ kW_285_34)
  have e200 : (0 : Int) ≤ hV H0 285 35 ∧ hV H0 285 35 ≤ 1 := bTo e18 (f2.1.2.2 285 35 _ _ kW_285_35)
  have e201 : (0 : Int) ≤ hV H1 285 44 ∧ hV H1 285 44 ≤ 400 := f2.1.2.2 285 44 _ _ kW_285_44
  have e202 : (0 : Int) ≤ hV H1 285 51 ∧ hV H1 285 51 ≤ 1200 := f2.1.2.2 285 51 _ _ kW_285_51
  have e205 : (0 : Int) ≤ hV H4 285 11 ∧ hV H4 285 11 ≤ 500 := f26.1.2.2.2 285 11 _ _ kW_285_11
  have e206 : (0 : Int) ≤ hV H4 285 13 ∧ hV H4 285 13 ≤ 2 := f26.1.2.2.2 285 13 _ _ kW_285_13
  try simp only [RR]
  try simp only [e33, e40, e44, e51, e58, e60, e63, e74, e85, e96, e107, e118, e129, e140, e151, e162, e173, e184, e195]
  have y0 := g4.1
  have y1 := g4.2.1
  have y2 := g4.2.2.1
  have y3 := g4.2.2.2.1
  have y4 := g4.2.2.2.2.1
  have y5 := g4.2.2.2.2.2.1
  have y6 := g4.2.2.2.2.2.2.1
  have y7 := g4.2.2.2.2.2.2.2.1
  have y8 := g4.2.2.2.2.2.2.2.2
  have p0 := g3.1
  have p1 := g3.2.1
  have p2 := g3.2.2.1
  have p3 := g3.2.2.2.1
  have p4 := g3.2.2.2.2.1
  have p5 := g3.2.2.2.2.2.1
  have p6 := g3.2.2.2.2.2.2.1
  have p7 := g3.2.2.2.2.2.2.2
  have r0_0 := f22.2.1
  have r1_0 := f26.2.1
  have r1_1 := f26.2.2.1
  have r1_2 := f26.2.2.2.1
  have r1_3 := f26.2.2.2.2
  try simp only [RR] at y0
  try simp only [RR] at p0
  try simp only [e17, e18] at y0
  try simp only [e18] at y7
  try simp only [e22] at r0_0
  try simp only [e27] at r1_0
  try simp only [e27] at r1_1
  try simp only [e29] at r1_2
  try simp only [e27] at r1_3
  clear g3
  clear g4
  clear f6 f9 f12 f15 f18 f28 f31 f34 f37 f40 f43 e17 e18 e22 e27 e29 e33 e40 e44 e51 e58 e60 e63 e74 e85 e96 e107 e118 e129 e140 e151 e162 e173 e184 e185 e186 e187 e188 e189 e190 e191 e192 e193 e194 e195
  clear f2 f22 f26
  subst e1
  subst e2
  subst e3
  subst e7
  subst e9
  subst e15
  rw [f3] at f7
  first
  | (have ix0 : n4 = 12 * (hV H0 285 35) := Eq.trans f7 (w32_iv (Iml 12 rfl (Iat f5 f4)) (by decide)); subst ix0; clear f7)
  | (have ix0 : n4 = 12 * (hV H0 285 35) := Eq.trans f7 (w32_id (by omega) (by omega)); subst ix0; clear f7)
  | (unfold w32 at f7; have ix0 : n4 = 12 * (hV H0 285 35) := (by omega); subst ix0)
  | skip
  first
  | (have ix1 : n8 = (12 * (hV H0 285 35)) + hV H1 306 (hV H0 285 35).toNat := Eq.trans f16 (w32_iv (Iad (Iml 12 rfl (Iat f5 f4)) (Iat f14 f13)) (by decide)); subst ix1; clear f16)
  | (have ix1 : n8 = (12 * (hV H0 285 35)) + hV H1 306 (hV H0 285 35).toNat := Eq.trans f16 (w32_id (by omega) (by omega)); subst ix1; clear f16)
  | (unfold w32 at f16; have ix1 : n8 = (12 * (hV H0 285 35)) + hV H1 306 (hV H0 285 35).toNat := (by omega); subst ix1)
  | skip
  try unfold w32 at f7
  try unfold w32 at f16

  have w_rules := fun x : Nat => y8 x
  refine ⟨⟨?_, ?_, ?_, ?_, ?_, ?_, ?_, ?_, ?_, ?_, ?_, ?_, ?_⟩, fun q hq => ?_⟩
  · first
    | exact RR_keep y0 (by omega) (by omega) (by omega) w_rules (by omega) rfl (fun x hx => by refine ⟨?_, ?_, ?_, ?_, ?_⟩ <;> first | rfl | exact uF_ne (by omega) | exact (uF_ne (by omega)).trans (uF_ne (by omega)))
  · first | omega | (simp only [uF_at]; omega)
  · first | omega | (simp only [uF_at]; omega)
  · first | omega | (simp only [uF_at]; omega)
  · first | omega | (simp only [uF_at]; omega)
  · first | omega | (simp only [uF_at]; omega)
  · first | omega | (simp only [uF_at]; omega)
  · first | omega | (simp only [uF_at]; omega)
  · first | omega | (simp only [uF_at]; omega)
  · first | omega | (simp only [uF_at]; omega)
  · first | omega | (simp only [uF_at]; omega)
  · first | omega | (simp only [uF_at]; omega)
  · exact y8
  · have g6 := Option.some.inj hq
    subst g6
    omega
def g_232_53_6 : vG := ([(80, [17, 8, 18], [7, 6], 0), (20, [18, 1], [6], 44), (90, [18], [], 0), (91, [18], [], 400), (20, [17, 1], [6], 40), (0, [17], [], 310), (80, [15, 8, 16], [6, 5], 0), (20, [16, 1], [5], 51), (90, [16], [], 0), (91, [16], [], 1200), (20, [15, 1], [5], 39), (0, [15], [], 309), (80, [13, 8, 14], [5, 4], 0), (20, [14, 1], [4], 51), (90, [14], [], 0), (91, [14], [], 1200), (20, [13, 1], [4], 38), (0, [13], [], 308), (1219, [1], [3, 4], 0), (80, [9, 8, 12], [3, 2], 0), (0, [12], [], 1), (30, [11], [], 0), (1216, [11, 1, 10], [1, 2], 0), (90, [11], [], 0), (91, [11], [], 1), (0, [10], [], 42), (20, [9, 1], [1], 37), (0, [9], [], 307), (1, [8, 4, 7], [], 0), (22, [7, 5, 6], [1], 0), (90, [7], [], 0), (91, [7], [], 12), (20, [6, 1], [1], 35), (90, [6], [], 0), (91, [6], [], 1), (20, [5, 1], [1], 36), (0, [5], [], 306), (3, [4, 2, 3], [], 0), (20, [3, 1], [1], 35), (90, [3], [], 0), (91, [3], [], 1), (0, [2], [], 12), (5000, [0, 1], [0, 1], 53), (0, [0], [], 285), (0, [1], [], 285)], (4000, [1, 8], [7], 125))
theorem c_232_53_6 {q0 : Nat} : vOkm T0 (eP e_232 L_232 A_232 mu_232 (some q0)) 1 g_232_53_6 := vOk_inI fun ρ η f0 f1 f2 f3 f4 f5 f6 f7 f8 f9 f10 f11 f12 f13 f14 f15 f16 f17 f18 f19 f20 f21 f22 f23 f24 f25 f26 f27 f28 f29 f30 f31 f32 f33 f34 f35 f36 f37 f38 f39 f40 f41 f42 f43 f44 => q_232_16 (q0 := q0) (n0 := ρ 1) (n1 := ρ 0) (n2 := ρ 2) (n3 := ρ 3) (n4 := ρ 4) (n5 := ρ 5) (n6 := ρ 6) (n7 := ρ 7) (n8 := ρ 8) (n9 := ρ 9) (n10 := ρ 10) (n11 := ρ 11) (n12 := ρ 12) (n13 := ρ 13) (n14 := ρ 14) (n15 := ρ 15) (n16 := ρ 16) (n17 := ρ 17) (n18 := ρ 18) (H0 := η 0) (H1 := η 1) (H2 := η 2) (H3 := η 3) (H4 := η 4) (H5 := η 5) (H6 := η 6) (H7 := η 7) f44 f43 f42 f41 f40 f39 f38 f37 f36 f35 f34 f33 f32 f31 f30 f29 f28 f27 f26 f25 f24 f23 f22 f21 f20 f19 f18 f17 f16 f15 f14 f13 f12 f11 f10 f9 f8 f7 f6 f5 f4 f3 f2 f1 f0
def g_232_53_7 : vG := ([(1, [8, 4, 7], [], 0), (22, [7, 5, 6], [1], 0), (90, [7], [], 0), (91, [7], [], 12), (20, [6, 1], [1], 35), (90, [6], [], 0), (91, [6], [], 1), (20, [5, 1], [1], 36), (0, [5], [], 306), (3, [4, 2, 3], [], 0), (20, [3, 1], [1], 35), (90, [3], [], 0), (91, [3], [], 1), (0, [2], [], 12), (5000, [0, 1], [0, 1], 53), (0, [0], [], 285), (0, [1], [], 285)], (70, [8], [], 24))
theorem c_232_53_7 {q0 : Nat} : vOkm T0 (eP e_232 L_232 A_232 mu_232 (some q0)) 1 g_232_53_7 := vOk_inI fun ρ η f0 f1 f2 f3 f4 f5 f6 f7 f8 f9 f10 f11 f12 f13 f14 f15 f16 => q_232_10 (q0 := q0) (n0 := ρ 1) (n1 := ρ 0) (n2 := ρ 2) (n3 := ρ 3) (n4 := ρ 4) (n5 := ρ 5) (n6 := ρ 6) (n7 := ρ 7) (n8 := ρ 8) (H0 := η 0) (H1 := η 1) f16 f15 f14 f13 f12 f11 f10 f9 f8 f7 f6 f5 f4 f3 f2 f1 f0
set_option maxHeartbeats 20000000 in
theorem kR_232_288 : vFreeR s_232.2.2.2.2 288 = true := by decide +kernel
theorem q_232_17 {q0 : Nat} {n0 n1 n2 n3 n4 n5 n6 n7 n8 n9 n10 n11 n12 n13 : Int} {H0 H1 H2 H3 H4 : gH} (f0 : n0 = 285) (f1 : n1 = 285) (f2 : (hLe T0 H0 H1 ∧ hFr s_232.2.2.2.2 H0 H1 ∧ hWt T0 H1) ∧ (Ab_232_53 n1 n0 H0 H1 ∧ preb_232 n1 H0) ∧ some q0 = some (mub_232_53 n1 n0 H0 H1)) (f3 : n2 = 12) (f4 : n3 ≤ 1) (f5 : 0 ≤ n3) (f6 : n3 = hV H1 (n0).toNat 35) (f7 : n4 = w32 (n2 * n3)) (f8 : n5 = 306) (f9 : n5 = hV H1 (n0).toNat 36) (f10 : n6 ≤ 1) (f11 : 0 ≤ n6) (f12 : n6 = hV H1 (n0).toNat 35) (f13 : n7 ≤ 12) (f14 : 0 ≤ n7) (f15 : n7 = hV H1 (n5).toNat (n6).toNat) (f16 : n8 = w32 (n4 + n7)) (f17 : n9 = 307) (f18 : n9 = hV H1 (n0).toNat 37) (f19 : n10 = 42) (f20 : n11 ≤ 1) (f21 : 0 ≤ n11) (f22 : (hLe T0 H1 H2 ∧ hFr s_216.2.2.2.2 H1 H2 ∧ ((0 : Int) = 0 → H2.length = H1.length) ∧ hWt T0 H2) ∧ postb_216 n11 n0 n10 H1 H2) (f23 : n11 ≠ 0) (f24 : n12 = 0) (f25 : hUpd H3 H2 n9 n8 n12) (f26 : (hLe T0 H3 H4 ∧ hFr s_219.2.2.2.2 H3 H4 ∧ ((0 : Int) = 0 → H4.length = H3.length) ∧ hWt T0 H4) ∧ postb_219 n0 H3 H4) (f27 : n13 ≤ 1200) (f28 : 0 ≤ n13) (f29 : n13 = hV H4 (n0).toNat 51) : 0 ≤ n8 ∧ n8 < 24 := by
  have g4 := f2.2.1.1
  unfold Ab_232_53 at g4
  have g3 := f2.2.1.2
  unfold preb_232 at g3
  unfold postb_216 at f22
  unfold postb_219 at f26
  have e1 : n3 = hV H0 285 35 := (by rw [f0] at f6; exact f6 : n3 = hV H1 285 35).trans ((f2.1.2.1.1 285 35 kF_232_285_35))
  have e2 : n6 = hV H0 285 35 := (by rw [f0] at f12; exact f12 : n6 = hV H1 285 35).trans ((f2.1.2.1.1 285 35 kF_232_285_35))
  have e3 : n7 = hV H1 306 (n6).toNat := (by rw [f8] at f15; exact f15 : n7 = hV H1 306 (n6).toNat)
  have e7 : n13 = hV H1 285 51 := (by rw [f0] at f29; exact f29 : n13 = hV H4 285 51).trans (((f26.1.2.1.1 285 51 kF_219_285_51)).trans (((uPlace f25 285 51 (iS (show n9 = ((307 : Nat) : Int) from f17) rfl))).trans (f22.1.2.1.1 285 51 kF_216_285_51)))
  have e9 : hV H1 285 34 = hV H0 285 34 := (f2.1.2.1.1 285 34 kF_232_285_34)
  have e10 : hV H1 285 35 = hV H0 285 35 := (f2.1.2.1.1 285 35 kF_232_285_35)
  have e12 : hV H2 285 11 = hV H1 285 11 := (f22.1.2.1.1 285 11 kF_216_285_11)
  have e14 : hV H2 285 13 = hV H1 285 13 := (f22.1.2.1.1 285 13 kF_216_285_13)
  have e17 : hV H2 288 = hV H0 288 := (fRow f22.1.2.1 288 kR_216_288).trans (fRow f2.1.2.1 288 kR_232_288)
  have e19 : hV H3 285 11 = hV H1 285 11 := ((uPlace f25 285 11 (iS (show n9 = ((307 : Nat) : Int) from f17) rfl))).trans (f22.1.2.1.1 285 11 kF_216_285_11)
  have e21 : hV H3 285 13 = hV H1 285 13 := ((uPlace f25 285 13 (iS (show n9 = ((307 : Nat) : Int) from f17) rfl))).trans (f22.1.2.1.1 285 13 kF_216_285_13)
  have e22 : (0 : Int) ≤ hV H1 285 11 ∧ hV H1 285 11 ≤ 500 := f2.1.2.2 285 11 _ _ kW_285_11
  have e23 : (0 : Int) ≤ hV H1 285 12 ∧ hV H1 285 12 ≤ 7 := f2.1.2.2 285 12 _ _ kW_285_12
  have e24 : (0 : Int) ≤ hV H1 285 13 ∧ hV H1 285 13 ≤ 2 := f2.1.2.2 285 13 _ _ kW_285_13
  have e25 : (0 : Int) ≤ hV H0 285 34 ∧ hV H0 285 34 ≤ 1 := bTo e9 (f2.1.2.2 285 34 _ _ kW_285_34)
  have e26 : (0 : Int) ≤ hV H0 285 35 ∧ hV H0 285 35 ≤ 1 := bTo e10 (f2.1.2.2 285 35 _ _ kW_285_35)
  have e27 : (0 : Int) ≤ hV H1 285 44 ∧ hV H1 285 44 ≤ 400 := f2.1.2.2 285 44 _ _ kW_285_44
  have e28 : (0 : Int) ≤ hV H1 285 51 ∧ hV H1 285 51 ≤ 1200 := f2.1.2.2 285 51 _ _ kW_285_51
  have e31 : (0 : Int) ≤ hV H4 285 11 ∧ hV H4 285 11 ≤ 500 := f26.1.2.2.2 285 11 _ _ kW_285_11
  have e32 : (0 : Int) ≤ hV H4 285 13 ∧ hV H4 285 13 ≤ 2 := f26.1.2.2.2 285 13 _ _ kW_285_13
  try simp only [RR]
  have y0 := g4.1
  have y1 := g4.2.1
  have y2 := g4.2.2.1
  have y3 := g4.2.2.2.1
  have y4 := g4.2.2.2.2.1
  have y5 := g4.2.2.2.2.2.1
  have y6 := g4.2.2.2.2.2.2.1
  have y7 := g4.2.2.2.2.2.2.2.1
  have y8 := g4.2.2.2.2.2.2.2.2
  have p0 := g3.1
  have p1 := g3.2.1
  have p2 := g3.2.2.1
  have p3 := g3.2.2.2.1
  have p4 := g3.2.2.2.2.1
  have p5 := g3.2.2.2.2.2.1
  have p6 := g3.2.2.2.2.2.2.1
  have p7 := g3.2.2.2.2.2.2.2
  have r0_0 := f22.2.1
  have r0_1 := f22.2.2.resolve_right (fun z => f23 z.1)
  have r1_0 := f26.2.1
  have r1_1 := f26.2.2.1
  have r1_2 := f26.2.2.2.1
  have r1_3 := f26.2.2.2.2
  try simp only [RR] at y0
  try simp only [RR] at p0
  try simp only [e9, e10] at y0
  try simp only [e10] at y7
  try simp only [e14] at r0_0
  try simp only [e9, e10, e12, e14, e17] at r0_1
  try simp only [e19] at r1_0
  try simp only [e19] at r1_1
  try simp only [e21] at r1_2
  try simp only [e19] at r1_3
  clear g3
  clear g4
  clear f6 f9 f12 f15 f18 f29 e9 e10 e12 e14 e17 e19 e21
  clear f2 f22 f26
  subst e1
  subst e2
  subst e3
  subst e7
  rw [f3] at f7
  first
  | (have ix0 : n4 = 12 * (hV H0 285 35) := Eq.trans f7 (w32_iv (Iml 12 rfl (Iat f5 f4)) (by decide)); subst ix0; clear f7)
  | (have ix0 : n4 = 12 * (hV H0 285 35) := Eq.trans f7 (w32_id (by omega) (by omega)); subst ix0; clear f7)
  | (unfold w32 at f7; have ix0 : n4 = 12 * (hV H0 285 35) := (by omega); subst ix0)
  | skip
  first
  | (have ix1 : n8 = (12 * (hV H0 285 35)) + hV H1 306 (hV H0 285 35).toNat := Eq.trans f16 (w32_iv (Iad (Iml 12 rfl (Iat f5 f4)) (Iat f14 f13)) (by decide)); subst ix1; clear f16)
  | (have ix1 : n8 = (12 * (hV H0 285 35)) + hV H1 306 (hV H0 285 35).toNat := Eq.trans f16 (w32_id (by omega) (by omega)); subst ix1; clear f16)
  | (unfold w32 at f16; have ix1 : n8 = (12 * (hV H0 285 35)) + hV H1 306 (hV H0 285 35).toNat := (by omega); subst ix1)
  | skip
  try unfold w32 at f7
  try unfold w32 at f16
  omega
def g_232_53_8 : vG := ([(20, [14, 1], [4], 51), (90, [14], [], 0), (91, [14], [], 1200), (1219, [1], [3, 4], 0), (80, [9, 8, 12], [3, 2], 0), (0, [12], [], 0), (31, [11], [], 0), (1216, [11, 1, 10], [1, 2], 0), (90, [11], [], 0), (91, [11], [], 1), (0, [10], [], 42), (20, [9, 1], [1], 37), (0, [9], [], 307), (1, [8, 4, 7], [], 0), (22, [7, 5, 6], [1], 0), (90, [7], [], 0), (91, [7], [], 12), (20, [6, 1], [1], 35), (90, [6], [], 0), (91, [6], [], 1), (20, [5, 1], [1], 36), (0, [5], [], 306), (3, [4, 2, 3], [], 0), (20, [3, 1], [1], 35), (90, [3], [], 0), (91, [3], [], 1), (0, [2], [], 12), (5000, [0, 1], [0, 1], 53), (0, [0], [], 285), (0, [1], [], 285)], (70, [8], [], 24))
theorem c_232_53_8 {q0 : Nat} : vOkm T0 (eP e_232 L_232 A_232 mu_232 (some q0)) 1 g_232_53_8 := vOk_inI fun ρ η f0 f1 f2 f3 f4 f5 f6 f7 f8 f9 f10 f11 f12 f13 f14 f15 f16 f17 f18 f19 f20 f21 f22 f23 f24 f25 f26 f27 f28 f29 => q_232_17 (q0 := q0) (n0 := ρ 1) (n1 := ρ 0) (n2 := ρ 2) (n3 := ρ 3) (n4 := ρ 4) (n5 := ρ 5) (n6 := ρ 6) (n7 := ρ 7) (n8 := ρ 8) (n9 := ρ 9) (n10 := ρ 10) (n11 := ρ 11) (n12 := ρ 12) (n13 := ρ 14) (H0 := η 0) (H1 := η 1) (H2 := η 2) (H3 := η 3) (H4 := η 4) f29 f28 f27 f26 f25 f24 f23 f22 f21 f20 f19 f18 f17 f16 f15 f14 f13 f12 f11 f10 f9 f8 f7 f6 f5 f4 f3 f2 f1 f0
set_option maxHeartbeats 20000000 in
theorem q_232_18 {q0 : Nat} {n0 n1 n2 n3 n4 n5 n6 n7 n8 n9 n10 n11 n12 n13 n14 n15 : Int} {H0 H1 H2 H3 H4 H5 : gH} (f0 : n0 = 285) (f1 : n1 = 285) (f2 : (hLe T0 H0 H1 ∧ hFr s_232.2.2.2.2 H0 H1 ∧ hWt T0 H1) ∧ (Ab_232_53 n1 n0 H0 H1 ∧ preb_232 n1 H0) ∧ some q0 = some (mub_232_53 n1 n0 H0 H1)) (f3 : n2 = 12) (f4 : n3 ≤ 1) (f5 : 0 ≤ n3) (f6 : n3 = hV H1 (n0).toNat 35) (f7 : n4 = w32 (n2 * n3)) (f8 : n5 = 306) (f9 : n5 = hV H1 (n0).toNat 36) (f10 : n6 ≤ 1) (f11 : 0 ≤ n6) (f12 : n6 = hV H1 (n0).toNat 35) (f13 : n7 ≤ 12) (f14 : 0 ≤ n7) (f15 : n7 = hV H1 (n5).toNat (n6).toNat) (f16 : n8 = w32 (n4 + n7)) (f17 : n9 = 307) (f18 : n9 = hV H1 (n0).toNat 37) (f19 : n10 = 42) (f20 : n11 ≤ 1) (f21 : 0 ≤ n11) (f22 : (hLe T0 H1 H2 ∧ hFr s_216.2.2.2.2 H1 H2 ∧ ((0 : Int) = 0 → H2.length = H1.length) ∧ hWt T0 H2) ∧ postb_216 n11 n0 n10 H1 H2) (f23 : n11 ≠ 0) (f24 : n12 = 0) (f25 : hUpd H3 H2 n9 n8 n12) (f26 : (hLe T0 H3 H4 ∧ hFr s_219.2.2.2.2 H3 H4 ∧ ((0 : Int) = 0 → H4.length = H3.length) ∧ hWt T0 H4) ∧ postb_219 n0 H3 H4) (f27 : n13 = 308) (f28 : n13 = hV H4 (n0).toNat 38) (f29 : n14 ≤ 1200) (f30 : 0 ≤ n14) (f31 : n14 = hV H4 (n0).toNat 51) (f32 : hUpd H5 H4 n13 n8 n14) (f33 : n15 ≤ 1200) (f34 : 0 ≤ n15) (f35 : n15 = hV H5 (n0).toNat 51) : 0 ≤ n8 ∧ n8 < 24 := by
  have g4 := f2.2.1.1
  unfold Ab_232_53 at g4
  have g3 := f2.2.1.2
  unfold preb_232 at g3
  unfold postb_216 at f22
  unfold postb_219 at f26
  have e1 : n3 = hV H0 285 35 := (by rw [f0] at f6; exact f6 : n3 = hV H1 285 35).trans ((f2.1.2.1.1 285 35 kF_232_285_35))
  have e2 : n6 = hV H0 285 35 := (by rw [f0] at f12; exact f12 : n6 = hV H1 285 35).trans ((f2.1.2.1.1 285 35 kF_232_285_35))
  have e3 : n7 = hV H1 306 (n6).toNat := (by rw [f8] at f15; exact f15 : n7 = hV H1 306 (n6).toNat)
  have e7 : n14 = hV H1 285 51 := (by rw [f0] at f31; exact f31 : n14 = hV H4 285 51).trans (((f26.1.2.1.1 285 51 kF_219_285_51)).trans (((uPlace f25 285 51 (iS (show n9 = ((307 : Nat) : Int) from f17) rfl))).trans (f22.1.2.1.1 285 51 kF_216_285_51)))
  have e9 : n15 = hV H1 285 51 := (by rw [f0] at f35; exact f35 : n15 = hV H5 285 51).trans (((uPlace f32 285 51 (iS (show n13 = ((308 : Nat) : Int) from f27) rfl))).trans (((f26.1.2.1.1 285 51 kF_219_285_51)).trans (((uPlace f25 285 51 (iS (show n9 = ((307 : Nat) : Int) from f17) rfl))).trans (f22.1.2.1.1 285 51 kF_216_285_51))))
  have e11 : hV H1 285 34 = hV H0 285 34 := (f2.1.2.1.1 285 34 kF_232_285_34)
  have e12 : hV H1 285 35 = hV H0 285 35 := (f2.1.2.1.1 285 35 kF_232_285_35)
  have e14 : hV H2 285 11 = hV H1 285 11 := (f22.1.2.1.1 285 11 kF_216_285_11)
  have e16 : hV H2 285 13 = hV H1 285 13 := (f22.1.2.1.1 285 13 kF_216_285_13)
  have e19 : hV H2 288 = hV H0 288 := (fRow f22.1.2.1 288 kR_216_288).trans (fRow f2.1.2.1 288 kR_232_288)
  have e21 : hV H3 285 11 = hV H1 285 11 := ((uPlace f25 285 11 (iS (show n9 = ((307 : Nat) : Int) from f17) rfl))).trans (f22.1.2.1.1 285 11 kF_216_285_11)
  have e23 : hV H3 285 13 = hV H1 285 13 := ((uPlace f25 285 13 (iS (show n9 = ((307 : Nat) : Int) from f17) rfl))).trans (f22.1.2.1.1 285 13 kF_216_285_13)
  have e24 : (0 : Int) ≤ hV H1 285 11 ∧ hV H1 285 11 ≤ 500 := f2.1.2.2 285 11 _ _ kW_285_11
  have e25 : (0 : Int) ≤ hV H1 285 12 ∧ hV H1 285 12 ≤ 7 := f2.1.2.2 285 12 _ _ kW_285_12
  have e26 : (0 : Int) ≤ hV H1 285 13 ∧ hV H1 285 13 ≤ 2 := f2.1.2.2 285 13 _ _ kW_285_13
  have e27 : (0 : Int) ≤ hV H0 285 34 ∧ hV H0 285 34 ≤ 1 := bTo e11 (f2.1.2.2 285 34 _ _ kW_285_34)
  have e28 : (0 : Int) ≤ hV H0 285 35 ∧ hV H0 285 35 ≤ 1 := bTo e12 (f2.1.2.2 285 35 _ _ kW_285_35)
  have e29 : (0 : Int) ≤ hV H1 285 44 ∧ hV H1 285 44 ≤ 400 := f2.1.2.2 285 44 _ _ kW_285_44
  have e30 : (0 : Int) ≤ hV H1 285 51 ∧ hV H1 285 51 ≤ 1200 := f2.1.2.2 285 51 _ _ kW_285_51
  have e33 : (0 : Int) ≤ hV H4 285 11 ∧ hV H4 285 11 ≤ 500 := f26.1.2.2.2 285 11 _ _ kW_285_11
  have e34 : (0 : Int) ≤ hV H4 285 13 ∧ hV H4 285 13 ≤ 2 := f26.1.2.2.2 285 13 _ _ kW_285_13
  try simp only [RR]
  have y0 := g4.1
  have y1 := g4.2.1
  have y2 := g4.2.2.1
  have y3 := g4.2.2.2.1
  have y4 := g4.2.2.2.2.1
  have y5 := g4.2.2.2.2.2.1
  have y6 := g4.2.2.2.2.2.2.1
  have y7 := g4.2.2.2.2.2.2.2.1
  have y8 := g4.2.2.2.2.2.2.2.2
  have p0 := g3.1
  have p1 := g3.2.1
  have p2 := g3.2.2.1
  have p3 := g3.2.2.2.1
  have p4 := g3.2.2.2.2.1
  have p5 := g3.2.2.2.2.2.1
  have p6 := g3.2.2.2.2.2.2.1
  have p7 := g3.2.2.2.2.2.2.2
  have r0_0 := f22.2.1
  have r0_1 := f22.2.2.resolve_right (fun z => f23 z.1)
  have r1_0 := f26.2.1
  have r1_1 := f26.2.2.1
  have r1_2 := f26.2.2.2.1
  have r1_3 := f26.2.2.2.2
  try simp only [RR] at y0
  try simp only [RR] at p0
  try simp only [e11, e12] at y0
  try simp only [e12] at y7
  try simp only [e16] at r0_0
  try simp only [e11, e12, e14, e16, e19] at r0_1
  try simp only [e21] at r1_0
  try simp only [e21] at r1_1
  try simp only [e23] at r1_2
  try simp only [e21] at r1_3
  clear g3
  clear g4
  clear f6 f9 f12 f15 f18 f28 f31 f35 e11 e12 e14 e16 e19 e21 e23
  clear f2 f22 f26
  subst e1
  subst e2
  subst e3
  subst e7
  subst e9
  rw [f3] at f7
  first
  | (have ix0 : n4 = 12 * (hV H0 285 35) := Eq.trans f7 (w32_iv (Iml 12 rfl (Iat f5 f4)) (by decide)); subst ix0; clear f7)
  | (have ix0 : n4 = 12 * (hV H0 285 35) := Eq.trans f7 (w32_id (by omega) (by omega)); subst ix0; clear f7)
  | (unfold w32 at f7; have ix0 : n4 = 12 * (hV H0 285 35) := (by omega); subst ix0)
  | skip
  first
  | (have ix1 : n8 = (12 * (hV H0 285 35)) + hV H1 306 (hV H0 285 35).toNat := Eq.trans f16 (w32_iv (Iad (Iml 12 rfl (Iat f5 f4)) (Iat f14 f13)) (by decide)); subst ix1; clear f16)
  | (have ix1 : n8 = (12 * (hV H0 285 35)) + hV H1 306 (hV H0 285 35).toNat := Eq.trans f16 (w32_id (by omega) (by omega)); subst ix1; clear f16)
  | (unfold w32 at f16; have ix1 : n8 = (12 * (hV H0 285 35)) + hV H1 306 (hV H0 285 35).toNat := (by omega); subst ix1)
  | skip
  try unfold w32 at f7
  try unfold w32 at f16
  omega
def g_232_53_9 : vG := ([(20, [16, 1], [5], 51), (90, [16], [], 0), (91, [16], [], 1200), (80, [13, 8, 14], [5, 4], 0), (20, [14, 1], [4], 51), (90, [14], [], 0), (91, [14], [], 1200), (20, [13, 1], [4], 38), (0, [13], [], 308), (1219, [1], [3, 4], 0), (80, [9, 8, 12], [3, 2], 0), (0, [12], [], 0), (31, [11], [], 0), (1216, [11, 1, 10], [1, 2], 0), (90, [11], [], 0), (91, [11], [], 1), (0, [10], [], 42), (20, [9, 1], [1], 37), (0, [9], [], 307), (1, [8, 4, 7], [], 0), (22, [7, 5, 6], [1], 0), (90, [7], [], 0), (91, [7], [], 12), (20, [6, 1], [1], 35), (90, [6], [], 0), (91, [6], [], 1), (20, [5, 1], [1], 36), (0, [5], [], 306), (3, [4, 2, 3], [], 0), (20, [3, 1], [1], 35), (90, [3], [], 0), (91, [3], [], 1), (0, [2], [], 12), (5000, [0, 1], [0, 1], 53), (0, [0], [], 285), (0, [1], [], 285)], (70, [8], [], 24))
theorem c_232_53_9 {q0 : Nat} : vOkm T0 (eP e_232 L_232 A_232 mu_232 (some q0)) 1 g_232_53_9 := vOk_inI fun ρ η f0 f1 f2 f3 f4 f5 f6 f7 f8 f9 f10 f11 f12 f13 f14 f15 f16 f17 f18 f19 f20 f21 f22 f23 f24 f25 f26 f27 f28 f29 f30 f31 f32 f33 f34 f35 => q_232_18 (q0 := q0) (n0 := ρ 1) (n1 := ρ 0) (n2 := ρ 2) (n3 := ρ 3) (n4 := ρ 4) (n5 := ρ 5) (n6 := ρ 6) (n7 := ρ 7) (n8 := ρ 8) (n9 := ρ 9) (n10 := ρ 10) (n11 := ρ 11) (n12 := ρ 12) (n13 := ρ 13) (n14 := ρ 14) (n15 := ρ 16) (H0 := η 0) (H1 := η 1) (H2 := η 2) (H3 := η 3) (H4 := η 4) (H5 := η 5) f35 f34 f33 f32 f31 f30 f29 f28 f27 f26 f25 f24 f23 f22 f21 f20 f19 f18 f17 f16 f15 f14 f13 f12 f11 f10 f9 f8 f7 f6 f5 f4 f3 f2 f1 f0
set_option maxHeartbeats 20000000 in
theorem q_232_19 {q0 : Nat} {n0 n1 n2 n3 n4 n5 n6 n7 n8 n9 n10 n11 n12 n13 n14 n15 n16 n17 : Int} {H0 H1 H2 H3 H4 H5 H6 : gH} (f0 : n0 = 285) (f1 : n1 = 285) (f2 : (hLe T0 H0 H1 ∧ hFr s_232.2.2.2.2 H0 H1 ∧ hWt T0 H1) ∧ (Ab_232_53 n1 n0 H0 H1 ∧ preb_232 n1 H0) ∧ some q0 = some (mub_232_53 n1 n0 H0 H1)) (f3 : n2 = 12) (f4 : n3 ≤ 1) (f5 : 0 ≤ n3) (f6 : n3 = hV H1 (n0).toNat 35) (f7 : n4 = w32 (n2 * n3)) (f8 : n5 = 306) (f9 : n5 = hV H1 (n0).toNat 36) (f10 : n6 ≤ 1) (f11 : 0 ≤ n6) (f12 : n6 = hV H1 (n0).toNat 35) (f13 : n7 ≤ 12) (f14 : 0 ≤ n7) (f15 : n7 = hV H1 (n5).toNat (n6).toNat) (f16 : n8 = w32 (n4 + n7)) (f17 : n9 = 307) (f18 : n9 = hV H1 (n0).toNat 37) (f19 : n10 = 42) (f20 : n11 ≤ 1) (f21 : 0 ≤ n11) (f22 : (hLe T0 H1 H2 ∧ hFr s_216.2.2.2.2 H1 H2 ∧ ((0 : Int) = 0 → H2.length = H1.length) ∧ hWt T0 H2) ∧ postb_216 n11 n0 n10 H1 H2) (f23 : n11 ≠ 0) (f24 : n12 = 0) (f25 : hUpd H3 H2 n9 n8 n12) (f26 : (hLe T0 H3 H4 ∧ hFr s_219.2.2.2.2 H3 H4 ∧ ((0 : Int) = 0 → H4.length = H3.length) ∧ hWt T0 H4) ∧ postb_219 n0 H3 H4) (f27 : n13 = 308) (f28 : n13 = hV H4 (n0).toNat 38) (f29 : n14 ≤ 1200) (f30 : 0 ≤ n14) (f31 : n14 = hV H4 (n0).toNat 51) (f32 : hUpd H5 H4 n13 n8 n14) (f33 : n15 = 309) (f34 : n15 = hV H5 (n0).toNat 39) (f35 : n16 ≤ 1200) (f36 : 0 ≤ n16) (f37 : n16 = hV H5 (n0).toNat 51) (f38 : hUpd H6 H5 n15 n8 n16) (f39 : n17 ≤ 400) (f40 : 0 ≤ n17) (f41 : n17 = hV H6 (n0).toNat 44) : 0 ≤ n8 ∧ n8 < 24 := by
  have g4 := f2.2.1.1
  unfold Ab_232_53 at g4
  have g3 := f2.2.1.2
  unfold preb_232 at g3
  unfold postb_216 at f22
  unfold postb_219 at f26
  have e1 : n3 = hV H0 285 35 := (by rw [f0] at f6; exact f6 : n3 = hV H1 285 35).trans ((f2.1.2.1.1 285 35 kF_232_285_35))
  have e2 : n6 = hV H0 285 35 := (by rw [f0] at f12; exact f12 : n6 = hV H1 285 35).trans ((f2.1.2.1.1 285 35 kF_232_285_35))
  have e3 : n7 = hV H1 306 (n6).toNat := (by rw [f8] at f15; exact f15 : n7 = hV H1 306 (n6).toNat)
  have e7 : n14 = hV H1 285 51 := (by rw [f0] at f31; exact f31 : n14 = hV H4 285 51).trans (((f26.1.2.1.1 285 51 kF_219_285_51)).trans (((uPlace f25 285 51 (iS (show n9 = ((307 : Nat) : Int) from f17) rfl))).trans (f22.1.2.1.1 285 51 kF_216_285_51)))
  have e9 : n16 = hV H1 285 51 := (by rw [f0] at f37; exact f37 : n16 = hV H5 285 51).trans (((uPlace f32 285 51 (iS (show n13 = ((308 : Nat) : Int) from f27) rfl))).trans (((f26.1.2.1.1 285 51 kF_219_285_51)).trans (((uPlace f25 285 51 (iS (show n9 = ((307 : Nat) : Int) from f17) rfl))).trans (f22.1.2.1.1 285 51 kF_216_285_51))))
  have e15 : n17 = hV H1 285 44 := (by rw [f0] at f41; exact f41 : n17 = hV H6 285 44).trans (((uPlace f38 285 44 (iS (show n15 = ((309 : Nat) : Int) from f33) rfl))).trans (((uPlace f32 285 44 (iS (show n13 = ((308 : Nat) : Int) from f27) rfl))).trans (((f26.1.2.1.1 285 44 kF_219_285_44)).trans (((uPlace f25 285 44 (iS (show n9 = ((307 : Nat) : Int) from f17) rfl))).trans (f22.1.2.1.1 285 44 kF_216_285_44)))))
  have e17 : hV H1 285 34 = hV H0 285 34 := (f2.1.2.1.1 285 34 kF_232_285_34)
  have e18 : hV H1 285 35 = hV H0 285 35 := (f2.1.2.1.1 285 35 kF_232_285_35)
  have e20 : hV H2 285 11 = hV H1 285 11 := (f22.1.2.1.1 285 11 kF_216_285_11)
  have e22 : hV H2 285 13 = hV H1 285 13 := (f22.1.2.1.1 285 13 kF_216_285_13)
  have e25 : hV H2 288 = hV H0 288 := (fRow f22.1.2.1 288 kR_216_288).trans (fRow f2.1.2.1 288 kR_232_288)
  have e27 : hV H3 285 11 = hV H1 285 11 := ((uPlace f25 285 11 (iS (show n9 = ((307 : Nat) : Int) from f17) rfl))).trans (f22.1.2.1.1 285 11 kF_216_285_11)
  have e29 : hV H3 285 13 = hV H1 285 13 := ((uPlace f25 285 13 (iS (show n9 = ((307 : Nat) : Int) from f17) rfl))).trans (f22.1.2.1.1 285 13 kF_216_285_13)
  have e30 : (0 : Int) ≤ hV H1 285 11 ∧ hV H1 285 11 ≤ 500 := f2.1.2.2 285 11 _ _ kW_285_11
  have e31 : (0 : Int) ≤ hV H1 285 12 ∧ hV H1 285 12 ≤ 7 := f2.1.2.2 285 12 _ _ kW_285_12
  have e32 : (0 : Int) ≤ hV H1 285 13 ∧ hV H1 285 13 ≤ 2 := f2.1.2.2 285 13 _ _ kW_285_13
  have e33 : (0 : Int) ≤ hV H0 285 34 ∧ hV H0 285 34 ≤ 1 := bTo e17 (f2.1.2.2 285 34 _ _ kW_285_34)
  have e34 : (0 : Int) ≤ hV H0 285 35 ∧ hV H0 285 35 ≤ 1 := bTo e18 (f2.1.2.2 285 35 _ _ kW_285_35)
  have e35 : (0 : Int) ≤ hV H1 285 44 ∧ hV H1 285 44 ≤ 400 := f2.1.2.2 285 44 _ _ kW_285_44
  have e36 : (0 : Int) ≤ hV H1 285 51 ∧ hV H1 285 51 ≤ 1200 := f2.1.2.2 285 51 _ _ kW_285_51
  have e39 : (0 : Int) ≤ hV H4 285 11 ∧ hV H4 285 11 ≤ 500 := f26.1.2.2.2 285 11 _ _ kW_285_11
  have e40 : (0 : Int) ≤ hV H4 285 13 ∧ hV H4 285 13 ≤ 2 := f26.1.2.2.2 285 13 _ _ kW_285_13
  try simp only [RR]
  have y0 := g4.1
  have y1 := g4.2.1
  have y2 := g4.2.2.1
  have y3 := g4.2.2.2.1
  have y4 := g4.2.2.2.2.1
  have y5 := g4.2.2.2.2.2.1
  have y6 := g4.2.2.2.2.2.2.1
  have y7 := g4.2.2.2.2.2.2.2.1
  have y8 := g4.2.2.2.2.2.2.2.2
  have p0 := g3.1
  have p1 := g3.2.1
  have p2 := g3.2.2.1
  have p3 := g3.2.2.2.1
  have p4 := g3.2.2.2.2.1
  have p5 := g3.2.2.2.2.2.1
  have p6 := g3.2.2.2.2.2.2.1
  have p7 := g3.2.2.2.2.2.2.2
  have r0_0 := f22.2.1
  have r0_1 := f22.2.2.resolve_right (fun z => f23 z.1)
  have r1_0 := f26.2.1
  have r1_1 := f26.2.2.1
  have r1_2 := f26.2.2.2.1
  have r1_3 := f26.2.2.2.2
  try simp only [RR] at y0
  try simp only [RR] at p0
  try simp only [e17, e18] at y0
  try simp only [e18] at y7
  try simp only [e22] at r0_0
  try simp only [e17, e18, e20, e22, e25] at r0_1
  try simp only [e27] at r1_0
  try simp only [e27] at r1_1
  try simp only [e29] at r1_2
  try simp only [e27] at r1_3
  clear g3
  clear g4
  clear f6 f9 f12 f15 f18 f28 f31 f34 f37 f41 e17 e18 e20 e22 e25 e27 e29
  clear f2 f22 f26
  subst e1
  subst e2
  subst e3
  subst e7
  subst e9
  subst e15
  rw [f3] at f7
  first
  | (have ix0 : n4 = 12 * (hV H0 285 35) := Eq.trans f7 (w32_iv (Iml 12 rfl (Iat f5 f4)) (by decide)); subst ix0; clear f7)
  | (have ix0 : n4 = 12 * (hV H0 285 35) := Eq.trans f7 (w32_id (by omega) (by omega)); subst ix0; clear f7)
  | (unfold w32 at f7; have ix0 : n4 = 12 * (hV H0 285 35) := (by omega); subst ix0)
  | skip
  first
  | (have ix1 : n8 = (12 * (hV H0 285 35)) + hV H1 306 (hV H0 285 35).toNat := Eq.trans f16 (w32_iv (Iad (Iml 12 rfl (Iat f5 f4)) (Iat f14 f13)) (by decide)); subst ix1; clear f16)
  | (have ix1 : n8 = (12 * (hV H0 285 35)) + hV H1 306 (hV H0 285 35).toNat := Eq.trans f16 (w32_id (by omega) (by omega)); subst ix1; clear f16)
  | (unfold w32 at f16; have ix1 : n8 = (12 * (hV H0 285 35)) + hV H1 306 (hV H0 285 35).toNat := (by omega); subst ix1)
  | skip
  try unfold w32 at f7
  try unfold w32 at f16
  omega
def g_232_53_10 : vG := ([(20, [18, 1], [6], 44), (90, [18], [], 0), (91, [18], [], 400), (80, [15, 8, 16], [6, 5], 0), (20, [16, 1], [5], 51), (90, [16], [], 0), (91, [16], [], 1200), (20, [15, 1], [5], 39), (0, [15], [], 309), (80, [13, 8, 14], [5, 4], 0), (20, [14, 1], [4], 51), (90, [14], [], 0), (91, [14], [], 1200), (20, [13, 1], [4], 38), (0, [13], [], 308), (1219, [1], [3, 4], 0), (80, [9, 8, 12], [3, 2], 0), (0, [12], [], 0), (31, [11], [], 0), (1216, [11, 1, 10], [1, 2], 0), (90, [11], [], 0), (91, [11], [], 1), (0, [10], [], 42), (20, [9, 1], [1], 37), (0, [9], [], 307), (1, [8, 4, 7], [], 0), (22, [7, 5, 6], [1], 0), (90, [7], [], 0), (91, [7], [], 12), (20, [6, 1], [1], 35), (90, [6], [], 0), (91, [6], [], 1), (20, [5, 1], [1], 36), (0, [5], [], 306), (3, [4, 2, 3], [], 0), (20, [3, 1], [1], 35), (90, [3], [], 0), (91, [3], [], 1), (0, [2], [], 12), (5000, [0, 1], [0, 1], 53), (0, [0], [], 285), (0, [1], [], 285)], (70, [8], [], 24))
theorem c_232_53_10 {q0 : Nat} : vOkm T0 (eP e_232 L_232 A_232 mu_232 (some q0)) 1 g_232_53_10 := vOk_inI fun ρ η f0 f1 f2 f3 f4 f5 f6 f7 f8 f9 f10 f11 f12 f13 f14 f15 f16 f17 f18 f19 f20 f21 f22 f23 f24 f25 f26 f27 f28 f29 f30 f31 f32 f33 f34 f35 f36 f37 f38 f39 f40 f41 => q_232_19 (q0 := q0) (n0 := ρ 1) (n1 := ρ 0) (n2 := ρ 2) (n3 := ρ 3) (n4 := ρ 4) (n5 := ρ 5) (n6 := ρ 6) (n7 := ρ 7) (n8 := ρ 8) (n9 := ρ 9) (n10 := ρ 10) (n11 := ρ 11) (n12 := ρ 12) (n13 := ρ 13) (n14 := ρ 14) (n15 := ρ 15) (n16 := ρ 16) (n17 := ρ 18) (H0 := η 0) (H1 := η 1) (H2 := η 2) (H3 := η 3) (H4 := η 4) (H5 := η 5) (H6 := η 6) f41 f40 f39 f38 f37 f36 f35 f34 f33 f32 f31 f30 f29 f28 f27 f26 f25 f24 f23 f22 f21 f20 f19 f18 f17 f16 f15 f14 f13 f12 f11 f10 f9 f8 f7 f6 f5 f4 f3 f2 f1 f0
set_option maxHeartbeats 20000000 in
theorem q_232_20 {q0 : Nat} {n0 n1 n2 n3 n4 n5 n6 n7 n8 n9 n10 n11 n12 n13 n14 n15 n16 n17 : Int} {H0 H1 H2 H3 H4 H5 H6 : gH} (f0 : n0 = 285) (f1 : n1 = 285) (f2 : (hLe T0 H0 H1 ∧ hFr s_232.2.2.2.2 H0 H1 ∧ hWt T0 H1) ∧ (Ab_232_53 n1 n0 H0 H1 ∧ preb_232 n1 H0) ∧ some q0 = some (mub_232_53 n1 n0 H0 H1)) (f3 : n2 = 12) (f4 : n3 ≤ 1) (f5 : 0 ≤ n3) (f6 : n3 = hV H1 (n0).toNat 35) (f7 : n4 = w32 (n2 * n3)) (f8 : n5 = 306) (f9 : n5 = hV H1 (n0).toNat 36) (f10 : n6 ≤ 1) (f11 : 0 ≤ n6) (f12 : n6 = hV H1 (n0).toNat 35) (f13 : n7 ≤ 12) (f14 : 0 ≤ n7) (f15 : n7 = hV H1 (n5).toNat (n6).toNat) (f16 : n8 = w32 (n4 + n7)) (f17 : n9 = 307) (f18 : n9 = hV H1 (n0).toNat 37) (f19 : n10 = 42) (f20 : n11 ≤ 1) (f21 : 0 ≤ n11) (f22 : (hLe T0 H1 H2 ∧ hFr s_216.2.2.2.2 H1 H2 ∧ ((0 : Int) = 0 → H2.length = H1.length) ∧ hWt T0 H2) ∧ postb_216 n11 n0 n10 H1 H2) (f23 : n11 ≠ 0) (f24 : n12 = 0) (f25 : hUpd H3 H2 n9 n8 n12) (f26 : (hLe T0 H3 H4 ∧ hFr s_219.2.2.2.2 H3 H4 ∧ ((0 : Int) = 0 → H4.length = H3.length) ∧ hWt T0 H4) ∧ postb_219 n0 H3 H4) (f27 : n13 = 308) (f28 : n13 = hV H4 (n0).toNat 38) (f29 : n14 ≤ 1200) (f30 : 0 ≤ n14) (f31 : n14 = hV H4 (n0).toNat 51) (f32 : hUpd H5 H4 n13 n8 n14) (f33 : n15 = 309) (f34 : n15 = hV H5 (n0).toNat 39) (f35 : n16 ≤ 1200) (f36 : 0 ≤ n16) (f37 : n16 = hV H5 (n0).toNat 51) (f38 : hUpd H6 H5 n15 n8 n16) (f39 : n17 ≤ 400) (f40 : 0 ≤ n17) (f41 : n17 = hV H6 (n0).toNat 44) : 0 ≤ n8 := by
  have g4 := f2.2.1.1
  unfold Ab_232_53 at g4
  have g3 := f2.2.1.2
  unfold preb_232 at g3
  unfold postb_216 at f22
  unfold postb_219 at f26
  have e1 : n3 = hV H0 285 35 := (by rw [f0] at f6; exact f6 : n3 = hV H1 285 35).trans ((f2.1.2.1.1 285 35 kF_232_285_35))
  have e2 : n6 = hV H0 285 35 := (by rw [f0] at f12; exact f12 : n6 = hV H1 285 35).trans ((f2.1.2.1.1 285 35 kF_232_285_35))
  have e3 : n7 = hV H1 306 (n6).toNat := (by rw [f8] at f15; exact f15 : n7 = hV H1 306 (n6).toNat)
  have e7 : n14 = hV H1 285 51 := (by rw [f0] at f31; exact f31 : n14 = hV H4 285 51).trans (((f26.1.2.1.1 285 51 kF_219_285_51)).trans (((uPlace f25 285 51 (iS (show n9 = ((307 : Nat) : Int) from f17) rfl))).trans (f22.1.2.1.1 285 51 kF_216_285_51)))
  have e9 : n16 = hV H1 285 51 := (by rw [f0] at f37; exact f37 : n16 = hV H5 285 51).trans (((uPlace f32 285 51 (iS (show n13 = ((308 : Nat) : Int) from f27) rfl))).trans (((f26.1.2.1.1 285 51 kF_219_285_51)).trans (((uPlace f25 285 51 (iS (show n9 = ((307 : Nat) : Int) from f17) rfl))).trans (f22.1.2.1.1 285 51 kF_216_285_51))))
  have e15 : n17 = hV H1 285 44 := (by rw [f0] at f41; exact f41 : n17 = hV H6 285 44).trans (((uPlace f38 285 44 (iS (show n15 = ((309 : Nat) : Int) from f33) rfl))).trans (((uPlace f32 285 44 (iS (show n13 = ((308 : Nat) : Int) from f27) rfl))).trans (((f26.1.2.1.1 285 44 kF_219_285_44)).trans (((uPlace f25 285 44 (iS (show n9 = ((307 : Nat) : Int) from f17) rfl))).trans (f22.1.2.1.1 285 44 kF_216_285_44)))))
  have e17 : hV H1 285 34 = hV H0 285 34 := (f2.1.2.1.1 285 34 kF_232_285_34)
  have e18 : hV H1 285 35 = hV H0 285 35 := (f2.1.2.1.1 285 35 kF_232_285_35)
  have e20 : hV H2 285 11 = hV H1 285 11 := (f22.1.2.1.1 285 11 kF_216_285_11)
  have e22 : hV H2 285 13 = hV H1 285 13 := (f22.1.2.1.1 285 13 kF_216_285_13)
  have e25 : hV H2 288 = hV H0 288 := (fRow f22.1.2.1 288 kR_216_288).trans (fRow f2.1.2.1 288 kR_232_288)
  have e27 : hV H3 285 11 = hV H1 285 11 := ((uPlace f25 285 11 (iS (show n9 = ((307 : Nat) : Int) from f17) rfl))).trans (f22.1.2.1.1 285 11 kF_216_285_11)
  have e29 : hV H3 285 13 = hV H1 285 13 := ((uPlace f25 285 13 (iS (show n9 = ((307 : Nat) : Int) from f17) rfl))).trans (f22.1.2.1.1 285 13 kF_216_285_13)
  have e30 : (0 : Int) ≤ hV H1 285 11 ∧ hV H1 285 11 ≤ 500 := f2.1.2.2 285 11 _ _ kW_285_11
  have e31 : (0 : Int) ≤ hV H1 285 12 ∧ hV H1 285 12 ≤ 7 := f2.1.2.2 285 12 _ _ kW_285_12
  have e32 : (0 : Int) ≤ hV H1 285 13 ∧ hV H1 285 13 ≤ 2 := f2.1.2.2 285 13 _ _ kW_285_13
  have e33 : (0 : Int) ≤ hV H0 285 34 ∧ hV H0 285 34 ≤ 1 := bTo e17 (f2.1.2.2 285 34 _ _ kW_285_34)
  have e34 : (0 : Int) ≤ hV H0 285 35 ∧ hV H0 285 35 ≤ 1 := bTo e18 (f2.1.2.2 285 35 _ _ kW_285_35)
  have e35 : (0 : Int) ≤ hV H1 285 44 ∧ hV H1 285 44 ≤ 400 := f2.1.2.2 285 44 _ _ kW_285_44
  have e36 : (0 : Int) ≤ hV H1 285 51 ∧ hV H1 285 51 ≤ 1200 := f2.1.2.2 285 51 _ _ kW_285_51
  have e39 : (0 : Int) ≤ hV H4 285 11 ∧ hV H4 285 11 ≤ 500 := f26.1.2.2.2 285 11 _ _ kW_285_11
  have e40 : (0 : Int) ≤ hV H4 285 13 ∧ hV H4 285 13 ≤ 2 := f26.1.2.2.2 285 13 _ _ kW_285_13
  try simp only [RR]
  have y0 := g4.1
  have y1 := g4.2.1
  have y2 := g4.2.2.1
  have y3 := g4.2.2.2.1
  have y4 := g4.2.2.2.2.1
  have y5 := g4.2.2.2.2.2.1
  have y6 := g4.2.2.2.2.2.2.1
  have y7 := g4.2.2.2.2.2.2.2.1
  have y8 := g4.2.2.2.2.2.2.2.2
  have p0 := g3.1
  have p1 := g3.2.1
  have p2 := g3.2.2.1
  have p3 := g3.2.2.2.1
  have p4 := g3.2.2.2.2.1
  have p5 := g3.2.2.2.2.2.1
  have p6 := g3.2.2.2.2.2.2.1
  have p7 := g3.2.2.2.2.2.2.2
  have r0_0 := f22.2.1
  have r0_1 := f22.2.2.resolve_right (fun z => f23 z.1)
  have r1_0 := f26.2.1
  have r1_1 := f26.2.2.1
  have r1_2 := f26.2.2.2.1
  have r1_3 := f26.2.2.2.2
  try simp only [RR] at y0
  try simp only [RR] at p0
  try simp only [e17, e18] at y0
  try simp only [e18] at y7
  try simp only [e22] at r0_0
  try simp only [e17, e18, e20, e22, e25] at r0_1
  try simp only [e27] at r1_0
  try simp only [e27] at r1_1
  try simp only [e29] at r1_2
  try simp only [e27] at r1_3
  clear g3
  clear g4
  clear f6 f9 f12 f15 f18 f28 f31 f34 f37 f41 e17 e18 e20 e22 e25 e27 e29
  clear f2 f22 f26
  subst e1
  subst e2
  subst e3
  subst e7
  subst e9
  subst e15
  rw [f3] at f7
  first
  | (have ix0 : n4 = 12 * (hV H0 285 35) := Eq.trans f7 (w32_iv (Iml 12 rfl (Iat f5 f4)) (by decide)); subst ix0; clear f7)
  | (have ix0 : n4 = 12 * (hV H0 285 35) := Eq.trans f7 (w32_id (by omega) (by omega)); subst ix0; clear f7)
  | (unfold w32 at f7; have ix0 : n4 = 12 * (hV H0 285 35) := (by omega); subst ix0)
  | skip
  first
  | (have ix1 : n8 = (12 * (hV H0 285 35)) + hV H1 306 (hV H0 285 35).toNat := Eq.trans f16 (w32_iv (Iad (Iml 12 rfl (Iat f5 f4)) (Iat f14 f13)) (by decide)); subst ix1; clear f16)
  | (have ix1 : n8 = (12 * (hV H0 285 35)) + hV H1 306 (hV H0 285 35).toNat := Eq.trans f16 (w32_id (by omega) (by omega)); subst ix1; clear f16)
  | (unfold w32 at f16; have ix1 : n8 = (12 * (hV H0 285 35)) + hV H1 306 (hV H0 285 35).toNat := (by omega); subst ix1)
  | skip
  try unfold w32 at f7
  try unfold w32 at f16
  omega
def g_232_53_11 : vG := ([(20, [18, 1], [6], 44), (90, [18], [], 0), (91, [18], [], 400), (80, [15, 8, 16], [6, 5], 0), (20, [16, 1], [5], 51), (90, [16], [], 0), (91, [16], [], 1200), (20, [15, 1], [5], 39), (0, [15], [], 309), (80, [13, 8, 14], [5, 4], 0), (20, [14, 1], [4], 51), (90, [14], [], 0), (91, [14], [], 1200), (20, [13, 1], [4], 38), (0, [13], [], 308), (1219, [1], [3, 4], 0), (80, [9, 8, 12], [3, 2], 0), (0, [12], [], 0), (31, [11], [], 0), (1216, [11, 1, 10], [1, 2], 0), (90, [11], [], 0), (91, [11], [], 1), (0, [10], [], 42), (20, [9, 1], [1], 37), (0, [9], [], 307), (1, [8, 4, 7], [], 0), (22, [7, 5, 6], [1], 0), (90, [7], [], 0), (91, [7], [], 12), (20, [6, 1], [1], 35), (90, [6], [], 0), (91, [6], [], 1), (20, [5, 1], [1], 36), (0, [5], [], 306), (3, [4, 2, 3], [], 0), (20, [3, 1], [1], 35), (90, [3], [], 0), (91, [3], [], 1), (0, [2], [], 12), (5000, [0, 1], [0, 1], 53), (0, [0], [], 285), (0, [1], [], 285)], (90, [8], [], 0))
theorem c_232_53_11 {q0 : Nat} : vOkm T0 (eP e_232 L_232 A_232 mu_232 (some q0)) 1 g_232_53_11 := vOk_inI fun ρ η f0 f1 f2 f3 f4 f5 f6 f7 f8 f9 f10 f11 f12 f13 f14 f15 f16 f17 f18 f19 f20 f21 f22 f23 f24 f25 f26 f27 f28 f29 f30 f31 f32 f33 f34 f35 f36 f37 f38 f39 f40 f41 => q_232_20 (q0 := q0) (n0 := ρ 1) (n1 := ρ 0) (n2 := ρ 2) (n3 := ρ 3) (n4 := ρ 4) (n5 := ρ 5) (n6 := ρ 6) (n7 := ρ 7) (n8 := ρ 8) (n9 := ρ 9) (n10 := ρ 10) (n11 := ρ 11) (n12 := ρ 12) (n13 := ρ 13) (n14 := ρ 14) (n15 := ρ 15) (n16 := ρ 16) (n17 := ρ 18) (H0 := η 0) (H1 := η 1) (H2 := η 2) (H3 := η 3) (H4 := η 4) (H5 := η 5) (H6 := η 6) f41 f40 f39 f38 f37 f36 f35 f34 f33 f32 f31 f30 f29 f28 f27 f26 f25 f24 f23 f22 f21 f20 f19 f18 f17 f16 f15 f14 f13 f12 f11 f10 f9 f8 f7 f6 f5 f4 f3 f2 f1 f0
set_option maxHeartbeats 20000000 in
theorem q_232_21 {q0 : Nat} {n0 n1 n2 n3 n4 n5 n6 n7 n8 n9 n10 n11 n12 n13 n14 n15 n16 n17 : Int} {H0 H1 H2 H3 H4 H5 H6 : gH} (f0 : n0 = 285) (f1 : n1 = 285) (f2 : (hLe T0 H0 H1 ∧ hFr s_232.2.2.2.2 H0 H1 ∧ hWt T0 H1) ∧ (Ab_232_53 n1 n0 H0 H1 ∧ preb_232 n1 H0) ∧ some q0 = some (mub_232_53 n1 n0 H0 H1)) (f3 : n2 = 12) (f4 : n3 ≤ 1) (f5 : 0 ≤ n3) (f6 : n3 = hV H1 (n0).toNat 35) (f7 : n4 = w32 (n2 * n3)) (f8 : n5 = 306) (f9 : n5 = hV H1 (n0).toNat 36) (f10 : n6 ≤ 1) (f11 : 0 ≤ n6) (f12 : n6 = hV H1 (n0).toNat 35) (f13 : n7 ≤ 12) (f14 : 0 ≤ n7) (f15 : n7 = hV H1 (n5).toNat (n6).toNat) (f16 : n8 = w32 (n4 + n7)) (f17 : n9 = 307) (f18 : n9 = hV H1 (n0).toNat 37) (f19 : n10 = 42) (f20 : n11 ≤ 1) (f21 : 0 ≤ n11) (f22 : (hLe T0 H1 H2 ∧ hFr s_216.2.2.2.2 H1 H2 ∧ ((0 : Int) = 0 → H2.length = H1.length) ∧ hWt T0 H2) ∧ postb_216 n11 n0 n10 H1 H2) (f23 : n11 ≠ 0) (f24 : n12 = 0) (f25 : hUpd H3 H2 n9 n8 n12) (f26 : (hLe T0 H3 H4 ∧ hFr s_219.2.2.2.2 H3 H4 ∧ ((0 : Int) = 0 → H4.length = H3.length) ∧ hWt T0 H4) ∧ postb_219 n0 H3 H4) (f27 : n13 = 308) (f28 : n13 = hV H4 (n0).toNat 38) (f29 : n14 ≤ 1200) (f30 : 0 ≤ n14) (f31 : n14 = hV H4 (n0).toNat 51) (f32 : hUpd H5 H4 n13 n8 n14) (f33 : n15 = 309) (f34 : n15 = hV H5 (n0).toNat 39) (f35 : n16 ≤ 1200) (f36 : 0 ≤ n16) (f37 : n16 = hV H5 (n0).toNat 51) (f38 : hUpd H6 H5 n15 n8 n16) (f39 : n17 ≤ 400) (f40 : 0 ≤ n17) (f41 : n17 = hV H6 (n0).toNat 44) : n8 ≤ 23 := by
  have g4 := f2.2.1.1
  unfold Ab_232_53 at g4
  have g3 := f2.2.1.2
  unfold preb_232 at g3
  unfold postb_216 at f22
  unfold postb_219 at f26
  have e1 : n3 = hV H0 285 35 := (by rw [f0] at f6; exact f6 : n3 = hV H1 285 35).trans ((f2.1.2.1.1 285 35 kF_232_285_35))
  have e2 : n6 = hV H0 285 35 := (by rw [f0] at f12; exact f12 : n6 = hV H1 285 35).trans ((f2.1.2.1.1 285 35 kF_232_285_35))
  have e3 : n7 = hV H1 306 (n6).toNat := (by rw [f8] at f15; exact f15 : n7 = hV H1 306 (n6).toNat)
  have e7 : n14 = hV H1 285 51 := (by rw [f0] at f31; exact f31 : n14 = hV H4 285 51).trans (((f26.1.2.1.1 285 51 kF_219_285_51)).trans (((uPlace f25 285 51 (iS (show n9 = ((307 : Nat) : Int) from f17) rfl))).trans (f22.1.2.1.1 285 51 kF_216_285_51)))
  have e9 : n16 = hV H1 285 51 := (by rw [f0] at f37; exact f37 : n16 = hV H5 285 51).trans (((uPlace f32 285 51 (iS (show n13 = ((308 : Nat) : Int) from f27) rfl))).trans (((f26.1.2.1.1 285 51 kF_219_285_51)).trans (((uPlace f25 285 51 (iS (show n9 = ((307 : Nat) : Int) from f17) rfl))).trans (f22.1.2.1.1 285 51 kF_216_285_51))))
  have e15 : n17 = hV H1 285 44 := (by rw [f0] at f41; exact f41 : n17 = hV H6 285 44).trans (((uPlace f38 285 44 (iS (show n15 = ((309 : Nat) : Int) from f33) rfl))).trans (((uPlace f32 285 44 (iS (show n13 = ((308 : Nat) : Int) from f27) rfl))).trans (((f26.1.2.1.1 285 44 kF_219_285_44)).trans (((uPlace f25 285 44 (iS (show n9 = ((307 : Nat) : Int) from f17) rfl))).trans (f22.1.2.1.1 285 44 kF_216_285_44)))))
  have e17 : hV H1 285 34 = hV H0 285 34 := (f2.1.2.1.1 285 34 kF_232_285_34)
  have e18 : hV H1 285 35 = hV H0 285 35 := (f2.1.2.1.1 285 35 kF_232_285_35)
  have e20 : hV H2 285 11 = hV H1 285 11 := (f22.1.2.1.1 285 11 kF_216_285_11)
  have e22 : hV H2 285 13 = hV H1 285 13 := (f22.1.2.1.1 285 13 kF_216_285_13)
  have e25 : hV H2 288 = hV H0 288 := (fRow f22.1.2.1 288 kR_216_288).trans (fRow f2.1.2.1 288 kR_232_288)
  have e27 : hV H3 285 11 = hV H1 285 11 := ((uPlace f25 285 11 (iS (show n9 = ((307 : Nat) : Int) from f17) rfl))).trans (f22.1.2.1.1 285 11 kF_216_285_11)
  have e29 : hV H3 285 13 = hV H1 285 13 := ((uPlace f25 285 13 (iS (show n9 = ((307 : Nat) : Int) from f17) rfl))).trans (f22.1.2.1.1 285 13 kF_216_285_13)
  have e30 : (0 : Int) ≤ hV H1 285 11 ∧ hV H1 285 11 ≤ 500 := f2.1.2.2 285 11 _ _ kW_285_11
  have e31 : (0 : Int) ≤ hV H1 285 12 ∧ hV H1 285 12 ≤ 7 := f2.1.2.2 285 12 _ _ kW_285_12
  have e32 : (0 : Int) ≤ hV H1 285 13 ∧ hV H1 285 13 ≤ 2 := f2.1.2.2 285 13 _ _ kW_285_13
  have e33 : (0 : Int) ≤ hV H0 285 34 ∧ hV H0 285 34 ≤ 1 := bTo e17 (f2.1.2.2 285 34 _ _ kW_285_34)
  have e34 : (0 : Int) ≤ hV H0 285 35 ∧ hV H0 285 35 ≤ 1 := bTo e18 (f2.1.2.2 285 35 _ _ kW_285_35)
  have e35 : (0 : Int) ≤ hV H1 285 44 ∧ hV H1 285 44 ≤ 400 := f2.1.2.2 285 44 _ _ kW_285_44
  have e36 : (0 : Int) ≤ hV H1 285 51 ∧ hV H1 285 51 ≤ 1200 := f2.1.2.2 285 51 _ _ kW_285_51
  have e39 : (0 : Int) ≤ hV H4 285 11 ∧ hV H4 285 11 ≤ 500 := f26.1.2.2.2 285 11 _ _ kW_285_11
  have e40 : (0 : Int) ≤ hV H4 285 13 ∧ hV H4 285 13 ≤ 2 := f26.1.2.2.2 285 13 _ _ kW_285_13
  try simp only [RR]
  have y0 := g4.1
  have y1 := g4.2.1
  have y2 := g4.2.2.1
  have y3 := g4.2.2.2.1
  have y4 := g4.2.2.2.2.1
  have y5 := g4.2.2.2.2.2.1
  have y6 := g4.2.2.2.2.2.2.1
  have y7 := g4.2.2.2.2.2.2.2.1
  have y8 := g4.2.2.2.2.2.2.2.2
  have p0 := g3.1
  have p1 := g3.2.1
  have p2 := g3.2.2.1
  have p3 := g3.2.2.2.1
  have p4 := g3.2.2.2.2.1
  have p5 := g3.2.2.2.2.2.1
  have p6 := g3.2.2.2.2.2.2.1
  have p7 := g3.2.2.2.2.2.2.2
  have r0_0 := f22.2.1
  have r0_1 := f22.2.2.resolve_right (fun z => f23 z.1)
  have r1_0 := f26.2.1
  have r1_1 := f26.2.2.1
  have r1_2 := f26.2.2.2.1
  have r1_3 := f26.2.2.2.2
  try simp only [RR] at y0
  try simp only [RR] at p0
  try simp only [e17, e18] at y0
  try simp only [e18] at y7
  try simp only [e22] at r0_0
  try simp only [e17, e18, e20, e22, e25] at r0_1
  try simp only [e27] at r1_0
  try simp only [e27] at r1_1
  try simp only [e29] at r1_2
  try simp only [e27] at r1_3
  clear g3
  clear g4
  clear f6 f9 f12 f15 f18 f28 f31 f34 f37 f41 e17 e18 e20 e22 e25 e27 e29
  clear f2 f22 f26
  subst e1
  subst e2
  subst e3
  subst e7
  subst e9
  subst e15
  rw [f3] at f7
  first
  | (have ix0 : n4 = 12 * (hV H0 285 35) := Eq.trans f7 (w32_iv (Iml 12 rfl (Iat f5 f4)) (by decide)); subst ix0; clear f7)
  | (have ix0 : n4 = 12 * (hV H0 285 35) := Eq.trans f7 (w32_id (by omega) (by omega)); subst ix0; clear f7)
  | (unfold w32 at f7; have ix0 : n4 = 12 * (hV H0 285 35) := (by omega); subst ix0)
  | skip
  first
  | (have ix1 : n8 = (12 * (hV H0 285 35)) + hV H1 306 (hV H0 285 35).toNat := Eq.trans f16 (w32_iv (Iad (Iml 12 rfl (Iat f5 f4)) (Iat f14 f13)) (by decide)); subst ix1; clear f16)
  | (have ix1 : n8 = (12 * (hV H0 285 35)) + hV H1 306 (hV H0 285 35).toNat := Eq.trans f16 (w32_id (by omega) (by omega)); subst ix1; clear f16)
  | (unfold w32 at f16; have ix1 : n8 = (12 * (hV H0 285 35)) + hV H1 306 (hV H0 285 35).toNat := (by omega); subst ix1)
  | skip
  try unfold w32 at f7
  try unfold w32 at f16
  omega
def g_232_53_12 : vG := ([(20, [18, 1], [6], 44), (90, [18], [], 0), (91, [18], [], 400), (80, [15, 8, 16], [6, 5], 0), (20, [16, 1], [5], 51), (90, [16], [], 0), (91, [16], [], 1200), (20, [15, 1], [5], 39), (0, [15], [], 309), (80, [13, 8, 14], [5, 4], 0), (20, [14, 1], [4], 51), (90, [14], [], 0), (91, [14], [], 1200), (20, [13, 1], [4], 38), (0, [13], [], 308), (1219, [1], [3, 4], 0), (80, [9, 8, 12], [3, 2], 0), (0, [12], [], 0), (31, [11], [], 0), (1216, [11, 1, 10], [1, 2], 0), (90, [11], [], 0), (91, [11], [], 1), (0, [10], [], 42), (20, [9, 1], [1], 37), (0, [9], [], 307), (1, [8, 4, 7], [], 0), (22, [7, 5, 6], [1], 0), (90, [7], [], 0), (91, [7], [], 12), (20, [6, 1], [1], 35), (90, [6], [], 0), (91, [6], [], 1), (20, [5, 1], [1], 36), (0, [5], [], 306), (3, [4, 2, 3], [], 0), (20, [3, 1], [1], 35), (90, [3], [], 0), (91, [3], [], 1), (0, [2], [], 12), (5000, [0, 1], [0, 1], 53), (0, [0], [], 285), (0, [1], [], 285)], (91, [8], [], 23))
theorem c_232_53_12 {q0 : Nat} : vOkm T0 (eP e_232 L_232 A_232 mu_232 (some q0)) 1 g_232_53_12 := vOk_inI fun ρ η f0 f1 f2 f3 f4 f5 f6 f7 f8 f9 f10 f11 f12 f13 f14 f15 f16 f17 f18 f19 f20 f21 f22 f23 f24 f25 f26 f27 f28 f29 f30 f31 f32 f33 f34 f35 f36 f37 f38 f39 f40 f41 => q_232_21 (q0 := q0) (n0 := ρ 1) (n1 := ρ 0) (n2 := ρ 2) (n3 := ρ 3) (n4 := ρ 4) (n5 := ρ 5) (n6 := ρ 6) (n7 := ρ 7) (n8 := ρ 8) (n9 := ρ 9) (n10 := ρ 10) (n11 := ρ 11) (n12 := ρ 12) (n13 := ρ 13) (n14 := ρ 14) (n15 := ρ 15) (n16 := ρ 16) (n17 := ρ 18) (H0 := η 0) (H1 := η 1) (H2 := η 2) (H3 := η 3) (H4 := η 4) (H5 := η 5) (H6 := η 6) f41 f40 f39 f38 f37 f36 f35 f34 f33 f32 f31 f30 f29 f28 f27 f26 f25 f24 f23 f22 f21 f20 f19 f18 f17 f16 f15 f14 f13 f12 f11 f10 f9 f8 f7 f6 f5 f4 f3 f2 f1 f0
set_option maxHeartbeats 20000000 in
theorem q_232_22 {q0 : Nat} {n0 n1 n2 n3 n4 n5 n6 n7 n8 n9 n10 n11 n12 n13 n14 n15 n16 n17 n18 : Int} {H0 H1 H2 H3 H4 H5 H6 H7 : gH} (f0 : n0 = 285) (f1 : n1 = 285) (f2 : (hLe T0 H0 H1 ∧ hFr s_232.2.2.2.2 H0 H1 ∧ hWt T0 H1) ∧ (Ab_232_53 n1 n0 H0 H1 ∧ preb_232 n1 H0) ∧ some q0 = some (mub_232_53 n1 n0 H0 H1)) (f3 : n2 = 12) (f4 : n3 ≤ 1) (f5 : 0 ≤ n3) (f6 : n3 = hV H1 (n0).toNat 35) (f7 : n4 = w32 (n2 * n3)) (f8 : n5 = 306) (f9 : n5 = hV H1 (n0).toNat 36) (f10 : n6 ≤ 1) (f11 : 0 ≤ n6) (f12 : n6 = hV H1 (n0).toNat 35) (f13 : n7 ≤ 12) (f14 : 0 ≤ n7) (f15 : n7 = hV H1 (n5).toNat (n6).toNat) (f16 : n8 = w32 (n4 + n7)) (f17 : n9 = 307) (f18 : n9 = hV H1 (n0).toNat 37) (f19 : n10 = 42) (f20 : n11 ≤ 1) (f21 : 0 ≤ n11) (f22 : (hLe T0 H1 H2 ∧ hFr s_216.2.2.2.2 H1 H2 ∧ ((0 : Int) = 0 → H2.length = H1.length) ∧ hWt T0 H2) ∧ postb_216 n11 n0 n10 H1 H2) (f23 : n11 ≠ 0) (f24 : n12 = 0) (f25 : hUpd H3 H2 n9 n8 n12) (f26 : (hLe T0 H3 H4 ∧ hFr s_219.2.2.2.2 H3 H4 ∧ ((0 : Int) = 0 → H4.length = H3.length) ∧ hWt T0 H4) ∧ postb_219 n0 H3 H4) (f27 : n13 = 308) (f28 : n13 = hV H4 (n0).toNat 38) (f29 : n14 ≤ 1200) (f30 : 0 ≤ n14) (f31 : n14 = hV H4 (n0).toNat 51) (f32 : hUpd H5 H4 n13 n8 n14) (f33 : n15 = 309) (f34 : n15 = hV H5 (n0).toNat 39) (f35 : n16 ≤ 1200) (f36 : 0 ≤ n16) (f37 : n16 = hV H5 (n0).toNat 51) (f38 : hUpd H6 H5 n15 n8 n16) (f39 : n17 = 310) (f40 : n17 = hV H6 (n0).toNat 40) (f41 : n18 ≤ 400) (f42 : 0 ≤ n18) (f43 : n18 = hV H6 (n0).toNat 44) (f44 : hUpd H7 H6 n17 n8 n18) : Ab_232_125 n1 n0 n8 H0 H7 ∧ ∀ q, some q0 = some q → mub_232_125 n1 n0 n8 H0 H7 < q := by
  have g4 := f2.2.1.1
  unfold Ab_232_53 at g4
  have g3 := f2.2.1.2
  unfold preb_232 at g3
  have g5 := Option.some.inj f2.2.2
  unfold mub_232_53 at g5
  unfold postb_216 at f22
  unfold postb_219 at f26
  unfold Ab_232_125
  unfold mub_232_125
  have e1 : n3 = hV H0 285 35 := (by rw [f0] at f6; exact f6 : n3 = hV H1 285 35).trans ((f2.1.2.1.1 285 35 kF_232_285_35))
  have e2 : n6 = hV H0 285 35 := (by rw [f0] at f12; exact f12 : n6 = hV H1 285 35).trans ((f2.1.2.1.1 285 35 kF_232_285_35))
  have e3 : n7 = hV H1 306 (n6).toNat := (by rw [f8] at f15; exact f15 : n7 = hV H1 306 (n6).toNat)
  have e7 : n14 = hV H1 285 51 := (by rw [f0] at f31; exact f31 : n14 = hV H4 285 51).trans (((f26.1.2.1.1 285 51 kF_219_285_51)).trans (((uPlace f25 285 51 (iS (show n9 = ((307 : Nat) : Int) from f17) rfl))).trans (f22.1.2.1.1 285 51 kF_216_285_51)))
  have e9 : n16 = hV H1 285 51 := (by rw [f0] at f37; exact f37 : n16 = hV H5 285 51).trans (((uPlace f32 285 51 (iS (show n13 = ((308 : Nat) : Int) from f27) rfl))).trans (((f26.1.2.1.1 285 51 kF_219_285_51)).trans (((uPlace f25 285 51 (iS (show n9 = ((307 : Nat) : Int) from f17) rfl))).trans (f22.1.2.1.1 285 51 kF_216_285_51))))
  have e15 : n18 = hV H1 285 44 := (by rw [f0] at f43; exact f43 : n18 = hV H6 285 44).trans (((uPlace f38 285 44 (iS (show n15 = ((309 : Nat) : Int) from f33) rfl))).trans (((uPlace f32 285 44 (iS (show n13 = ((308 : Nat) : Int) from f27) rfl))).trans (((f26.1.2.1.1 285 44 kF_219_285_44)).trans (((uPlace f25 285 44 (iS (show n9 = ((307 : Nat) : Int) from f17) rfl))).trans (f22.1.2.1.1 285 44 kF_216_285_44)))))
  have e17 : hV H1 285 34 = hV H0 285 34 := (f2.1.2.1.1 285 34 kF_232_285_34)
  have e18 : hV H1 285 35 = hV H0 285 35 := (f2.1.2.1.1 285 35 kF_232_285_35)
  have e20 : hV H2 285 11 = hV H1 285 11 := (f22.1.2.1.1 285 11 kF_216_285_11)
  have e22 : hV H2 285 13 = hV H1 285 13 := (f22.1.2.1.1 285 13 kF_216_285_13)
  have e25 : hV H2 288 = hV H0 288 := (fRow f22.1.2.1 288 kR_216_288).trans (fRow f2.1.2.1 288 kR_232_288)
  have e27 : hV H3 285 11 = hV H1 285 11 := ((uPlace f25 285 11 (iS (show n9 = ((307 : Nat) : Int) from f17) rfl))).trans (f22.1.2.1.1 285 11 kF_216_285_11)
  have e29 : hV H3 285 13 = hV H1 285 13 := ((uPlace f25 285 13 (iS (show n9 = ((307 : Nat) : Int) from f17) rfl))).trans (f22.1.2.1.1 285 13 kF_216_285_13)
  have e33 : hV H7 285 11 = hV H4 285 11 := ((uPlace f44 285 11 (iS (show n17 = ((310 : Nat) : Int) from f39) rfl))).trans (((uPlace f38 285 11 (iS (show n15 = ((309 : Nat) : Int) from f33) rfl))).trans (uPlace f32 285 11 (iS (show n13 = ((308 : Nat) : Int) from f27) rfl)))
  have e40 : hV H7 285 12 = hV H1 285 12 := ((uPlace f44 285 12 (iS (show n17 = ((310 : Nat) : Int) from f39) rfl))).trans (((uPlace f38 285 12 (iS (show n15 = ((309 : Nat) : Int) from f33) rfl))).trans (((uPlace f32 285 12 (iS (show n13 = ((308 : Nat) : Int) from f27) rfl))).trans (((f26.1.2.1.1 285 12 kF_219_285_12)).trans (((uPlace f25 285 12 (iS (show n9 = ((307 : Nat) : Int) from f17) rfl))).trans (f22.1.2.1.1 285 12 kF_216_285_12)))))
  have e44 : hV H7 285 13 = hV H4 285 13 := ((uPlace f44 285 13 (iS (show n17 = ((310 : Nat) : Int) from f39) rfl))).trans (((uPlace f38 285 13 (iS (show n15 = ((309 : Nat) : Int) from f33) rfl))).trans (uPlace f32 285 13 (iS (show n13 = ((308 : Nat) : Int) from f27) rfl)))
  have e51 : hV H7 285 34 = hV H0 285 34 := ((uPlace f44 285 34 (iS (show n17 = ((310 : Nat) : Int) from f39) rfl))).trans (((uPlace f38 285 34 (iS (show n15 = ((309 : Nat) : Int) from f33) rfl))).trans (((uPlace f32 285 34 (iS (show n13 = ((308 : Nat) : Int) from f27) rfl))).trans (((f26.1.2.1.1 285 34 kF_219_285_34)).trans (((uPlace f25 285 34 (iS (show n9 = ((307 : Nat) : Int) from f17) rfl))).trans (((f22.1.2.1.1 285 34 kF_216_285_34)).trans (f2.1.2.1.1 285 34 kF_232_285_34))))))
  have e58 : hV H7 285 35 = hV H0 285 35 := ((uPlace f44 285 35 (iS (show n17 = ((310 : Nat) : Int) from f39) rfl))).trans (((uPlace f38 285 35 (iS (show n15 = ((309 : Nat) : Int) from f33) rfl))).trans (((uPlace f32 285 35 (iS (show n13 = ((308 : Nat) : Int) from f27) rfl))).trans (((f26.1.2.1.1 285 35 kF_219_285_35)).trans (((uPlace f25 285 35 (iS (show n9 = ((307 : Nat) : Int) from f17) rfl))).trans (((f22.1.2.1.1 285 35 kF_216_285_35)).trans (f2.1.2.1.1 285 35 kF_232_285_35))))))
  have e60 : hV H7 285 44 = hV H1 285 44 := ((uPlace f44 285 44 (iS (show n17 = ((310 : Nat) : Int) from f39) rfl))).trans (((uPlace f38 285 44 (iS (show n15 = ((309 : Nat) : Int) from f33) rfl))).trans (((uPlace f32 285 44 (iS (show n13 = ((308 : Nat) : Int) from f27) rfl))).trans (((f26.1.2.1.1 285 44 kF_219_285_44)).trans (((uPlace f25 285 44 (iS (show n9 = ((307 : Nat) : Int) from f17) rfl))).trans (f22.1.2.1.1 285 44 kF_216_285_44)))))
  have e63 : hV H7 285 51 = hV H1 285 51 := ((uPlace f44 285 51 (iS (show n17 = ((310 : Nat) : Int) from f39) rfl))).trans (((uPlace f38 285 51 (iS (show n15 = ((309 : Nat) : Int) from f33) rfl))).trans (((uPlace f32 285 51 (iS (show n13 = ((308 : Nat) : Int) from f27) rfl))).trans (((f26.1.2.1.1 285 51 kF_219_285_51)).trans (((uPlace f25 285 51 (iS (show n9 = ((307 : Nat) : Int) from f17) rfl))).trans (f22.1.2.1.1 285 51 kF_216_285_51)))))
  have e74 : hV H7 306 = hV H1 306 := (uRowNe f44 306 (iS (show n17 = ((310 : Nat) : Int) from f39) rfl)).trans ((uRowNe f38 306 (iS (show n15 = ((309 : Nat) : Int) from f33) rfl)).trans ((uRowNe f32 306 (iS (show n13 = ((308 : Nat) : Int) from f27) rfl)).trans ((fRow f26.1.2.1 306 kR_219_306).trans ((uRowNe f25 306 (iS (show n9 = ((307 : Nat) : Int) from f17) rfl)).trans (fRow f22.1.2.1 306 kR_216_306)))))
  have e85 : hV H7 307 = (uF (hV H1 307) n8 n12) := (uRowNe f44 307 (iS (show n17 = ((310 : Nat) : Int) from f39) rfl)).trans ((uRowNe f38 307 (iS (show n15 = ((309 : Nat) : Int) from f33) rfl)).trans ((uRowNe f32 307 (iS (show n13 = ((308 : Nat) : Int) from f27) rfl)).trans ((fRow f26.1.2.1 307 kR_219_307).trans ((uRow f25 307 f17.symm).trans (congrArg (fun z => uF z n8 n12) (fRow f22.1.2.1 307 kR_216_307))))))
  have e96 : hV H7 308 = (uF (hV H1 308) n8 n14) := (uRowNe f44 308 (iS (show n17 = ((310 : Nat) : Int) from f39) rfl)).trans ((uRowNe f38 308 (iS (show n15 = ((309 : Nat) : Int) from f33) rfl)).trans ((uRow f32 308 f27.symm).trans (congrArg (fun z => uF z n8 n14) ((fRow f26.1.2.1 308 kR_219_308).trans ((uRowNe f25 308 (iS (show n9 = ((307 : Nat) : Int) from f17) rfl)).trans (fRow f22.1.2.1 308 kR_216_308))))))
  have e107 : hV H7 309 = (uF (hV H1 309) n8 n16) := (uRowNe f44 309 (iS (show n17 = ((310 : Nat) : Int) from f39) rfl)).trans ((uRow f38 309 f33.symm).trans (congrArg (fun z => uF z n8 n16) ((uRowNe f32 309 (iS (show n13 = ((308 : Nat) : Int) from f27) rfl)).trans ((fRow f26.1.2.1 309 kR_219_309).trans ((uRowNe f25 309 (iS (show n9 = ((307 : Nat) : Int) from f17) rfl)).trans (fRow f22.1.2.1 309 kR_216_309))))))
  have e118 : hV H7 310 = (uF (hV H1 310) n8 n18) := (uRow f44 310 f39.symm).trans (congrArg (fun z => uF z n8 n18) ((uRowNe f38 310 (iS (show n15 = ((309 : Nat) : Int) from f33) rfl)).trans ((uRowNe f32 310 (iS (show n13 = ((308 : Nat) : Int) from f27) rfl)).trans ((fRow f26.1.2.1 310 kR_219_310).trans ((uRowNe f25 310 (iS (show n9 = ((307 : Nat) : Int) from f17) rfl)).trans (fRow f22.1.2.1 310 kR_216_310))))))
  have e129 : hV H7 311 = hV H1 311 := (uRowNe f44 311 (iS (show n17 = ((310 : Nat) : Int) from f39) rfl)).trans ((uRowNe f38 311 (iS (show n15 = ((309 : Nat) : Int) from f33) rfl)).trans ((uRowNe f32 311 (iS (show n13 = ((308 : Nat) : Int) from f27) rfl)).trans ((fRow f26.1.2.1 311 kR_219_311).trans ((uRowNe f25 311 (iS (show n9 = ((307 : Nat) : Int) from f17) rfl)).trans (fRow f22.1.2.1 311 kR_216_311)))))
  have e140 : hV H7 317 = hV H1 317 := (uRowNe f44 317 (iS (show n17 = ((310 : Nat) : Int) from f39) rfl)).trans ((uRowNe f38 317 (iS (show n15 = ((309 : Nat) : Int) from f33) rfl)).trans ((uRowNe f32 317 (iS (show n13 = ((308 : Nat) : Int) from f27) rfl)).trans ((fRow f26.1.2.1 317 kR_219_317).trans ((uRowNe f25 317 (iS (show n9 = ((307 : Nat) : Int) from f17) rfl)).trans (fRow f22.1.2.1 317 kR_216_317)))))
  have e151 : hV H7 318 = hV H1 318 := (uRowNe f44 318 (iS (show n17 = ((310 : Nat) : Int) from f39) rfl)).trans ((uRowNe f38 318 (iS (show n15 = ((309 : Nat) : Int) from f33) rfl)).trans ((uRowNe f32 318 (iS (show n13 = ((308 : Nat) : Int) from f27) rfl)).trans ((fRow f26.1.2.1 318 kR_219_318).trans ((uRowNe f25 318 (iS (show n9 = ((307 : Nat) : Int) from f17) rfl)).trans (fRow f22.1.2.1 318 kR_216_318)))))
  have e162 : hV H7 319 = hV H1 319 := (uRowNe f44 319 (iS (show n17 = ((310 : Nat) : Int) from f39) rfl)).trans ((uRowNe f38 319 (iS (show n15 = ((309 : Nat) : Int) from f33) rfl)).trans ((uRowNe f32 319 (iS (show n13 = ((308 : Nat) : Int) from f27) rfl)).trans ((fRow f26.1.2.1 319 kR_219_319).trans ((uRowNe f25 319 (iS (show n9 = ((307 : Nat) : Int) from f17) rfl)).trans (fRow f22.1.2.1 319 kR_216_319)))))
  have e173 : hV H7 320 = hV H1 320 := (uRowNe f44 320 (iS (show n17 = ((310 : Nat) : Int) from f39) rfl)).trans ((uRowNe f38 320 (iS (show n15 = ((309 : Nat) : Int) from f33) rfl)).trans ((uRowNe f32 320 (iS (show n13 = ((308 : Nat) : Int) from f27) rfl)).trans ((fRow f26.1.2.1 320 kR_219_320).trans ((uRowNe f25 320 (iS (show n9 = ((307 : Nat) : Int) from f17) rfl)).trans (fRow f22.1.2.1 320 kR_216_320)))))
  have e184 : hV H7 321 = hV H1 321 := (uRowNe f44 321 (iS (show n17 = ((310 : Nat) : Int) from f39) rfl)).trans ((uRowNe f38 321 (iS (show n15 = ((309 : Nat) : Int) from f33) rfl)).trans ((uRowNe f32 321 (iS (show n13 = ((308 : Nat) : Int) from f27) rfl)).trans ((fRow f26.1.2.1 321 kR_219_321).trans ((uRowNe f25 321 (iS (show n9 = ((307 : Nat) : Int) from f17) rfl)).trans (fRow f22.1.2.1 321 kR_216_321)))))
  have e185 : RN H2 = RN H1 := RN_fr f22.1.2.1 (by decide +kernel)
  have e186 : RN H3 = RN H2 := RN_upR f25 (show n9 = ((307 : Nat) : Int) from f17) (by decide)
  have e187 : RN H3 = RN H1 := e186.trans e185
  have e188 : RN H4 = RN H3 := RN_fr f26.1.2.1 (by decide +kernel)
  have e189 : RN H4 = RN H1 := e188.trans e187
  have e190 : RN H5 = RN H4 := RN_upR f32 (show n13 = ((308 : Nat) : Int) from f27) (by decide)
  have e191 : RN H5 = RN H1 := e190.trans e189
  have e192 : RN H6 = RN H5 := RN_upR f38 (show n15 = ((309 : Nat) : Int) from f33) (by decide)
  have e193 : RN H6 = RN H1 := e192.trans e191
  have e194 : RN H7 = RN H6 := RN_upR f44 (show n17 = ((310 : Nat) : Int) from f39) (by decide)
  have e195 : RN H7 = RN H1 := e194.trans e193
  have e196 : (0 : Int) ≤ hV H1 285 11 ∧ hV H1 285 11 ≤ 500 := f2.1.2.2 285 11 _ _ kW_285_11
  have e197 : (0 : Int) ≤ hV H1 285 12 ∧ hV H1 285 12 ≤ 7 := f2.1.2.2 285 12 _ _ kW_285_12
  have e198 : (0 : Int) ≤ hV H1 285 13 ∧ hV H1 285 13 ≤ 2 := f2.1.2.2 285 13 _ _ kW_285_13
  have e199 : (0 : Int) ≤ hV H0 285 34 ∧ hV H0 285 34 ≤ 1 := bTo e17 (f2.1.2.2 285 34 _ _ kW_285_34)
  have e200 : (0 : Int) ≤ hV H0 285 35 ∧ hV H0 285 35 ≤ 1 := bTo e18 (f2.1.2.2 285 35 _ _ kW_285_35)
  have e201 : (0 : Int) ≤ hV H1 285 44 ∧ hV H1 285 44 ≤ 400 := f2.1.2.2 285 44 _ _ kW_285_44
  have e202 : (0 : Int) ≤ hV H1 285 51 ∧ hV H1 285 51 ≤ 1200 := f2.1.2.2 285 51 _ _ kW_285_51
  have e205 : (0 : Int) ≤ hV H4 285 11 ∧ hV H4 285 11 ≤ 500 := f26.1.2.2.2 285 11 _ _ kW_285_11
  have e206 : (0 : Int) ≤ hV H4 285 13 ∧ hV H4 285 13 ≤ 2 := f26.1.2.2.2 285 13 _ _ kW_285_13
  try simp only [RR]
  try simp only [e33, e40, e44, e51, e58, e60, e63, e74, e85, e96, e107, e118, e129, e140, e151, e162, e173, e184, e195]
  have y0 := g4.1
  have y1 := g4.2.1
  have y2 := g4.2.2.1
  have y3 := g4.2.2.2.1
  have y4 := g4.2.2.2.2.1
  have y5 := g4.2.2.2.2.2.1
  have y6 := g4.2.2.2.2.2.2.1
  have y7 := g4.2.2.2.2.2.2.2.1
  have y8 := g4.2.2.2.2.2.2.2.2
  have p0 := g3.1
  have p1 := g3.2.1
  have p2 := g3.2.2.1
  have p3 := g3.2.2.2.1
  have p4 := g3.2.2.2.2.1
  have p5 := g3.2.2.2.2.2.1
  have p6 := g3.2.2.2.2.2.2.1
  have p7 := g3.2.2.2.2.2.2.2
  have r0_0 := f22.2.1
  have r0_1 := f22.2.2.resolve_right (fun z => f23 z.1)
  have r1_0 := f26.2.1
  have r1_1 := f26.2.2.1
  have r1_2 := f26.2.2.2.1
  have r1_3 := f26.2.2.2.2
  try simp only [RR] at y0
  try simp only [RR] at p0
  try simp only [e17, e18] at y0
  try simp only [e18] at y7
  try simp only [e22] at r0_0
  try simp only [e17, e18, e20, e22, e25] at r0_1
  try simp only [e27] at r1_0
  try simp only [e27] at r1_1
  try simp only [e29] at r1_2
  try simp only [e27] at r1_3
  clear g3
  clear g4
  clear f6 f9 f12 f15 f18 f28 f31 f34 f37 f40 f43 e17 e18 e20 e22 e25 e27 e29 e33 e40 e44 e51 e58 e60 e63 e74 e85 e96 e107 e118 e129 e140 e151 e162 e173 e184 e185 e186 e187 e188 e189 e190 e191 e192 e193 e194 e195
  clear f2 f22 f26
  subst e1
  subst e2
  subst e3
  subst e7
  subst e9
  subst e15
  rw [f3] at f7
  first
  | (have ix0 : n4 = 12 * (hV H0 285 35) := Eq.trans f7 (w32_iv (Iml 12 rfl (Iat f5 f4)) (by decide)); subst ix0; clear f7)
  | (have ix0 : n4 = 12 * (hV H0 285 35) := Eq.trans f7 (w32_id (by omega) (by omega)); subst ix0; clear f7)
  | (unfold w32 at f7; have ix0 : n4 = 12 * (hV H0 285 35) := (by omega); subst ix0)
  | skip
  first
  | (have ix1 : n8 = (12 * (hV H0 285 35)) + hV H1 306 (hV H0 285 35).toNat := Eq.trans f16 (w32_iv (Iad (Iml 12 rfl (Iat f5 f4)) (Iat f14 f13)) (by decide)); subst ix1; clear f16)
  | (have ix1 : n8 = (12 * (hV H0 285 35)) + hV H1 306 (hV H0 285 35).toNat := Eq.trans f16 (w32_id (by omega) (by omega)); subst ix1; clear f16)
  | (unfold w32 at f16; have ix1 : n8 = (12 * (hV H0 285 35)) + hV H1 306 (hV H0 285 35).toNat := (by omega); subst ix1)
  | skip
  try unfold w32 at f7
  try unfold w32 at f16

  have w_rules := fun x : Nat => y8 x
  refine ⟨⟨?_, ?_, ?_, ?_, ?_, ?_, ?_, ?_, ?_, ?_, ?_, ?_, ?_⟩, fun q hq => ?_⟩
  · first
    | exact RR_keep y0 (by omega) (by omega) (by omega) w_rules (by omega) rfl (fun x hx => by refine ⟨?_, ?_, ?_, ?_, ?_⟩ <;> first | rfl | exact uF_ne (by omega) | exact (uF_ne (by omega)).trans (uF_ne (by omega)))
  · first | omega | (simp only [uF_at]; omega)
  · first | omega | (simp only [uF_at]; omega)
  · first | omega | (simp only [uF_at]; omega)
  · first | omega | (simp only [uF_at]; omega)
  · first | omega | (simp only [uF_at]; omega)
  · first | omega | (simp only [uF_at]; omega)
  · first | omega | (simp only [uF_at]; omega)
  · first | omega | (simp only [uF_at]; omega)
  · first | omega | (simp only [uF_at]; omega)
  · first | omega | (simp only [uF_at]; omega)
  · first | omega | (simp only [uF_at]; omega)
  · exact y8
  · have g6 := Option.some.inj hq
    subst g6
    omega
def g_232_53_13 : vG := ([(80, [17, 8, 18], [7, 6], 0), (20, [18, 1], [6], 44), (90, [18], [], 0), (91, [18], [], 400), (20, [17, 1], [6], 40), (0, [17], [], 310), (80, [15, 8, 16], [6, 5], 0), (20, [16, 1], [5], 51), (90, [16], [], 0), (91, [16], [], 1200), (20, [15, 1], [5], 39), (0, [15], [], 309), (80, [13, 8, 14], [5, 4], 0), (20, [14, 1], [4], 51), (90, [14], [], 0), (91, [14], [], 1200), (20, [13, 1], [4], 38), (0, [13], [], 308), (1219, [1], [3, 4], 0), (80, [9, 8, 12], [3, 2], 0), (0, [12], [], 0), (31, [11], [], 0), (1216, [11, 1, 10], [1, 2], 0), (90, [11], [], 0), (91, [11], [], 1), (0, [10], [], 42), (20, [9, 1], [1], 37), (0, [9], [], 307), (1, [8, 4, 7], [], 0), (22, [7, 5, 6], [1], 0), (90, [7], [], 0), (91, [7], [], 12), (20, [6, 1], [1], 35), (90, [6], [], 0), (91, [6], [], 1), (20, [5, 1], [1], 36), (0, [5], [], 306), (3, [4, 2, 3], [], 0), (20, [3, 1], [1], 35), (90, [3], [], 0), (91, [3], [], 1), (0, [2], [], 12), (5000, [0, 1], [0, 1], 53), (0, [0], [], 285), (0, [1], [], 285)], (4000, [1, 8], [7], 125))
theorem c_232_53_13 {q0 : Nat} : vOkm T0 (eP e_232 L_232 A_232 mu_232 (some q0)) 1 g_232_53_13 := vOk_inI fun ρ η f0 f1 f2 f3 f4 f5 f6 f7 f8 f9 f10 f11 f12 f13 f14 f15 f16 f17 f18 f19 f20 f21 f22 f23 f24 f25 f26 f27 f28 f29 f30 f31 f32 f33 f34 f35 f36 f37 f38 f39 f40 f41 f42 f43 f44 => q_232_22 (q0 := q0) (n0 := ρ 1) (n1 := ρ 0) (n2 := ρ 2) (n3 := ρ 3) (n4 := ρ 4) (n5 := ρ 5) (n6 := ρ 6) (n7 := ρ 7) (n8 := ρ 8) (n9 := ρ 9) (n10 := ρ 10) (n11 := ρ 11) (n12 := ρ 12) (n13 := ρ 13) (n14 := ρ 14) (n15 := ρ 15) (n16 := ρ 16) (n17 := ρ 17) (n18 := ρ 18) (H0 := η 0) (H1 := η 1) (H2 := η 2) (H3 := η 3) (H4 := η 4) (H5 := η 5) (H6 := η 6) (H7 := η 7) f44 f43 f42 f41 f40 f39 f38 f37 f36 f35 f34 f33 f32 f31 f30 f29 f28 f27 f26 f25 f24 f23 f22 f21 f20 f19 f18 f17 f16 f15 f14 f13 f12 f11 f10 f9 f8 f7 f6 f5 f4 f3 f2 f1 f0
def p_232_53 : List vG := [g_232_53_0,
  g_232_53_1,
  g_232_53_2,
  g_232_53_3,
  g_232_53_4,
  g_232_53_5,
  g_232_53_6,
  g_232_53_7,
  g_232_53_8,
  g_232_53_9,
  g_232_53_10,
  g_232_53_11,
  g_232_53_12,
  g_232_53_13]
theorem r_232_53 : vCovO false (eRc e_232 L_232 cs_232 2000 (53, [(0, (3, 12, 285, 0))])) p_232_53 = true := by decide +kernel
set_option maxHeartbeats 20000000 in
theorem q_232_23 {q0 : Nat} {n0 n1 n2 n3 n4 n5 : Int} {H0 H1 : gH} (f0 : n0 ≤ 23) (f1 : 0 ≤ n0) (f2 : n1 = 285) (f3 : n2 = 285) (f4 : (hLe T0 H0 H1 ∧ hFr s_232.2.2.2.2 H0 H1 ∧ hWt T0 H1) ∧ (Ab_232_125 n2 n1 n0 H0 H1 ∧ preb_232 n2 H0) ∧ some q0 = some (mub_232_125 n2 n1 n0 H0 H1)) (f5 : n3 = 307) (f6 : n3 = hV H1 (n1).toNat 37) (f7 : n4 ≤ 1) (f8 : 0 ≤ n4) (f9 : n4 = hV H1 (n3).toNat (n0).toNat) (f10 : n5 = 1) (f11 : n4 ≠ n5) : preb_236 n1 H1 := by
  have g4 := f4.2.1.1
  unfold Ab_232_125 at g4
  have g3 := f4.2.1.2
  unfold preb_232 at g3
  unfold preb_236
  have e0 : n4 = hV H1 307 (n0).toNat := (by rw [f5] at f9; exact f9 : n4 = hV H1 307 (n0).toNat)
  have e2 : hV H1 285 34 = hV H0 285 34 := (f4.1.2.1.1 285 34 kF_232_285_34)
  have e4 : hV H1 285 35 = hV H0 285 35 := (f4.1.2.1.1 285 35 kF_232_285_35)
  have e5 : (0 : Int) ≤ hV H1 285 11 ∧ hV H1 285 11 ≤ 500 := f4.1.2.2 285 11 _ _ kW_285_11
  have e6 : (0 : Int) ≤ hV H1 285 12 ∧ hV H1 285 12 ≤ 7 := f4.1.2.2 285 12 _ _ kW_285_12
  have e7 : (0 : Int) ≤ hV H1 285 13 ∧ hV H1 285 13 ≤ 2 := f4.1.2.2 285 13 _ _ kW_285_13
  have e8 : (0 : Int) ≤ hV H0 285 34 ∧ hV H0 285 34 ≤ 1 := bTo e2 (f4.1.2.2 285 34 _ _ kW_285_34)
  have e9 : (0 : Int) ≤ hV H0 285 35 ∧ hV H0 285 35 ≤ 1 := bTo e4 (f4.1.2.2 285 35 _ _ kW_285_35)
  have e10 : (0 : Int) ≤ hV H1 285 44 ∧ hV H1 285 44 ≤ 400 := f4.1.2.2 285 44 _ _ kW_285_44
  have e11 : (0 : Int) ≤ hV H1 285 51 ∧ hV H1 285 51 ≤ 1200 := f4.1.2.2 285 51 _ _ kW_285_51
  try simp only [e2, e4]
  have y0 := g4.1
  have y1 := g4.2.1
  have y2 := g4.2.2.1
  have y3 := g4.2.2.2.1
  have y4 := g4.2.2.2.2.1
  have y5 := g4.2.2.2.2.2.1
  have y6 := g4.2.2.2.2.2.2.1
  have y7 := g4.2.2.2.2.2.2.2.1
  have y8 := g4.2.2.2.2.2.2.2.2.1
  have y9 := g4.2.2.2.2.2.2.2.2.2.1
  have y10 := g4.2.2.2.2.2.2.2.2.2.2.1
  have y11 := g4.2.2.2.2.2.2.2.2.2.2.2.1
  have y12 := g4.2.2.2.2.2.2.2.2.2.2.2.2
  have p0 := g3.1
  have p1 := g3.2.1
  have p2 := g3.2.2.1
  have p3 := g3.2.2.2.1
  have p4 := g3.2.2.2.2.1
  have p5 := g3.2.2.2.2.2.1
  have p6 := g3.2.2.2.2.2.2.1
  have p7 := g3.2.2.2.2.2.2.2
  try simp only [e4] at y7
  try simp only [e4] at y8
  clear g3
  clear g4
  clear f6 f9 e2 e4
  clear f4
  subst e0
  subst y8
  refine ⟨?_, ?_, ?_, ?_, ?_⟩ <;> first | assumption | omega | trivial
def g_232_125_0 : vG := ([(41, [4, 5], [], 0), (0, [5], [], 1), (22, [4, 3, 2], [1], 0), (90, [4], [], 0), (91, [4], [], 1), (20, [3, 1], [1], 37), (0, [3], [], 307), (5000, [0, 1, 2], [0, 1], 125), (0, [0], [], 285), (0, [1], [], 285), (90, [2], [], 0), (91, [2], [], 23)], (2236, [1], [1], 0))
theorem c_232_125_0 {q0 : Nat} : vOkm T0 (eP e_232 L_232 A_232 mu_232 (some q0)) 1 g_232_125_0 := vOk_inI fun ρ η f0 f1 f2 f3 f4 f5 f6 f7 f8 f9 f10 f11 => q_232_23 (q0 := q0) (n0 := ρ 2) (n1 := ρ 1) (n2 := ρ 0) (n3 := ρ 3) (n4 := ρ 4) (n5 := ρ 5) (H0 := η 0) (H1 := η 1) f11 f10 f9 f8 f7 f6 f5 f4 f3 f2 f1 f0
set_option maxHeartbeats 20000000 in
theorem q_232_24 {q0 : Nat} {n0 n1 n2 n3 n4 n5 n6 n7 n8 n9 n10 : Int} {H0 H1 H2 H3 H4 : gH} (f0 : n0 ≤ 23) (f1 : 0 ≤ n0) (f2 : n1 = 285) (f3 : n2 = 285) (f4 : (hLe T0 H0 H1 ∧ hFr s_232.2.2.2.2 H0 H1 ∧ hWt T0 H1) ∧ (Ab_232_125 n2 n1 n0 H0 H1 ∧ preb_232 n2 H0) ∧ some q0 = some (mub_232_125 n2 n1 n0 H0 H1)) (f5 : n3 = 307) (f6 : n3 = hV H1 (n1).toNat 37) (f7 : n4 ≤ 1) (f8 : 0 ≤ n4) (f9 : n4 = hV H1 (n3).toNat (n0).toNat) (f10 : n5 = 1) (f11 : n4 ≠ n5) (f12 : (hLe T0 H1 H2 ∧ hFr s_236.2.2.2.2 H1 H2 ∧ ((0 : Int) = 0 → H2.length = H1.length) ∧ hWt T0 H2) ∧ postb_236 n1 H1 H2) (f13 : n6 = 309) (f14 : n6 = hV H2 (n1).toNat 39) (f15 : n7 ≤ 1200) (f16 : 0 ≤ n7) (f17 : n7 = hV H2 (n1).toNat 51) (f18 : hUpd H3 H2 n6 n0 n7) (f19 : n8 = 43) (f20 : n9 ≤ 1) (f21 : 0 ≤ n9) (f22 : (hLe T0 H3 H4 ∧ hFr s_216.2.2.2.2 H3 H4 ∧ ((0 : Int) = 0 → H4.length = H3.length) ∧ hWt T0 H4) ∧ postb_216 n9 n1 n8 H3 H4) (f23 : n9 = 0) (f24 : n10 = 1) : Ab_232_202 n2 n1 n0 n9 n10 H0 H4 ∧ ∀ q, some q0 = some q → mub_232_202 n2 n1 n0 n9 n10 H0 H4 < q := by
  have g4 := f4.2.1.1
  unfold Ab_232_125 at g4
  have g3 := f4.2.1.2
  unfold preb_232 at g3
  have g5 := Option.some.inj f4.2.2
  unfold mub_232_125 at g5
  unfold postb_236 at f12
  unfold postb_216 at f22
  unfold Ab_232_202
  unfold mub_232_202
  have e0 : n4 = hV H1 307 (n0).toNat := (by rw [f5] at f9; exact f9 : n4 = hV H1 307 (n0).toNat)
  have e1 : n7 = hV H2 285 51 := (by rw [f2] at f17; exact f17 : n7 = hV H2 285 51)
  have e3 : hV H1 285 34 = hV H0 285 34 := (f4.1.2.1.1 285 34 kF_232_285_34)
  have e5 : hV H1 285 35 = hV H0 285 35 := (f4.1.2.1.1 285 35 kF_232_285_35)
  have e7 : hV H2 285 34 = hV H0 285 34 := ((f12.1.2.1.1 285 34 kF_236_285_34)).trans (f4.1.2.1.1 285 34 kF_232_285_34)
  have e9 : hV H2 285 35 = hV H0 285 35 := ((f12.1.2.1.1 285 35 kF_236_285_35)).trans (f4.1.2.1.1 285 35 kF_232_285_35)
  have e11 : hV H2 285 44 = hV H1 285 44 := (f12.1.2.1.1 285 44 kF_236_285_44)
  have e12 : hV H2 306 = hV H1 306 := fRow f12.1.2.1 306 kR_236_306
  have e13 : hV H2 307 = hV H1 307 := fRow f12.1.2.1 307 kR_236_307
  have e14 : hV H2 308 = hV H1 308 := fRow f12.1.2.1 308 kR_236_308
  have e15 : hV H2 309 = hV H1 309 := fRow f12.1.2.1 309 kR_236_309
  have e16 : hV H2 310 = hV H1 310 := fRow f12.1.2.1 310 kR_236_310
  have e17 : hV H2 311 = hV H1 311 := fRow f12.1.2.1 311 kR_236_311
  have e18 : hV H2 317 = hV H1 317 := fRow f12.1.2.1 317 kR_236_317
  have e19 : hV H2 318 = hV H1 318 := fRow f12.1.2.1 318 kR_236_318
  have e20 : hV H2 319 = hV H1 319 := fRow f12.1.2.1 319 kR_236_319
  have e23 : hV H4 285 11 = hV H2 285 11 := ((f22.1.2.1.1 285 11 kF_216_285_11)).trans (uPlace f18 285 11 (iS (show n6 = ((309 : Nat) : Int) from f13) rfl))
  have e26 : hV H4 285 12 = hV H2 285 12 := ((f22.1.2.1.1 285 12 kF_216_285_12)).trans (uPlace f18 285 12 (iS (show n6 = ((309 : Nat) : Int) from f13) rfl))
  have e29 : hV H4 285 13 = hV H2 285 13 := ((f22.1.2.1.1 285 13 kF_216_285_13)).trans (uPlace f18 285 13 (iS (show n6 = ((309 : Nat) : Int) from f13) rfl))
  have e32 : hV H4 285 34 = hV H0 285 34 := ((f22.1.2.1.1 285 34 kF_216_285_34)).trans (((uPlace f18 285 34 (iS (show n6 = ((309 : Nat) : Int) from f13) rfl))).trans (((f12.1.2.1.1 285 34 kF_236_285_34)).trans (f4.1.2.1.1 285 34 kF_232_285_34)))
  have e35 : hV H4 285 35 = hV H0 285 35 := ((f22.1.2.1.1 285 35 kF_216_285_35)).trans (((uPlace f18 285 35 (iS (show n6 = ((309 : Nat) : Int) from f13) rfl))).trans (((f12.1.2.1.1 285 35 kF_236_285_35)).trans (f4.1.2.1.1 285 35 kF_232_285_35)))
  have e38 : hV H4 285 44 = hV H1 285 44 := ((f22.1.2.1.1 285 44 kF_216_285_44)).trans (((uPlace f18 285 44 (iS (show n6 = ((309 : Nat) : Int) from f13) rfl))).trans (f12.1.2.1.1 285 44 kF_236_285_44))
  have e41 : hV H4 285 51 = hV H2 285 51 := ((f22.1.2.1.1 285 51 kF_216_285_51)).trans (uPlace f18 285 51 (iS (show n6 = ((309 : Nat) : Int) from f13) rfl))
  have e52 : hV H4 306 = hV H1 306 := (fRow f22.1.2.1 306 kR_216_306).trans ((uRowNe f18 306 (iS (show n6 = ((309 : Nat) : Int) from f13) rfl)).trans e12)
  have e56 : hV H4 307 = hV H1 307 := (fRow f22.1.2.1 307 kR_216_307).trans ((uRowNe f18 307 (iS (show n6 = ((309 : Nat) : Int) from f13) rfl)).trans e13)
  have e60 : hV H4 308 = hV H1 308 := (fRow f22.1.2.1 308 kR_216_308).trans ((uRowNe f18 308 (iS (show n6 = ((309 : Nat) : Int) from f13) rfl)).trans e14)
  have e64 : hV H4 309 = (uF (hV H1 309) n0 n7) := (fRow f22.1.2.1 309 kR_216_309).trans ((uRow f18 309 f13.symm).trans (congrArg (fun z => uF z n0 n7) e15))
  have e68 : hV H4 310 = hV H1 310 := (fRow f22.1.2.1 310 kR_216_310).trans ((uRowNe f18 310 (iS (show n6 = ((309 : Nat) : Int) from f13) rfl)).trans e16)
  have e72 : hV H4 311 = hV H1 311 := (fRow f22.1.2.1 311 kR_216_311).trans ((uRowNe f18 311 (iS (show n6 = ((309 : Nat) : Int) from f13) rfl)).trans e17)
  have e76 : hV H4 317 = hV H1 317 := (fRow f22.1.2.1 317 kR_216_317).trans ((uRowNe f18 317 (iS (show n6 = ((309 : Nat) : Int) from f13) rfl)).trans e18)
  have e80 : hV H4 318 = hV H1 318 := (fRow f22.1.2.1 318 kR_216_318).trans ((uRowNe f18 318 (iS (show n6 = ((309 : Nat) : Int) from f13) rfl)).trans e19)
  have e84 : hV H4 319 = hV H1 319 := (fRow f22.1.2.1 319 kR_216_319).trans ((uRowNe f18 319 (iS (show n6 = ((309 : Nat) : Int) from f13) rfl)).trans e20)
  have e87 : hV H4 320 = hV H2 320 := (fRow f22.1.2.1 320 kR_216_320).trans (uRowNe f18 320 (iS (show n6 = ((309 : Nat) : Int) from f13) rfl))
  have e90 : hV H4 321 = hV H2 321 := (fRow f22.1.2.1 321 kR_216_321).trans (uRowNe f18 321 (iS (show n6 = ((309 : Nat) : Int) from f13) rfl))
  have e91 : RN H2 = RN H1 := RN_fr f12.1.2.1 (by decide +kernel)
  have e92 : RN H3 = RN H2 := RN_upR f18 (show n6 = ((309 : Nat) : Int) from f13) (by decide)
  have e93 : RN H3 = RN H1 := e92.trans e91
  have e94 : RN H4 = RN H3 := RN_fr f22.1.2.1 (by decide +kernel)
  have e95 : RN H4 = RN H1 := e94.trans e93
  have e96 : (0 : Int) ≤ hV H1 285 11 ∧ hV H1 285 11 ≤ 500 := f4.1.2.2 285 11 _ _ kW_285_11
  have e97 : (0 : Int) ≤ hV H1 285 12 ∧ hV H1 285 12 ≤ 7 := f4.1.2.2 285 12 _ _ kW_285_12
  have e98 : (0 : Int) ≤ hV H1 285 13 ∧ hV H1 285 13 ≤ 2 := f4.1.2.2 285 13 _ _ kW_285_13
  have e99 : (0 : Int) ≤ hV H0 285 34 ∧ hV H0 285 34 ≤ 1 := bTo e3 (f4.1.2.2 285 34 _ _ kW_285_34)
  have e100 : (0 : Int) ≤ hV H0 285 35 ∧ hV H0 285 35 ≤ 1 := bTo e5 (f4.1.2.2 285 35 _ _ kW_285_35)
  have e101 : (0 : Int) ≤ hV H1 285 44 ∧ hV H1 285 44 ≤ 400 := f4.1.2.2 285 44 _ _ kW_285_44
  have e102 : (0 : Int) ≤ hV H1 285 51 ∧ hV H1 285 51 ≤ 1200 := f4.1.2.2 285 51 _ _ kW_285_51
  have e103 : (0 : Int) ≤ hV H2 285 11 ∧ hV H2 285 11 ≤ 500 := f12.1.2.2.2 285 11 _ _ kW_285_11
  have e104 : (0 : Int) ≤ hV H2 285 12 ∧ hV H2 285 12 ≤ 7 := f12.1.2.2.2 285 12 _ _ kW_285_12
  have e105 : (0 : Int) ≤ hV H2 285 13 ∧ hV H2 285 13 ≤ 2 := f12.1.2.2.2 285 13 _ _ kW_285_13
  have e109 : (0 : Int) ≤ hV H2 285 51 ∧ hV H2 285 51 ≤ 1200 := f12.1.2.2.2 285 51 _ _ kW_285_51
  try simp only [RR]
  try simp only [e23, e26, e29, e32, e35, e38, e41, e52, e56, e60, e64, e68, e72, e76, e80, e84, e87, e90, e95]
  have y0 := g4.1
  have y1 := g4.2.1
  have y2 := g4.2.2.1
  have y3 := g4.2.2.2.1
  have y4 := g4.2.2.2.2.1
  have y5 := g4.2.2.2.2.2.1
  have y6 := g4.2.2.2.2.2.2.1
  have y7 := g4.2.2.2.2.2.2.2.1
  have y8 := g4.2.2.2.2.2.2.2.2.1
  have y9 := g4.2.2.2.2.2.2.2.2.2.1
  have y10 := g4.2.2.2.2.2.2.2.2.2.2.1
  have y11 := g4.2.2.2.2.2.2.2.2.2.2.2.1
  have y12 := g4.2.2.2.2.2.2.2.2.2.2.2.2
  have p0 := g3.1
  have p1 := g3.2.1
  have p2 := g3.2.2.1
  have p3 := g3.2.2.2.1
  have p4 := g3.2.2.2.2.1
  have p5 := g3.2.2.2.2.2.1
  have p6 := g3.2.2.2.2.2.2.1
  have p7 := g3.2.2.2.2.2.2.2
  have r0_0 := f12.2.1
  have r0_1 := f12.2.2.1
  have r0_2 := f12.2.2.2.1
  have r0_3 := f12.2.2.2.2.1
  have r0_4 := f12.2.2.2.2.2.1
  have r0_5 := f12.2.2.2.2.2.2.1
  have r0_6 := f12.2.2.2.2.2.2.2.1
  have r0_7 := f12.2.2.2.2.2.2.2.2
  have r1_0 := f22.2.1
  try simp only [RR] at y0
  try simp only [RR] at p0
  try simp only [RR] at r0_0
  try simp only [e3, e5] at y0
  try simp only [e5] at y7
  try simp only [e5] at y8
  try simp only [e7, e9, e11, e12, e13, e14, e15, e16, e17, e18, e19, e20] at r0_0
  try simp only [e9] at r0_7
  try simp only [e29] at r1_0
  clear g3
  clear g4
  clear f6 f9 f14 f17 e3 e5 e7 e9 e11 e12 e13 e14 e15 e16 e17 e18 e19 e20 e23 e26 e29 e32 e35 e38 e41 e52 e56 e60 e64 e68 e72 e76 e80 e84 e87 e90 e91 e92 e93 e94 e95
  clear f4 f12 f22
  subst e0
  subst e1

  have w_rules := fun x : Nat => y12 x
  refine ⟨⟨?_, ?_, ?_, ?_, ?_, ?_, ?_, ?_, ?_, ?_, ?_, ?_, ?_, ?_, ?_, ?_⟩, fun q hq => ?_⟩
  · exact (by exact RR_keep r0_0 (by omega) (by omega) (by omega) w_rules (by omega) (q := n0) (by omega) (fun x hx => by refine ⟨?_, ?_, ?_, ?_, ?_⟩ <;> first | rfl | exact uF_ne (by omega) | exact (uF_ne (by omega)).trans (uF_ne (by omega))))
  · first | omega | (simp only [uF_at]; omega)
  · first | omega | (simp only [uF_at]; omega)
  · first | omega | (simp only [uF_at]; omega)
  · first | omega | (simp only [uF_at]; omega)
  · first | omega | (simp only [uF_at]; omega)
  · first | omega | (simp only [uF_at]; omega)
  · first | omega | (simp only [uF_at]; omega)
  · first | omega | (simp only [uF_at]; omega)
  · first | omega | (simp only [uF_at]; omega)
  · first | omega | (simp only [uF_at]; omega)
  · first | omega | (simp only [uF_at]; omega)
  · first | omega | (simp only [uF_at]; omega)
  · intro z
    have co := CO_end (r0_1 (by omega)) (by omega)
    refine CG_to co (by first | omega | (simp only [uF_at]; omega)) (by first | omega | (simp only [uF_at]; omega))
  · first | omega | (simp only [uF_at]; omega)
  · exact y12
  · have g6 := Option.some.inj hq
    subst g6
    omega
def g_232_125_1 : vG := ([(0, [10], [], 1), (30, [9], [], 0), (1216, [9, 1, 8], [3, 4], 0), (90, [9], [], 0), (91, [9], [], 1), (0, [8], [], 43), (80, [6, 2, 7], [3, 2], 0), (20, [7, 1], [2], 51), (90, [7], [], 0), (91, [7], [], 1200), (20, [6, 1], [2], 39), (0, [6], [], 309), (1236, [1], [1, 2], 0), (41, [4, 5], [], 0), (0, [5], [], 1), (22, [4, 3, 2], [1], 0), (90, [4], [], 0), (91, [4], [], 1), (20, [3, 1], [1], 37), (0, [3], [], 307), (5000, [0, 1, 2], [0, 1], 125), (0, [0], [], 285), (0, [1], [], 285), (90, [2], [], 0), (91, [2], [], 23)], (4000, [1, 2, 9, 10], [4], 202))
theorem c_232_125_1 {q0 : Nat} : vOkm T0 (eP e_232 L_232 A_232 mu_232 (some q0)) 1 g_232_125_1 := vOk_inI fun ρ η f0 f1 f2 f3 f4 f5 f6 f7 f8 f9 f10 f11 f12 f13 f14 f15 f16 f17 f18 f19 f20 f21 f22 f23 f24 => q_232_24 (q0 := q0) (n0 := ρ 2) (n1 := ρ 1) (n2 := ρ 0) (n3 := ρ 3) (n4 := ρ 4) (n5 := ρ 5) (n6 := ρ 6) (n7 := ρ 7) (n8 := ρ 8) (n9 := ρ 9) (n10 := ρ 10) (H0 := η 0) (H1 := η 1) (H2 := η 2) (H3 := η 3) (H4 := η 4) f24 f23 f22 f21 f20 f19 f18 f17 f16 f15 f14 f13 f12 f11 f10 f9 f8 f7 f6 f5 f4 f3 f2 f1 f0
set_option maxHeartbeats 20000000 in
theorem q_232_25 {q0 : Nat} {n0 n1 n2 n3 n4 n5 n6 n7 n8 n9 n10 : Int} {H0 H1 H2 H3 H4 H5 : gH} (f0 : n0 ≤ 23) (f1 : 0 ≤ n0) (f2 : n1 = 285) (f3 : n2 = 285) (f4 : (hLe T0 H0 H1 ∧ hFr s_232.2.2.2.2 H0 H1 ∧ hWt T0 H1) ∧ (Ab_232_125 n2 n1 n0 H0 H1 ∧ preb_232 n2 H0) ∧ some q0 = some (mub_232_125 n2 n1 n0 H0 H1)) (f5 : n3 = 307) (f6 : n3 = hV H1 (n1).toNat 37) (f7 : n4 ≤ 1) (f8 : 0 ≤ n4) (f9 : n4 = hV H1 (n3).toNat (n0).toNat) (f10 : n5 = 1) (f11 : n4 ≠ n5) (f12 : (hLe T0 H1 H2 ∧ hFr s_236.2.2.2.2 H1 H2 ∧ ((0 : Int) = 0 → H2.length = H1.length) ∧ hWt T0 H2) ∧ postb_236 n1 H1 H2) (f13 : n6 = 309) (f14 : n6 = hV H2 (n1).toNat 39) (f15 : n7 ≤ 1200) (f16 : 0 ≤ n7) (f17 : n7 = hV H2 (n1).toNat 51) (f18 : hUpd H3 H2 n6 n0 n7) (f19 : n8 = 43) (f20 : n9 ≤ 1) (f21 : 0 ≤ n9) (f22 : (hLe T0 H3 H4 ∧ hFr s_216.2.2.2.2 H3 H4 ∧ ((0 : Int) = 0 → H4.length = H3.length) ∧ hWt T0 H4) ∧ postb_216 n9 n1 n8 H3 H4) (f23 : n9 ≠ 0) (f24 : (hLe T0 H4 H5 ∧ hFr s_219.2.2.2.2 H4 H5 ∧ ((0 : Int) = 0 → H5.length = H4.length) ∧ hWt T0 H5) ∧ postb_219 n1 H4 H5) (f25 : n10 = 1) : Ab_232_202 n2 n1 n0 n9 n10 H0 H5 ∧ ∀ q, some q0 = some q → mub_232_202 n2 n1 n0 n9 n10 H0 H5 < q := by
  have g4 := f4.2.1.1
  unfold Ab_232_125 at g4
  have g3 := f4.2.1.2
  unfold preb_232 at g3
  have g5 := Option.some.inj f4.2.2
  unfold mub_232_125 at g5
  unfold postb_236 at f12
  unfold postb_216 at f22
  unfold postb_219 at f24
  unfold Ab_232_202
  unfold mub_232_202
  have e0 : n4 = hV H1 307 (n0).toNat := (by rw [f5] at f9; exact f9 : n4 = hV H1 307 (n0).toNat)
  have e1 : n7 = hV H2 285 51 := (by rw [f2] at f17; exact f17 : n7 = hV H2 285 51)
  have e3 : hV H1 285 34 = hV H0 285 34 := (f4.1.2.1.1 285 34 kF_232_285_34)
  have e5 : hV H1 285 35 = hV H0 285 35 := (f4.1.2.1.1 285 35 kF_232_285_35)
  have e7 : hV H2 285 34 = hV H0 285 34 := ((f12.1.2.1.1 285 34 kF_236_285_34)).trans (f4.1.2.1.1 285 34 kF_232_285_34)
  have e9 : hV H2 285 35 = hV H0 285 35 := ((f12.1.2.1.1 285 35 kF_236_285_35)).trans (f4.1.2.1.1 285 35 kF_232_285_35)
  have e11 : hV H2 285 44 = hV H1 285 44 := (f12.1.2.1.1 285 44 kF_236_285_44)
  have e12 : hV H2 306 = hV H1 306 := fRow f12.1.2.1 306 kR_236_306
  have e13 : hV H2 307 = hV H1 307 := fRow f12.1.2.1 307 kR_236_307
  have e14 : hV H2 308 = hV H1 308 := fRow f12.1.2.1 308 kR_236_308
  have e15 : hV H2 309 = hV H1 309 := fRow f12.1.2.1 309 kR_236_309
  have e16 : hV H2 310 = hV H1 310 := fRow f12.1.2.1 310 kR_236_310
  have e17 : hV H2 311 = hV H1 311 := fRow f12.1.2.1 311 kR_236_311
  have e18 : hV H2 317 = hV H1 317 := fRow f12.1.2.1 317 kR_236_317
  have e19 : hV H2 318 = hV H1 318 := fRow f12.1.2.1 318 kR_236_318
  have e20 : hV H2 319 = hV H1 319 := fRow f12.1.2.1 319 kR_236_319
  have e23 : hV H4 285 11 = hV H2 285 11 := ((f22.1.2.1.1 285 11 kF_216_285_11)).trans (uPlace f18 285 11 (iS (show n6 = ((309 : Nat) : Int) from f13) rfl))
  have e26 : hV H4 285 13 = hV H2 285 13 := ((f22.1.2.1.1 285 13 kF_216_285_13)).trans (uPlace f18 285 13 (iS (show n6 = ((309 : Nat) : Int) from f13) rfl))
  have e33 : hV H4 288 = hV H0 288 := (fRow f22.1.2.1 288 kR_216_288).trans ((uRowNe f18 288 (iS (show n6 = ((309 : Nat) : Int) from f13) rfl)).trans ((fRow f12.1.2.1 288 kR_236_288).trans (fRow f4.1.2.1 288 kR_232_288)))
  have e37 : hV H5 285 12 = hV H2 285 12 := ((f24.1.2.1.1 285 12 kF_219_285_12)).trans (((f22.1.2.1.1 285 12 kF_216_285_12)).trans (uPlace f18 285 12 (iS (show n6 = ((309 : Nat) : Int) from f13) rfl)))
  have e41 : hV H5 285 34 = hV H0 285 34 := ((f24.1.2.1.1 285 34 kF_219_285_34)).trans (((f22.1.2.1.1 285 34 kF_216_285_34)).trans (((uPlace f18 285 34 (iS (show n6 = ((309 : Nat) : Int) from f13) rfl))).trans (((f12.1.2.1.1 285 34 kF_236_285_34)).trans (f4.1.2.1.1 285 34 kF_232_285_34))))
  have e45 : hV H5 285 35 = hV H0 285 35 := ((f24.1.2.1.1 285 35 kF_219_285_35)).trans (((f22.1.2.1.1 285 35 kF_216_285_35)).trans (((uPlace f18 285 35 (iS (show n6 = ((309 : Nat) : Int) from f13) rfl))).trans (((f12.1.2.1.1 285 35 kF_236_285_35)).trans (f4.1.2.1.1 285 35 kF_232_285_35))))
  have e49 : hV H5 285 44 = hV H1 285 44 := ((f24.1.2.1.1 285 44 kF_219_285_44)).trans (((f22.1.2.1.1 285 44 kF_216_285_44)).trans (((uPlace f18 285 44 (iS (show n6 = ((309 : Nat) : Int) from f13) rfl))).trans (f12.1.2.1.1 285 44 kF_236_285_44)))
  have e53 : hV H5 285 51 = hV H2 285 51 := ((f24.1.2.1.1 285 51 kF_219_285_51)).trans (((f22.1.2.1.1 285 51 kF_216_285_51)).trans (uPlace f18 285 51 (iS (show n6 = ((309 : Nat) : Int) from f13) rfl)))
  have e59 : hV H5 306 = hV H1 306 := (fRow f24.1.2.1 306 kR_219_306).trans ((fRow f22.1.2.1 306 kR_216_306).trans ((uRowNe f18 306 (iS (show n6 = ((309 : Nat) : Int) from f13) rfl)).trans e12))
  have e65 : hV H5 307 = hV H1 307 := (fRow f24.1.2.1 307 kR_219_307).trans ((fRow f22.1.2.1 307 kR_216_307).trans ((uRowNe f18 307 (iS (show n6 = ((309 : Nat) : Int) from f13) rfl)).trans e13))
  have e71 : hV H5 308 = hV H1 308 := (fRow f24.1.2.1 308 kR_219_308).trans ((fRow f22.1.2.1 308 kR_216_308).trans ((uRowNe f18 308 (iS (show n6 = ((309 : Nat) : Int) from f13) rfl)).trans e14))
  have e77 : hV H5 309 = (uF (hV H1 309) n0 n7) := (fRow f24.1.2.1 309 kR_219_309).trans ((fRow f22.1.2.1 309 kR_216_309).trans ((uRow f18 309 f13.symm).trans (congrArg (fun z => uF z n0 n7) e15)))
  have e83 : hV H5 310 = hV H1 310 := (fRow f24.1.2.1 310 kR_219_310).trans ((fRow f22.1.2.1 310 kR_216_310).trans ((uRowNe f18 310 (iS (show n6 = ((309 : Nat) : Int) from f13) rfl)).trans e16))
  have e89 : hV H5 311 = hV H1 311 := (fRow f24.1.2.1 311 kR_219_311).trans ((fRow f22.1.2.1 311 kR_216_311).trans ((uRowNe f18 311 (iS (show n6 = ((309 : Nat) : Int) from f13) rfl)).trans e17))
  have e95 : hV H5 317 = hV H1 317 := (fRow f24.1.2.1 317 kR_219_317).trans ((fRow f22.1.2.1 317 kR_216_317).trans ((uRowNe f18 317 (iS (show n6 = ((309 : Nat) : Int) from f13) rfl)).trans e18))
  have e101 : hV H5 318 = hV H1 318 := (fRow f24.1.2.1 318 kR_219_318).trans ((fRow f22.1.2.1 318 kR_216_318).trans ((uRowNe f18 318 (iS (show n6 = ((309 : Nat) : Int) from f13) rfl)).trans e19))
  have e107 : hV H5 319 = hV H1 319 := (fRow f24.1.2.1 319 kR_219_319).trans ((fRow f22.1.2.1 319 kR_216_319).trans ((uRowNe f18 319 (iS (show n6 = ((309 : Nat) : Int) from f13) rfl)).trans e20))
  have e112 : hV H5 320 = hV H2 320 := (fRow f24.1.2.1 320 kR_219_320).trans ((fRow f22.1.2.1 320 kR_216_320).trans (uRowNe f18 320 (iS (show n6 = ((309 : Nat) : Int) from f13) rfl)))
  have e117 : hV H5 321 = hV H2 321 := (fRow f24.1.2.1 321 kR_219_321).trans ((fRow f22.1.2.1 321 kR_216_321).trans (uRowNe f18 321 (iS (show n6 = ((309 : Nat) : Int) from f13) rfl)))
  have e118 : RN H2 = RN H1 := RN_fr f12.1.2.1 (by decide +kernel)
  have e119 : RN H3 = RN H2 := RN_upR f18 (show n6 = ((309 : Nat) : Int) from f13) (by decide)
  have e120 : RN H3 = RN H1 := e119.trans e118
  have e121 : RN H4 = RN H3 := RN_fr f22.1.2.1 (by decide +kernel)
  have e122 : RN H4 = RN H1 := e121.trans e120
  have e123 : RN H5 = RN H4 := RN_fr f24.1.2.1 (by decide +kernel)
  have e124 : RN H5 = RN H1 := e123.trans e122
  have e125 : (0 : Int) ≤ hV H1 285 11 ∧ hV H1 285 11 ≤ 500 := f4.1.2.2 285 11 _ _ kW_285_11
  have e126 : (0 : Int) ≤ hV H1 285 12 ∧ hV H1 285 12 ≤ 7 := f4.1.2.2 285 12 _ _ kW_285_12
  have e127 : (0 : Int) ≤ hV H1 285 13 ∧ hV H1 285 13 ≤ 2 := f4.1.2.2 285 13 _ _ kW_285_13
  have e128 : (0 : Int) ≤ hV H0 285 34 ∧ hV H0 285 34 ≤ 1 := bTo e3 (f4.1.2.2 285 34 _ _ kW_285_34)
  have e129 : (0 : Int) ≤ hV H0 285 35 ∧ hV H0 285 35 ≤ 1 := bTo e5 (f4.1.2.2 285 35 _ _ kW_285_35)
  have e130 : (0 : Int) ≤ hV H1 285 44 ∧ hV H1 285 44 ≤ 400 := f4.1.2.2 285 44 _ _ kW_285_44
  have e131 : (0 : Int) ≤ hV H1 285 51 ∧ hV H1 285 51 ≤ 1200 := f4.1.2.2 285 51 _ _ kW_285_51
  have e132 : (0 : Int) ≤ hV H2 285 11 ∧ hV H2 285 11 ≤ 500 := f12.1.2.2.2 285 11 _ _ kW_285_11
  have e133 : (0 : Int) ≤ hV H2 285 12 ∧ hV H2 285 12 ≤ 7 := f12.1.2.2.2 285 12 _ _ kW_285_12
  have e134 : (0 : Int) ≤ hV H2 285 13 ∧ hV H2 285 13 ≤ 2 := f12.1.2.2.2 285 13 _ _ kW_285_13
  have e138 : (0 : Int) ≤ hV H2 285 51 ∧ hV H2 285 51 ≤ 1200 := f12.1.2.2.2 285 51 _ _ kW_285_51
  have e141 : (0 : Int) ≤ hV H5 285 11 ∧ hV H5 285 11 ≤ 500 := f24.1.2.2.2 285 11 _ _ kW_285_11
  have e143 : (0 : Int) ≤ hV H5 285 13 ∧ hV H5 285 13 ≤ 2 := f24.1.2.2.2 285 13 _ _ kW_285_13
  try simp only [RR]
  try simp only [e37, e41, e45, e49, e53, e59, e65, e71, e77, e83, e89, e95, e101, e107, e112, e117, e124]
  have y0 := g4.1
  have y1 := g4.2.1
  have y2 := g4.2.2.1
  have y3 := g4.2.2.2.1
  have y4 := g4.2.2.2.2.1
  have y5 := g4.2.2.2.2.2.1
  have y6 := g4.2.2.2.2.2.2.1
  have y7 := g4.2.2.2.2.2.2.2.1
  have y8 := g4.2.2.2.2.2.2.2.2.1
  have y9 := g4.2.2.2.2.2.2.2.2.2.1
  have y10 := g4.2.2.2.2.2.2.2.2.2.2.1
  have y11 := g4.2.2.2.2.2.2.2.2.2.2.2.1
  have y12 := g4.2.2.2.2.2.2.2.2.2.2.2.2
  have p0 := g3.1
  have p1 := g3.2.1
  have p2 := g3.2.2.1
  have p3 := g3.2.2.2.1
  have p4 := g3.2.2.2.2.1
  have p5 := g3.2.2.2.2.2.1
  have p6 := g3.2.2.2.2.2.2.1
  have p7 := g3.2.2.2.2.2.2.2
  have r0_0 := f12.2.1
  have r0_1 := f12.2.2.1
  have r0_2 := f12.2.2.2.1
  have r0_3 := f12.2.2.2.2.1
  have r0_4 := f12.2.2.2.2.2.1
  have r0_5 := f12.2.2.2.2.2.2.1
  have r0_6 := f12.2.2.2.2.2.2.2.1
  have r0_7 := f12.2.2.2.2.2.2.2.2
  have r1_0 := f22.2.1
  have r1_1 := f22.2.2.resolve_right (fun z => f23 z.1)
  have r2_0 := f24.2.1
  have r2_1 := f24.2.2.1
  have r2_2 := f24.2.2.2.1
  have r2_3 := f24.2.2.2.2
  try simp only [RR] at y0
  try simp only [RR] at p0
  try simp only [RR] at r0_0
  try simp only [e3, e5] at y0
  try simp only [e5] at y7
  try simp only [e5] at y8
  try simp only [e7, e9, e11, e12, e13, e14, e15, e16, e17, e18, e19, e20] at r0_0
  try simp only [e9] at r0_7
  try simp only [e26] at r1_0
  try simp only [e23, e26, e33] at r1_1
  try simp only [e23] at r2_0
  try simp only [e23] at r2_1
  try simp only [e26] at r2_2
  try simp only [e23] at r2_3
  clear g3
  clear g4
  clear f6 f9 f14 f17 e3 e5 e7 e9 e11 e12 e13 e14 e15 e16 e17 e18 e19 e20 e23 e26 e33 e37 e41 e45 e49 e53 e59 e65 e71 e77 e83 e89 e95 e101 e107 e112 e117 e118 e119 e120 e121 e122 e123 e124
  clear f4 f12 f22 f24
  subst e0
  subst e1

  have w_rules := fun x : Nat => y12 x
  refine ⟨⟨?_, ?_, ?_, ?_, ?_, ?_, ?_, ?_, ?_, ?_, ?_, ?_, ?_, ?_, ?_, ?_⟩, fun q hq => ?_⟩
  · exact (by exact RR_keep r0_0 (by omega) (by omega) (by omega) w_rules (by omega) (q := n0) (by omega) (fun x hx => by refine ⟨?_, ?_, ?_, ?_, ?_⟩ <;> first | rfl | exact uF_ne (by omega) | exact (uF_ne (by omega)).trans (uF_ne (by omega))))
  · first | omega | (simp only [uF_at]; omega)
  · first | omega | (simp only [uF_at]; omega)
  · first | omega | (simp only [uF_at]; omega)
  · first | omega | (simp only [uF_at]; omega)
  · first | omega | (simp only [uF_at]; omega)
  · first | omega | (simp only [uF_at]; omega)
  · first | omega | (simp only [uF_at]; omega)
  · first | omega | (simp only [uF_at]; omega)
  · first | omega | (simp only [uF_at]; omega)
  · first | omega | (simp only [uF_at]; omega)
  · first | omega | (simp only [uF_at]; omega)
  · first | omega | (simp only [uF_at]; omega)
  · intro z
    have co := CO_end (r0_1 (by omega)) (by omega)
    refine CG_to co (by first | omega | (simp only [uF_at]; omega)) (by first | omega | (simp only [uF_at]; omega))
  · first | omega | (simp only [uF_at]; omega)
  · exact y12
  · have g6 := Option.some.inj hq
    subst g6
    omega
def g_232_125_2 : vG := ([(0, [10], [], 1), (1219, [1], [4, 5], 0), (31, [9], [], 0), (1216, [9, 1, 8], [3, 4], 0), (90, [9], [], 0), (91, [9], [], 1), (0, [8], [], 43), (80, [6, 2, 7], [3, 2], 0), (20, [7, 1], [2], 51), (90, [7], [], 0), (91, [7], [], 1200), (20, [6, 1], [2], 39), (0, [6], [], 309), (1236, [1], [1, 2], 0), (41, [4, 5], [], 0), (0, [5], [], 1), (22, [4, 3, 2], [1], 0), (90, [4], [], 0), (91, [4], [], 1), (20, [3, 1], [1], 37), (0, [3], [], 307), (5000, [0, 1, 2], [0, 1], 125), (0, [0], [], 285), (0, [1], [], 285), (90, [2], [], 0), (91, [2], [], 23)], (4000, [1, 2, 9, 10], [5], 202))
theorem c_232_125_2 {q0 : Nat} : vOkm T0 (eP e_232 L_232 A_232 mu_232 (some q0)) 1 g_232_125_2 := vOk_inI fun ρ η f0 f1 f2 f3 f4 f5 f6 f7 f8 f9 f10 f11 f12 f13 f14 f15 f16 f17 f18 f19 f20 f21 f22 f23 f24 f25 => q_232_25 (q0 := q0) (n0 := ρ 2) (n1 := ρ 1) (n2 := ρ 0) (n3 := ρ 3) (n4 := ρ 4) (n5 := ρ 5) (n6 := ρ 6) (n7 := ρ 7) (n8 := ρ 8) (n9 := ρ 9) (n10 := ρ 10) (H0 := η 0) (H1 := η 1) (H2 := η 2) (H3 := η 3) (H4 := η 4) (H5 := η 5) f25 f24 f23 f22 f21 f20 f19 f18 f17 f16 f15 f14 f13 f12 f11 f10 f9 f8 f7 f6 f5 f4 f3 f2 f1 f0
set_option maxHeartbeats 20000000 in
theorem kR_223_306 : vFreeR s_223.2.2.2.2 306 = true := by decide +kernel
theorem kR_220_306 : vFreeR s_220.2.2.2.2 306 = true := by decide +kernel
theorem kR_223_308 : vFreeR s_223.2.2.2.2 308 = true := by decide +kernel
theorem kR_220_308 : vFreeR s_220.2.2.2.2 308 = true := by decide +kernel
theorem kR_223_309 : vFreeR s_223.2.2.2.2 309 = true := by decide +kernel
theorem kR_220_309 : vFreeR s_220.2.2.2.2 309 = true := by decide +kernel
theorem kR_223_310 : vFreeR s_223.2.2.2.2 310 = true := by decide +kernel
theorem kR_220_310 : vFreeR s_220.2.2.2.2 310 = true := by decide +kernel
theorem kR_223_320 : vFreeR s_223.2.2.2.2 320 = true := by decide +kernel
theorem kR_220_320 : vFreeR s_220.2.2.2.2 320 = true := by decide +kernel
theorem kR_223_321 : vFreeR s_223.2.2.2.2 321 = true := by decide +kernel
theorem kR_220_321 : vFreeR s_220.2.2.2.2 321 = true := by decide +kernel
theorem kF_223_285_12 : vFree s_223.2.2.2.2 285 12 = true := by decide +kernel
theorem kF_220_285_12 : vFree s_220.2.2.2.2 285 12 = true := by decide +kernel
theorem kF_223_285_35 : vFree s_223.2.2.2.2 285 35 = true := by decide +kernel
theorem kF_220_285_35 : vFree s_220.2.2.2.2 285 35 = true := by decide +kernel
theorem kF_223_285_44 : vFree s_223.2.2.2.2 285 44 = true := by decide +kernel
theorem kF_220_285_44 : vFree s_220.2.2.2.2 285 44 = true := by decide +kernel
theorem kF_223_285_51 : vFree s_223.2.2.2.2 285 51 = true := by decide +kernel
theorem kF_220_285_51 : vFree s_220.2.2.2.2 285 51 = true := by decide +kernel
theorem q_232_26 {q0 : Nat} {n0 n1 n2 n3 n4 n5 n6 n7 n8 n9 n10 n11 n12 n13 n14 : Int} {H0 H1 H2 H3 H4 H5 H6 : gH} (f0 : n0 ≤ 23) (f1 : 0 ≤ n0) (f2 : n1 = 285) (f3 : n2 = 285) (f4 : (hLe T0 H0 H1 ∧ hFr s_232.2.2.2.2 H0 H1 ∧ hWt T0 H1) ∧ (Ab_232_125 n2 n1 n0 H0 H1 ∧ preb_232 n2 H0) ∧ some q0 = some (mub_232_125 n2 n1 n0 H0 H1)) (f5 : n3 = 307) (f6 : n3 = hV H1 (n1).toNat 37) (f7 : n4 ≤ 1) (f8 : 0 ≤ n4) (f9 : n4 = hV H1 (n3).toNat (n0).toNat) (f10 : n5 = 1) (f11 : n4 = n5) (f12 : n6 = 312) (f13 : n6 = hV H1 (n1).toNat 42) (f14 : n7 = 0) (f15 : n8 = 9999) (f16 : n9 ≤ 9999) (f17 : 0 ≤ n9) (f18 : (hLe T0 H1 H2 ∧ hFr s_223.2.2.2.2 H1 H2 ∧ ((0 : Int) = 0 → H2.length = H1.length) ∧ hWt T0 H2) ∧ postb_223 n9 n1 n7 n8 H1 H2) (f19 : hUpd H3 H2 n6 n0 n9) (f20 : n10 = 45) (f21 : (hLe T0 H3 H4 ∧ hFr s_220.2.2.2.2 H3 H4 ∧ ((0 : Int) = 0 → H4.length = H3.length) ∧ hWt T0 H4) ∧ postb_220 n1 n10 H3 H4) (f22 : n11 = 313) (f23 : n11 = hV H4 (n1).toNat 43) (f24 : n12 = 1) (f25 : n13 = 60) (f26 : n14 ≤ 9999) (f27 : 0 ≤ n14) (f28 : (hLe T0 H4 H5 ∧ hFr s_223.2.2.2.2 H4 H5 ∧ ((0 : Int) = 0 → H5.length = H4.length) ∧ hWt T0 H5) ∧ postb_223 n14 n1 n12 n13 H4 H5) (f29 : hUpd H6 H5 n11 n0 n14) : Ab_232_255 n2 n1 n0 H0 H6 ∧ ∀ q, some q0 = some q → mub_232_255 n2 n1 n0 H0 H6 < q := by
  have g4 := f4.2.1.1
  unfold Ab_232_125 at g4
  have g3 := f4.2.1.2
  unfold preb_232 at g3
  have g5 := Option.some.inj f4.2.2
  unfold mub_232_125 at g5
  unfold postb_223 at f18
  unfold postb_220 at f21
  unfold postb_223 at f28
  unfold Ab_232_255
  unfold mub_232_255
  have e0 : n4 = hV H1 307 (n0).toNat := (by rw [f5] at f9; exact f9 : n4 = hV H1 307 (n0).toNat)
  have e4 : hV H1 285 35 = hV H0 285 35 := (f4.1.2.1.1 285 35 kF_232_285_35)
  have e9 : hV H3 285 11 = hV H2 285 11 := (uPlace f19 285 11 (iS (show n6 = ((312 : Nat) : Int) from f12) rfl))
  have e11 : hV H3 285 13 = hV H2 285 13 := (uPlace f19 285 13 (iS (show n6 = ((312 : Nat) : Int) from f12) rfl))
  have e14 : hV H4 285 15 = hV H2 285 15 := ((f21.1.2.1.1 285 15 kF_220_285_15)).trans (uPlace f19 285 15 (iS (show n6 = ((312 : Nat) : Int) from f12) rfl))
  have e22 : hV H6 285 11 = hV H5 285 11 := (uPlace f29 285 11 (iS (show n11 = ((313 : Nat) : Int) from f22) rfl))
  have e28 : hV H6 285 12 = hV H1 285 12 := ((uPlace f29 285 12 (iS (show n11 = ((313 : Nat) : Int) from f22) rfl))).trans (((f28.1.2.1.1 285 12 kF_223_285_12)).trans (((f21.1.2.1.1 285 12 kF_220_285_12)).trans (((uPlace f19 285 12 (iS (show n6 = ((312 : Nat) : Int) from f12) rfl))).trans (f18.1.2.1.1 285 12 kF_223_285_12))))
  have e30 : hV H6 285 13 = hV H5 285 13 := (uPlace f29 285 13 (iS (show n11 = ((313 : Nat) : Int) from f22) rfl))
  have e36 : hV H6 285 35 = hV H0 285 35 := ((uPlace f29 285 35 (iS (show n11 = ((313 : Nat) : Int) from f22) rfl))).trans (((f28.1.2.1.1 285 35 kF_223_285_35)).trans (((f21.1.2.1.1 285 35 kF_220_285_35)).trans (((uPlace f19 285 35 (iS (show n6 = ((312 : Nat) : Int) from f12) rfl))).trans (((f18.1.2.1.1 285 35 kF_223_285_35)).trans (f4.1.2.1.1 285 35 kF_232_285_35)))))
  have e42 : hV H6 285 44 = hV H1 285 44 := ((uPlace f29 285 44 (iS (show n11 = ((313 : Nat) : Int) from f22) rfl))).trans (((f28.1.2.1.1 285 44 kF_223_285_44)).trans (((f21.1.2.1.1 285 44 kF_220_285_44)).trans (((uPlace f19 285 44 (iS (show n6 = ((312 : Nat) : Int) from f12) rfl))).trans (f18.1.2.1.1 285 44 kF_223_285_44))))
  have e48 : hV H6 285 51 = hV H1 285 51 := ((uPlace f29 285 51 (iS (show n11 = ((313 : Nat) : Int) from f22) rfl))).trans (((f28.1.2.1.1 285 51 kF_223_285_51)).trans (((f21.1.2.1.1 285 51 kF_220_285_51)).trans (((uPlace f19 285 51 (iS (show n6 = ((312 : Nat) : Int) from f12) rfl))).trans (f18.1.2.1.1 285 51 kF_223_285_51))))
  have e57 : hV H6 306 = hV H1 306 := (uRowNe f29 306 (iS (show n11 = ((313 : Nat) : Int) from f22) rfl)).trans ((fRow f28.1.2.1 306 kR_223_306).trans ((fRow f21.1.2.1 306 kR_220_306).trans ((uRowNe f19 306 (iS (show n6 = ((312 : Nat) : Int) from f12) rfl)).trans (fRow f18.1.2.1 306 kR_223_306))))
  have e66 : hV H6 308 = hV H1 308 := (uRowNe f29 308 (iS (show n11 = ((313 : Nat) : Int) from f22) rfl)).trans ((fRow f28.1.2.1 308 kR_223_308).trans ((fRow f21.1.2.1 308 kR_220_308).trans ((uRowNe f19 308 (iS (show n6 = ((312 : Nat) : Int) from f12) rfl)).trans (fRow f18.1.2.1 308 kR_223_308))))
  have e75 : hV H6 309 = hV H1 309 := (uRowNe f29 309 (iS (show n11 = ((313 : Nat) : Int) from f22) rfl)).trans ((fRow f28.1.2.1 309 kR_223_309).trans ((fRow f21.1.2.1 309 kR_220_309).trans ((uRowNe f19 309 (iS (show n6 = ((312 : Nat) : Int) from f12) rfl)).trans (fRow f18.1.2.1 309 kR_223_309))))
  have e84 : hV H6 310 = hV H1 310 := (uRowNe f29 310 (iS (show n11 = ((313 : Nat) : Int) from f22) rfl)).trans ((fRow f28.1.2.1 310 kR_223_310).trans ((fRow f21.1.2.1 310 kR_220_310).trans ((uRowNe f19 310 (iS (show n6 = ((312 : Nat) : Int) from f12) rfl)).trans (fRow f18.1.2.1 310 kR_223_310))))
  have e93 : hV H6 320 = hV H1 320 := (uRowNe f29 320 (iS (show n11 = ((313 : Nat) : Int) from f22) rfl)).trans ((fRow f28.1.2.1 320 kR_223_320).trans ((fRow f21.1.2.1 320 kR_220_320).trans ((uRowNe f19 320 (iS (show n6 = ((312 : Nat) : Int) from f12) rfl)).trans (fRow f18.1.2.1 320 kR_223_320))))
  have e102 : hV H6 321 = hV H1 321 := (uRowNe f29 321 (iS (show n11 = ((313 : Nat) : Int) from f22) rfl)).trans ((fRow f28.1.2.1 321 kR_223_321).trans ((fRow f21.1.2.1 321 kR_220_321).trans ((uRowNe f19 321 (iS (show n6 = ((312 : Nat) : Int) from f12) rfl)).trans (fRow f18.1.2.1 321 kR_223_321))))
  have e103 : RN H2 = RN H1 := RN_fr f18.1.2.1 (by decide +kernel)
  have e104 : RN H3 = RN H2 := RN_upR f19 (show n6 = ((312 : Nat) : Int) from f12) (by decide)
  have e105 : RN H3 = RN H1 := e104.trans e103
  have e106 : RN H4 = RN H3 := RN_fr f21.1.2.1 (by decide +kernel)
  have e107 : RN H4 = RN H1 := e106.trans e105
  have e108 : RN H5 = RN H4 := RN_fr f28.1.2.1 (by decide +kernel)
  have e109 : RN H5 = RN H1 := e108.trans e107
  have e110 : RN H6 = RN H5 := RN_upR f29 (show n11 = ((313 : Nat) : Int) from f22) (by decide)
  have e111 : RN H6 = RN H1 := e110.trans e109
  have e112 : RR H2 = RR H1 := RR_fr f18.1.2.1 (by decide +kernel)
  have e113 : RR H3 = RR H2 := RR_upR f19 (show n6 = ((312 : Nat) : Int) from f12) (by decide)
  have e114 : RR H3 = RR H1 := e113.trans e112
  have e115 : RR H4 = RR H3 := RR_fr f21.1.2.1 (by decide +kernel)
  have e116 : RR H4 = RR H1 := e115.trans e114
  have e117 : RR H5 = RR H4 := RR_fr f28.1.2.1 (by decide +kernel)
  have e118 : RR H5 = RR H1 := e117.trans e116
  have e119 : RR H6 = RR H5 := RR_upR f29 (show n11 = ((313 : Nat) : Int) from f22) (by decide)
  have e120 : RR H6 = RR H1 := e119.trans e118
  have e121 : (0 : Int) ≤ hV H1 285 11 ∧ hV H1 285 11 ≤ 500 := f4.1.2.2 285 11 _ _ kW_285_11
  have e122 : (0 : Int) ≤ hV H1 285 12 ∧ hV H1 285 12 ≤ 7 := f4.1.2.2 285 12 _ _ kW_285_12
  have e123 : (0 : Int) ≤ hV H1 285 13 ∧ hV H1 285 13 ≤ 2 := f4.1.2.2 285 13 _ _ kW_285_13
  have e124 : (0 : Int) ≤ hV H1 285 15 ∧ hV H1 285 15 ≤ 6 := f4.1.2.2 285 15 _ _ kW_285_15
  have e125 : (0 : Int) ≤ hV H0 285 34 ∧ hV H0 285 34 ≤ 1 := bTo ((f4.1.2.1.1 285 34 kF_232_285_34)) (f4.1.2.2 285 34 _ _ kW_285_34)
  have e126 : (0 : Int) ≤ hV H0 285 35 ∧ hV H0 285 35 ≤ 1 := bTo e4 (f4.1.2.2 285 35 _ _ kW_285_35)
  have e127 : (0 : Int) ≤ hV H1 285 44 ∧ hV H1 285 44 ≤ 400 := f4.1.2.2 285 44 _ _ kW_285_44
  have e128 : (0 : Int) ≤ hV H1 285 51 ∧ hV H1 285 51 ≤ 1200 := f4.1.2.2 285 51 _ _ kW_285_51
  have e129 : (0 : Int) ≤ hV H2 285 11 ∧ hV H2 285 11 ≤ 500 := f18.1.2.2.2 285 11 _ _ kW_285_11
  have e130 : (0 : Int) ≤ hV H2 285 13 ∧ hV H2 285 13 ≤ 2 := f18.1.2.2.2 285 13 _ _ kW_285_13
  have e131 : (0 : Int) ≤ hV H2 285 15 ∧ hV H2 285 15 ≤ 6 := f18.1.2.2.2 285 15 _ _ kW_285_15
  have e132 : (0 : Int) ≤ hV H4 285 11 ∧ hV H4 285 11 ≤ 500 := f21.1.2.2.2 285 11 _ _ kW_285_11
  have e133 : (0 : Int) ≤ hV H4 285 13 ∧ hV H4 285 13 ≤ 2 := f21.1.2.2.2 285 13 _ _ kW_285_13
  have e135 : (0 : Int) ≤ hV H5 285 11 ∧ hV H5 285 11 ≤ 500 := f28.1.2.2.2 285 11 _ _ kW_285_11
  have e136 : (0 : Int) ≤ hV H5 285 13 ∧ hV H5 285 13 ≤ 2 := f28.1.2.2.2 285 13 _ _ kW_285_13
  have e137 : (0 : Int) ≤ hV H5 285 15 ∧ hV H5 285 15 ≤ 6 := f28.1.2.2.2 285 15 _ _ kW_285_15
  try simp only [e22, e28, e30, e36, e42, e48, e57, e66, e75, e84, e93, e102, e111, e120]
  have y0 := g4.1
  have y1 := g4.2.1
  have y2 := g4.2.2.1
  have y3 := g4.2.2.2.1
  have y4 := g4.2.2.2.2.1
  have y5 := g4.2.2.2.2.2.1
  have y6 := g4.2.2.2.2.2.2.1
  have y7 := g4.2.2.2.2.2.2.2.1
  have y8 := g4.2.2.2.2.2.2.2.2.1
  have y9 := g4.2.2.2.2.2.2.2.2.2.1
  have y10 := g4.2.2.2.2.2.2.2.2.2.2.1
  have y11 := g4.2.2.2.2.2.2.2.2.2.2.2.1
  have y12 := g4.2.2.2.2.2.2.2.2.2.2.2.2
  have p0 := g3.1
  have p1 := g3.2.1
  have p2 := g3.2.2.1
  have p3 := g3.2.2.2.1
  have p4 := g3.2.2.2.2.1
  have p5 := g3.2.2.2.2.2.1
  have p6 := g3.2.2.2.2.2.2.1
  have p7 := g3.2.2.2.2.2.2.2
  have r0_0 := f18.2.1
  have r0_1 := f18.2.2.1
  have r0_2 := f18.2.2.2.1
  have r0_3 := f18.2.2.2.2.1
  have r0_4 := f18.2.2.2.2.2.1
  have r0_5 := f18.2.2.2.2.2.2.1
  have r0_6 := f18.2.2.2.2.2.2.2.1
  have r1_0 := f21.2.1
  have r1_1 := f21.2.2.1
  have r1_2 := f21.2.2.2.1
  have r1_3 := f21.2.2.2.2.1
  have r2_0 := f28.2.1
  have r2_1 := f28.2.2.1
  have r2_2 := f28.2.2.2.1
  have r2_3 := f28.2.2.2.2.1
  have r2_4 := f28.2.2.2.2.2.1
  have r2_5 := f28.2.2.2.2.2.2.1
  have r2_6 := f28.2.2.2.2.2.2.2.1
  try simp only [e4] at y7
  try simp only [e4] at y8
  try simp only [e9] at r1_0
  try simp only [e9] at r1_1
  try simp only [e11] at r1_2
  try simp only [e9] at r1_3
  try simp only [e14] at r2_4
  clear g3
  clear g4
  clear f6 f9 f13 f23 e4 e9 e11 e14 e22 e28 e30 e36 e42 e48 e57 e66 e75 e84 e93 e102 e103 e104 e105 e106 e107 e108 e109 e110 e111 e112 e113 e114 e115 e116 e117 e118 e119 e120
  clear f4 f18 f21 f28
  subst e0

  have w_rules := fun x : Nat => y12 x
  refine ⟨⟨?_, ?_, ?_, ?_, ?_, ?_, ?_, ?_, ?_, ?_, ?_, ?_, ?_, ?_, ?_, ?_⟩, fun q hq => ?_⟩
  · exact y0
  · first | omega | (simp only [uF_at]; omega)
  · first | omega | (simp only [uF_at]; omega)
  · first | omega | (simp only [uF_at]; omega)
  · first | omega | (simp only [uF_at]; omega)
  · first | omega | (simp only [uF_at]; omega)
  · first | omega | (simp only [uF_at]; omega)
  · first | omega | (simp only [uF_at]; omega)
  · first | omega | (simp only [uF_at]; omega)
  · first | omega | (simp only [uF_at]; omega)
  · first | omega | (simp only [uF_at]; omega)
  · first | omega | (simp only [uF_at]; omega)
  · first | omega | (simp only [uF_at]; omega)
  · intro z
    exact CG_eq (by first | omega | (simp only [uF_at]; omega))
  · first | omega | (simp only [uF_at]; omega)
  · exact y12
  · have g6 := Option.some.inj hq
    subst g6
    omega
def g_232_125_3 : vG := ([(80, [11, 2, 14], [6, 5], 0), (1223, [14, 1, 12, 13], [4, 5], 0), (90, [14], [], 0), (91, [14], [], 9999), (0, [13], [], 60), (0, [12], [], 1), (20, [11, 1], [4], 43), (0, [11], [], 313), (1220, [1, 10], [3, 4], 0), (0, [10], [], 45), (80, [6, 2, 9], [3, 2], 0), (1223, [9, 1, 7, 8], [1, 2], 0), (90, [9], [], 0), (91, [9], [], 9999), (0, [8], [], 9999), (0, [7], [], 0), (20, [6, 1], [1], 42), (0, [6], [], 312), (40, [4, 5], [], 0), (0, [5], [], 1), (22, [4, 3, 2], [1], 0), (90, [4], [], 0), (91, [4], [], 1), (20, [3, 1], [1], 37), (0, [3], [], 307), (5000, [0, 1, 2], [0, 1], 125), (0, [0], [], 285), (0, [1], [], 285), (90, [2], [], 0), (91, [2], [], 23)], (4000, [1, 2], [6], 255))
theorem c_232_125_3 {q0 : Nat} : vOkm T0 (eP e_232 L_232 A_232 mu_232 (some q0)) 1 g_232_125_3 := vOk_inI fun ρ η f0 f1 f2 f3 f4 f5 f6 f7 f8 f9 f10 f11 f12 f13 f14 f15 f16 f17 f18 f19 f20 f21 f22 f23 f24 f25 f26 f27 f28 f29 => q_232_26 (q0 := q0) (n0 := ρ 2) (n1 := ρ 1) (n2 := ρ 0) (n3 := ρ 3) (n4 := ρ 4) (n5 := ρ 5) (n6 := ρ 6) (n7 := ρ 7) (n8 := ρ 8) (n9 := ρ 9) (n10 := ρ 10) (n11 := ρ 11) (n12 := ρ 12) (n13 := ρ 13) (n14 := ρ 14) (H0 := η 0) (H1 := η 1) (H2 := η 2) (H3 := η 3) (H4 := η 4) (H5 := η 5) (H6 := η 6) f29 f28 f27 f26 f25 f24 f23 f22 f21 f20 f19 f18 f17 f16 f15 f14 f13 f12 f11 f10 f9 f8 f7 f6 f5 f4 f3 f2 f1 f0
def p_232_125 : List vG := [g_232_125_0,
  g_232_125_1,
  g_232_125_2,
  g_232_125_3]
theorem r_232_125 : vCovO false (eRc e_232 L_232 cs_232 2000 (125, [(0, (3, 12, 285, 0)), (1, (0, 0, 23, 0))])) p_232_125 = true := by decide +kernel
set_option maxHeartbeats 20000000 in
theorem q_232_27 {q0 : Nat} {n0 n1 n2 n3 n4 : Int} {H0 H1 : gH} (f0 : n0 ≤ 1) (f1 : 0 ≤ n0) (f2 : n1 ≤ 1) (f3 : 0 ≤ n1) (f4 : n2 ≤ 23) (f5 : 0 ≤ n2) (f6 : n3 = 285) (f7 : n4 = 285) (f8 : (hLe T0 H0 H1 ∧ hFr s_232.2.2.2.2 H0 H1 ∧ hWt T0 H1) ∧ (Ab_232_202 n4 n3 n2 n1 n0 H0 H1 ∧ preb_232 n4 H0) ∧ some q0 = some (mub_232_202 n4 n3 n2 n1 n0 H0 H1)) (f9 : n1 = 0) : Ab_232_255 n4 n3 n2 H0 H1 ∧ ∀ q, some q0 = some q → mub_232_255 n4 n3 n2 H0 H1 < q := by
  have g4 := f8.2.1.1
  unfold Ab_232_202 at g4
  have g3 := f8.2.1.2
  unfold preb_232 at g3
  have g5 := Option.some.inj f8.2.2
  unfold mub_232_202 at g5
  unfold Ab_232_255
  unfold mub_232_255
  have e3 : hV H1 285 35 = hV H0 285 35 := (f8.1.2.1.1 285 35 kF_232_285_35)
  have e4 : (0 : Int) ≤ hV H1 285 11 ∧ hV H1 285 11 ≤ 500 := f8.1.2.2 285 11 _ _ kW_285_11
  have e5 : (0 : Int) ≤ hV H1 285 12 ∧ hV H1 285 12 ≤ 7 := f8.1.2.2 285 12 _ _ kW_285_12
  have e6 : (0 : Int) ≤ hV H1 285 13 ∧ hV H1 285 13 ≤ 2 := f8.1.2.2 285 13 _ _ kW_285_13
  have e7 : (0 : Int) ≤ hV H0 285 34 ∧ hV H0 285 34 ≤ 1 := bTo ((f8.1.2.1.1 285 34 kF_232_285_34)) (f8.1.2.2 285 34 _ _ kW_285_34)
  have e8 : (0 : Int) ≤ hV H0 285 35 ∧ hV H0 285 35 ≤ 1 := bTo e3 (f8.1.2.2 285 35 _ _ kW_285_35)
  have e9 : (0 : Int) ≤ hV H1 285 44 ∧ hV H1 285 44 ≤ 400 := f8.1.2.2 285 44 _ _ kW_285_44
  have e10 : (0 : Int) ≤ hV H1 285 51 ∧ hV H1 285 51 ≤ 1200 := f8.1.2.2 285 51 _ _ kW_285_51
  try simp only [e3]
  have y0 := g4.1
  have y1 := g4.2.1
  have y2 := g4.2.2.1
  have y3 := g4.2.2.2.1
  have y4 := g4.2.2.2.2.1
  have y5 := g4.2.2.2.2.2.1
  have y6 := g4.2.2.2.2.2.2.1
  have y7 := g4.2.2.2.2.2.2.2.1
  have y8 := g4.2.2.2.2.2.2.2.2.1
  have y9 := g4.2.2.2.2.2.2.2.2.2.1
  have y10 := g4.2.2.2.2.2.2.2.2.2.2.1
  have y11 := g4.2.2.2.2.2.2.2.2.2.2.2.1
  have y12 := g4.2.2.2.2.2.2.2.2.2.2.2.2.1
  have y13 := g4.2.2.2.2.2.2.2.2.2.2.2.2.2.1
  have y14 := g4.2.2.2.2.2.2.2.2.2.2.2.2.2.2.1
  have y15 := g4.2.2.2.2.2.2.2.2.2.2.2.2.2.2.2
  have p0 := g3.1
  have p1 := g3.2.1
  have p2 := g3.2.2.1
  have p3 := g3.2.2.2.1
  have p4 := g3.2.2.2.2.1
  have p5 := g3.2.2.2.2.2.1
  have p6 := g3.2.2.2.2.2.2.1
  have p7 := g3.2.2.2.2.2.2.2
  try simp only [e3] at y6
  try simp only [e3] at y7
  try simp only [e3] at y8
  try simp only [e3] at y9
  try simp only [e3] at y10
  try simp only [e3] at y11
  try simp only [e3] at y14
  clear g3
  clear g4
  clear e3
  clear f8

  have w_rules := fun x : Nat => y15 x
  refine ⟨⟨?_, ?_, ?_, ?_, ?_, ?_, ?_, ?_, ?_, ?_, ?_, ?_, ?_, ?_, ?_, ?_⟩, fun q hq => ?_⟩
  · exact y0
  · first | omega | (simp only [uF_at]; omega)
  · first | omega | (simp only [uF_at]; omega)
  · first | omega | (simp only [uF_at]; omega)
  · first | omega | (simp only [uF_at]; omega)
  · first | omega | (simp only [uF_at]; omega)
  · first | omega | (simp only [uF_at]; omega)
  · first | omega | (simp only [uF_at]; omega)
  · first | omega | (simp only [uF_at]; omega)
  · first | omega | (simp only [uF_at]; omega)
  · first | omega | (simp only [uF_at]; omega)
  · first | omega | (simp only [uF_at]; omega)
  · first | omega | (simp only [uF_at]; omega)
  · intro z
    exact y13 (by omega)
  · first | omega | (simp only [uF_at]; omega)
  · exact y15
  · have g6 := Option.some.inj hq
    subst g6
    omega
def g_232_202_0 : vG := ([(30, [3], [], 0), (5000, [0, 1, 2, 3, 4], [0, 1], 202), (0, [0], [], 285), (0, [1], [], 285), (90, [2], [], 0), (91, [2], [], 23), (90, [3], [], 0), (91, [3], [], 1), (90, [4], [], 0), (91, [4], [], 1)], (4000, [1, 2], [1], 255))
theorem c_232_202_0 {q0 : Nat} : vOkm T0 (eP e_232 L_232 A_232 mu_232 (some q0)) 1 g_232_202_0 := vOk_inI fun ρ η f0 f1 f2 f3 f4 f5 f6 f7 f8 f9 => q_232_27 (q0 := q0) (n0 := ρ 4) (n1 := ρ 3) (n2 := ρ 2) (n3 := ρ 1) (n4 := ρ 0) (H0 := η 0) (H1 := η 1) f9 f8 f7 f6 f5 f4 f3 f2 f1 f0
set_option maxHeartbeats 20000000 in
theorem q_232_28 {q0 : Nat} {n0 n1 n2 n3 n4 n5 : Int} {H0 H1 : gH} (f0 : n0 ≤ 1) (f1 : 0 ≤ n0) (f2 : n1 ≤ 1) (f3 : 0 ≤ n1) (f4 : n2 ≤ 23) (f5 : 0 ≤ n2) (f6 : n3 = 285) (f7 : n4 = 285) (f8 : (hLe T0 H0 H1 ∧ hFr s_232.2.2.2.2 H0 H1 ∧ hWt T0 H1) ∧ (Ab_232_202 n4 n3 n2 n1 n0 H0 H1 ∧ preb_232 n4 H0) ∧ some q0 = some (mub_232_202 n4 n3 n2 n1 n0 H0 H1)) (f9 : n1 ≠ 0) (f10 : n5 ≤ 2) (f11 : 0 ≤ n5) (f12 : n5 = hV H1 (n3).toNat 13) (f13 : n5 ≠ 0) : Ab_232_255 n4 n3 n2 H0 H1 ∧ ∀ q, some q0 = some q → mub_232_255 n4 n3 n2 H0 H1 < q := by
  have g4 := f8.2.1.1
  unfold Ab_232_202 at g4
  have g3 := f8.2.1.2
  unfold preb_232 at g3
  have g5 := Option.some.inj f8.2.2
  unfold mub_232_202 at g5
  unfold Ab_232_255
  unfold mub_232_255
  have e0 : n5 = hV H1 285 13 := (by rw [f6] at f12; exact f12 : n5 = hV H1 285 13)
  have e4 : hV H1 285 35 = hV H0 285 35 := (f8.1.2.1.1 285 35 kF_232_285_35)
  have e5 : (0 : Int) ≤ hV H1 285 11 ∧ hV H1 285 11 ≤ 500 := f8.1.2.2 285 11 _ _ kW_285_11
  have e6 : (0 : Int) ≤ hV H1 285 12 ∧ hV H1 285 12 ≤ 7 := f8.1.2.2 285 12 _ _ kW_285_12
  have e7 : (0 : Int) ≤ hV H1 285 13 ∧ hV H1 285 13 ≤ 2 := f8.1.2.2 285 13 _ _ kW_285_13
  have e8 : (0 : Int) ≤ hV H0 285 34 ∧ hV H0 285 34 ≤ 1 := bTo ((f8.1.2.1.1 285 34 kF_232_285_34)) (f8.1.2.2 285 34 _ _ kW_285_34)
  have e9 : (0 : Int) ≤ hV H0 285 35 ∧ hV H0 285 35 ≤ 1 := bTo e4 (f8.1.2.2 285 35 _ _ kW_285_35)
  have e10 : (0 : Int) ≤ hV H1 285 44 ∧ hV H1 285 44 ≤ 400 := f8.1.2.2 285 44 _ _ kW_285_44
  have e11 : (0 : Int) ≤ hV H1 285 51 ∧ hV H1 285 51 ≤ 1200 := f8.1.2.2 285 51 _ _ kW_285_51
  try simp only [e4]
  have y0 := g4.1
  have y1 := g4.2.1
  have y2 := g4.2.2.1
  have y3 := g4.2.2.2.1
  have y4 := g4.2.2.2.2.1
  have y5 := g4.2.2.2.2.2.1
  have y6 := g4.2.2.2.2.2.2.1
  have y7 := g4.2.2.2.2.2.2.2.1
  have y8 := g4.2.2.2.2.2.2.2.2.1
  have y9 := g4.2.2.2.2.2.2.2.2.2.1
  have y10 := g4.2.2.2.2.2.2.2.2.2.2.1
  have y11 := g4.2.2.2.2.2.2.2.2.2.2.2.1
  have y12 := g4.2.2.2.2.2.2.2.2.2.2.2.2.1
  have y13 := g4.2.2.2.2.2.2.2.2.2.2.2.2.2.1
  have y14 := g4.2.2.2.2.2.2.2.2.2.2.2.2.2.2.1
  have y15 := g4.2.2.2.2.2.2.2.2.2.2.2.2.2.2.2
  have p0 := g3.1
  have p1 := g3.2.1
  have p2 := g3.2.2.1
  have p3 := g3.2.2.2.1
  have p4 := g3.2.2.2.2.1
  have p5 := g3.2.2.2.2.2.1
  have p6 := g3.2.2.2.2.2.2.1
  have p7 := g3.2.2.2.2.2.2.2
  try simp only [e4] at y6
  try simp only [e4] at y7
  try simp only [e4] at y8
  try simp only [e4] at y9
  try simp only [e4] at y10
  try simp only [e4] at y11
  try simp only [e4] at y14
  clear g3
  clear g4
  clear f12 e4
  clear f8
  subst e0

  have w_rules := fun x : Nat => y15 x
  refine ⟨⟨?_, ?_, ?_, ?_, ?_, ?_, ?_, ?_, ?_, ?_, ?_, ?_, ?_, ?_, ?_, ?_⟩, fun q hq => ?_⟩
  · exact y0
  · first | omega | (simp only [uF_at]; omega)
  · first | omega | (simp only [uF_at]; omega)
  · first | omega | (simp only [uF_at]; omega)
  · first | omega | (simp only [uF_at]; omega)
  · first | omega | (simp only [uF_at]; omega)
  · first | omega | (simp only [uF_at]; omega)
  · first | omega | (simp only [uF_at]; omega)
  · first | omega | (simp only [uF_at]; omega)
  · first | omega | (simp only [uF_at]; omega)
  · first | omega | (simp only [uF_at]; omega)
  · first | omega | (simp only [uF_at]; omega)
  · first | omega | (simp only [uF_at]; omega)
  · intro z
    exact y13 (by omega)
  · first | omega | (simp only [uF_at]; omega)
  · exact y15
  · have g6 := Option.some.inj hq
    subst g6
    omega
def g_232_202_1 : vG := ([(31, [5], [], 0), (20, [5, 1], [1], 13), (90, [5], [], 0), (91, [5], [], 2), (31, [3], [], 0), (5000, [0, 1, 2, 3, 4], [0, 1], 202), (0, [0], [], 285), (0, [1], [], 285), (90, [2], [], 0), (91, [2], [], 23), (90, [3], [], 0), (91, [3], [], 1), (90, [4], [], 0), (91, [4], [], 1)], (4000, [1, 2], [1], 255))
theorem c_232_202_1 {q0 : Nat} : vOkm T0 (eP e_232 L_232 A_232 mu_232 (some q0)) 1 g_232_202_1 := vOk_inI fun ρ η f0 f1 f2 f3 f4 f5 f6 f7 f8 f9 f10 f11 f12 f13 => q_232_28 (q0 := q0) (n0 := ρ 4) (n1 := ρ 3) (n2 := ρ 2) (n3 := ρ 1) (n4 := ρ 0) (n5 := ρ 5) (H0 := η 0) (H1 := η 1) f13 f12 f11 f10 f9 f8 f7 f6 f5 f4 f3 f2 f1 f0
set_option maxHeartbeats 20000000 in
theorem q_232_29 {q0 : Nat} {n0 n1 n2 n3 n4 n5 : Int} {H0 H1 : gH} (f0 : n0 ≤ 1) (f1 : 0 ≤ n0) (f2 : n1 ≤ 1) (f3 : 0 ≤ n1) (f4 : n2 ≤ 23) (f5 : 0 ≤ n2) (f6 : n3 = 285) (f7 : n4 = 285) (f8 : (hLe T0 H0 H1 ∧ hFr s_232.2.2.2.2 H0 H1 ∧ hWt T0 H1) ∧ (Ab_232_202 n4 n3 n2 n1 n0 H0 H1 ∧ preb_232 n4 H0) ∧ some q0 = some (mub_232_202 n4 n3 n2 n1 n0 H0 H1)) (f9 : n1 ≠ 0) (f10 : n5 ≤ 2) (f11 : 0 ≤ n5) (f12 : n5 = hV H1 (n3).toNat 13) (f13 : n5 = 0) : preb_233 n3 n0 H1 := by
  have g4 := f8.2.1.1
  unfold Ab_232_202 at g4
  have g3 := f8.2.1.2
  unfold preb_232 at g3
  unfold preb_233
  have e0 : n5 = hV H1 285 13 := (by rw [f6] at f12; exact f12 : n5 = hV H1 285 13)
  have e2 : hV H1 285 34 = hV H0 285 34 := (f8.1.2.1.1 285 34 kF_232_285_34)
  have e4 : hV H1 285 35 = hV H0 285 35 := (f8.1.2.1.1 285 35 kF_232_285_35)
  have e5 : (0 : Int) ≤ hV H1 285 11 ∧ hV H1 285 11 ≤ 500 := f8.1.2.2 285 11 _ _ kW_285_11
  have e6 : (0 : Int) ≤ hV H1 285 12 ∧ hV H1 285 12 ≤ 7 := f8.1.2.2 285 12 _ _ kW_285_12
  have e7 : (0 : Int) ≤ hV H1 285 13 ∧ hV H1 285 13 ≤ 2 := f8.1.2.2 285 13 _ _ kW_285_13
  have e8 : (0 : Int) ≤ hV H0 285 34 ∧ hV H0 285 34 ≤ 1 := bTo e2 (f8.1.2.2 285 34 _ _ kW_285_34)
  have e9 : (0 : Int) ≤ hV H0 285 35 ∧ hV H0 285 35 ≤ 1 := bTo e4 (f8.1.2.2 285 35 _ _ kW_285_35)
  have e10 : (0 : Int) ≤ hV H1 285 44 ∧ hV H1 285 44 ≤ 400 := f8.1.2.2 285 44 _ _ kW_285_44
  have e11 : (0 : Int) ≤ hV H1 285 51 ∧ hV H1 285 51 ≤ 1200 := f8.1.2.2 285 51 _ _ kW_285_51
  try simp only [e2, e4]
  have y0 := g4.1
  have y1 := g4.2.1
  have y2 := g4.2.2.1
  have y3 := g4.2.2.2.1
  have y4 := g4.2.2.2.2.1
  have y5 := g4.2.2.2.2.2.1
  have y6 := g4.2.2.2.2.2.2.1
  have y7 := g4.2.2.2.2.2.2.2.1
  have y8 := g4.2.2.2.2.2.2.2.2.1
  have y9 := g4.2.2.2.2.2.2.2.2.2.1
  have y10 := g4.2.2.2.2.2.2.2.2.2.2.1
  have y11 := g4.2.2.2.2.2.2.2.2.2.2.2.1
  have y12 := g4.2.2.2.2.2.2.2.2.2.2.2.2.1
  have y13 := g4.2.2.2.2.2.2.2.2.2.2.2.2.2.1
  have y14 := g4.2.2.2.2.2.2.2.2.2.2.2.2.2.2.1
  have y15 := g4.2.2.2.2.2.2.2.2.2.2.2.2.2.2.2
  have p0 := g3.1
  have p1 := g3.2.1
  have p2 := g3.2.2.1
  have p3 := g3.2.2.2.1
  have p4 := g3.2.2.2.2.1
  have p5 := g3.2.2.2.2.2.1
  have p6 := g3.2.2.2.2.2.2.1
  have p7 := g3.2.2.2.2.2.2.2
  try simp only [e4] at y6
  try simp only [e4] at y7
  try simp only [e4] at y8
  try simp only [e4] at y9
  try simp only [e4] at y10
  try simp only [e4] at y11
  try simp only [e4] at y14
  clear g3
  clear g4
  clear f12 e2 e4
  clear f8
  subst e0
  subst y10
  refine ⟨?_, ?_, ?_, ?_, ?_, ?_, ?_⟩ <;> first | assumption | omega | trivial
def g_232_202_2 : vG := ([(30, [5], [], 0), (20, [5, 1], [1], 13), (90, [5], [], 0), (91, [5], [], 2), (31, [3], [], 0), (5000, [0, 1, 2, 3, 4], [0, 1], 202), (0, [0], [], 285), (0, [1], [], 285), (90, [2], [], 0), (91, [2], [], 23), (90, [3], [], 0), (91, [3], [], 1), (90, [4], [], 0), (91, [4], [], 1)], (2233, [1, 4], [1], 0))
theorem c_232_202_2 {q0 : Nat} : vOkm T0 (eP e_232 L_232 A_232 mu_232 (some q0)) 1 g_232_202_2 := vOk_inI fun ρ η f0 f1 f2 f3 f4 f5 f6 f7 f8 f9 f10 f11 f12 f13 => q_232_29 (q0 := q0) (n0 := ρ 4) (n1 := ρ 3) (n2 := ρ 2) (n3 := ρ 1) (n4 := ρ 0) (n5 := ρ 5) (H0 := η 0) (H1 := η 1) f13 f12 f11 f10 f9 f8 f7 f6 f5 f4 f3 f2 f1 f0
set_option maxHeartbeats 20000000 in
theorem q_232_30 {q0 : Nat} {n0 n1 n2 n3 n4 n5 n6 n7 n8 : Int} {H0 H1 H2 H3 : gH} (f0 : n0 ≤ 1) (f1 : 0 ≤ n0) (f2 : n1 ≤ 1) (f3 : 0 ≤ n1) (f4 : n2 ≤ 23) (f5 : 0 ≤ n2) (f6 : n3 = 285) (f7 : n4 = 285) (f8 : (hLe T0 H0 H1 ∧ hFr s_232.2.2.2.2 H0 H1 ∧ hWt T0 H1) ∧ (Ab_232_202 n4 n3 n2 n1 n0 H0 H1 ∧ preb_232 n4 H0) ∧ some q0 = some (mub_232_202 n4 n3 n2 n1 n0 H0 H1)) (f9 : n1 ≠ 0) (f10 : n5 ≤ 2) (f11 : 0 ≤ n5) (f12 : n5 = hV H1 (n3).toNat 13) (f13 : n5 = 0) (f14 : (hLe T0 H1 H2 ∧ hFr s_233.2.2.2.2 H1 H2 ∧ ((0 : Int) = 0 → H2.length = H1.length) ∧ hWt T0 H2) ∧ postb_233 n3 n0 H1 H2) (f15 : n6 = 46) (f16 : n7 ≤ 1) (f17 : 0 ≤ n7) (f18 : (hLe T0 H2 H3 ∧ hFr s_216.2.2.2.2 H2 H3 ∧ ((0 : Int) = 0 → H3.length = H2.length) ∧ hWt T0 H3) ∧ postb_216 n7 n3 n6 H2 H3) (f19 : n7 ≠ 0) (f20 : n8 = 1) (f21 : n8 = 0) : Ab_232_202 n4 n3 n2 n8 n7 H0 H3 ∧ ∀ q, some q0 = some q → mub_232_202 n4 n3 n2 n8 n7 H0 H3 < q := by
  have g4 := f8.2.1.1
  unfold Ab_232_202 at g4
  have g3 := f8.2.1.2
  unfold preb_232 at g3
  have g5 := Option.some.inj f8.2.2
  unfold mub_232_202 at g5
  unfold postb_233 at f14
  unfold postb_216 at f18
  unfold Ab_232_202
  unfold mub_232_202
  have e0 : n5 = hV H1 285 13 := (by rw [f6] at f12; exact f12 : n5 = hV H1 285 13)
  have e4 : hV H1 285 35 = hV H0 285 35 := (f8.1.2.1.1 285 35 kF_232_285_35)
  have e6 : hV H2 285 35 = hV H0 285 35 := ((f14.1.2.1.1 285 35 kF_233_285_35)).trans (f8.1.2.1.1 285 35 kF_232_285_35)
  have e8 : hV H3 285 11 = hV H2 285 11 := (f18.1.2.1.1 285 11 kF_216_285_11)
  have e10 : hV H3 285 12 = hV H2 285 12 := (f18.1.2.1.1 285 12 kF_216_285_12)
  have e12 : hV H3 285 13 = hV H2 285 13 := (f18.1.2.1.1 285 13 kF_216_285_13)
  have e14 : hV H3 285 35 = hV H0 285 35 := ((f18.1.2.1.1 285 35 kF_216_285_35)).trans (((f14.1.2.1.1 285 35 kF_233_285_35)).trans (f8.1.2.1.1 285 35 kF_232_285_35))
  have e16 : hV H3 285 44 = hV H2 285 44 := (f18.1.2.1.1 285 44 kF_216_285_44)
  have e18 : hV H3 285 51 = hV H2 285 51 := (f18.1.2.1.1 285 51 kF_216_285_51)
  have e23 : hV H3 288 = hV H0 288 := (fRow f18.1.2.1 288 kR_216_288).trans ((fRow f14.1.2.1 288 kR_233_288).trans (fRow f8.1.2.1 288 kR_232_288))
  have e26 : hV H3 306 = hV H1 306 := (fRow f18.1.2.1 306 kR_216_306).trans (fRow f14.1.2.1 306 kR_233_306)
  have e29 : hV H3 308 = hV H1 308 := (fRow f18.1.2.1 308 kR_216_308).trans (fRow f14.1.2.1 308 kR_233_308)
  have e32 : hV H3 309 = hV H1 309 := (fRow f18.1.2.1 309 kR_216_309).trans (fRow f14.1.2.1 309 kR_233_309)
  have e35 : hV H3 310 = hV H1 310 := (fRow f18.1.2.1 310 kR_216_310).trans (fRow f14.1.2.1 310 kR_233_310)
  have e36 : hV H3 320 = hV H2 320 := fRow f18.1.2.1 320 kR_216_320
  have e37 : hV H3 321 = hV H2 321 := fRow f18.1.2.1 321 kR_216_321
  have e38 : RN H2 = RN H1 := RN_fr f14.1.2.1 (by decide +kernel)
  have e39 : RN H3 = RN H2 := RN_fr f18.1.2.1 (by decide +kernel)
  have e40 : RN H3 = RN H1 := e39.trans e38
  have e41 : RR H3 = RR H2 := RR_fr f18.1.2.1 (by decide +kernel)
  have e42 : (0 : Int) ≤ hV H1 285 11 ∧ hV H1 285 11 ≤ 500 := f8.1.2.2 285 11 _ _ kW_285_11
  have e43 : (0 : Int) ≤ hV H1 285 12 ∧ hV H1 285 12 ≤ 7 := f8.1.2.2 285 12 _ _ kW_285_12
  have e44 : (0 : Int) ≤ hV H1 285 13 ∧ hV H1 285 13 ≤ 2 := f8.1.2.2 285 13 _ _ kW_285_13
  have e45 : (0 : Int) ≤ hV H0 285 34 ∧ hV H0 285 34 ≤ 1 := bTo ((f8.1.2.1.1 285 34 kF_232_285_34)) (f8.1.2.2 285 34 _ _ kW_285_34)
  have e46 : (0 : Int) ≤ hV H0 285 35 ∧ hV H0 285 35 ≤ 1 := bTo e4 (f8.1.2.2 285 35 _ _ kW_285_35)
  have e47 : (0 : Int) ≤ hV H1 285 44 ∧ hV H1 285 44 ≤ 400 := f8.1.2.2 285 44 _ _ kW_285_44
  have e48 : (0 : Int) ≤ hV H1 285 51 ∧ hV H1 285 51 ≤ 1200 := f8.1.2.2 285 51 _ _ kW_285_51
  have e49 : (0 : Int) ≤ hV H2 285 11 ∧ hV H2 285 11 ≤ 500 := f14.1.2.2.2 285 11 _ _ kW_285_11
  have e50 : (0 : Int) ≤ hV H2 285 12 ∧ hV H2 285 12 ≤ 7 := f14.1.2.2.2 285 12 _ _ kW_285_12
  have e51 : (0 : Int) ≤ hV H2 285 13 ∧ hV H2 285 13 ≤ 2 := f14.1.2.2.2 285 13 _ _ kW_285_13
  have e53 : (0 : Int) ≤ hV H2 285 44 ∧ hV H2 285 44 ≤ 400 := f14.1.2.2.2 285 44 _ _ kW_285_44
  have e54 : (0 : Int) ≤ hV H2 285 51 ∧ hV H2 285 51 ≤ 1200 := f14.1.2.2.2 285 51 _ _ kW_285_51
  try simp only [e8, e10, e12, e14, e16, e18, e26, e29, e32, e35, e36, e37, e40, e41]
  have y0 := g4.1
  have y1 := g4.2.1
  have y2 := g4.2.2.1
  have y3 := g4.2.2.2.1
  have y4 := g4.2.2.2.2.1
  have y5 := g4.2.2.2.2.2.1
  have y6 := g4.2.2.2.2.2.2.1
  have y7 := g4.2.2.2.2.2.2.2.1
  have y8 := g4.2.2.2.2.2.2.2.2.1
  have y9 := g4.2.2.2.2.2.2.2.2.2.1
  have y10 := g4.2.2.2.2.2.2.2.2.2.2.1
  have y11 := g4.2.2.2.2.2.2.2.2.2.2.2.1
  have y12 := g4.2.2.2.2.2.2.2.2.2.2.2.2.1
  have y13 := g4.2.2.2.2.2.2.2.2.2.2.2.2.2.1
  have y14 := g4.2.2.2.2.2.2.2.2.2.2.2.2.2.2.1
  have y15 := g4.2.2.2.2.2.2.2.2.2.2.2.2.2.2.2
  have p0 := g3.1
  have p1 := g3.2.1
  have p2 := g3.2.2.1
  have p3 := g3.2.2.2.1
  have p4 := g3.2.2.2.2.1
  have p5 := g3.2.2.2.2.2.1
  have p6 := g3.2.2.2.2.2.2.1
  have p7 := g3.2.2.2.2.2.2.2
  have r0_0 := f14.2.1
  have r0_1 := f14.2.2.1
  have r0_2 := f14.2.2.2.1
  have r0_3 := f14.2.2.2.2.1
  have r0_4 := f14.2.2.2.2.2.1
  have r0_5 := f14.2.2.2.2.2.2.1
  have r0_6 := f14.2.2.2.2.2.2.2.1
  have r0_7 := f14.2.2.2.2.2.2.2.2.1
  have r0_8 := f14.2.2.2.2.2.2.2.2.2.1
  have r0_9 := f14.2.2.2.2.2.2.2.2.2.2.1
  have r0_10 := f14.2.2.2.2.2.2.2.2.2.2.2
  have r1_0 := f18.2.1
  have r1_1 := f18.2.2.resolve_right (fun z => f19 z.1)
  try simp only [e4] at y6
  try simp only [e4] at y7
  try simp only [e4] at y8
  try simp only [e4] at y9
  try simp only [e4] at y10
  try simp only [e4] at y11
  try simp only [e4] at y14
  try simp only [e6] at r0_6
  try simp only [e6] at r0_8
  try simp only [e6] at r0_9
  try simp only [e12] at r1_0
  try simp only [e6, e8, e10, e12, e14, e16, e18, e23, e26, e29, e32, e35, e36, e37, e40, e41] at r1_1
  clear g3
  clear g4
  clear f12 e4 e6 e8 e10 e12 e14 e16 e18 e23 e26 e29 e32 e35 e36 e37 e38 e39 e40 e41
  clear f8 f14 f18
  subst e0

  have w_rules := fun x : Nat => y15 x
  refine ⟨⟨?_, ?_, ?_, ?_, ?_, ?_, ?_, ?_, ?_, ?_, ?_, ?_, ?_, ?_, ?_, ?_⟩, fun q hq => ?_⟩
  · exact r0_0
  · first | omega | (simp only [uF_at]; omega)
  · first | omega | (simp only [uF_at]; omega)
  · first | omega | (simp only [uF_at]; omega)
  · first | omega | (simp only [uF_at]; omega)
  · first | omega | (simp only [uF_at]; omega)
  · first | omega | (simp only [uF_at]; omega)
  · first | omega | (simp only [uF_at]; omega)
  · first | omega | (simp only [uF_at]; omega)
  · first | omega | (simp only [uF_at]; omega)
  · first | omega | (simp only [uF_at]; omega)
  · first | omega | (simp only [uF_at]; omega)
  · first | omega | (simp only [uF_at]; omega)
  · intro z
    exact CG_keep (y13 (by omega)) (r0_7 (by omega)) (by omega) (by omega)
  · first | omega | (simp only [uF_at]; omega)
  · exact y15
  · have g6 := Option.some.inj hq
    subst g6
    omega
def g_232_202_3 : vG := ([(30, [8], [], 0), (0, [8], [], 1), (31, [7], [], 0), (1216, [7, 1, 6], [2, 3], 0), (90, [7], [], 0), (91, [7], [], 1), (0, [6], [], 46), (1233, [1, 4], [1, 2], 0), (30, [5], [], 0), (20, [5, 1], [1], 13), (90, [5], [], 0), (91, [5], [], 2), (31, [3], [], 0), (5000, [0, 1, 2, 3, 4], [0, 1], 202), (0, [0], [], 285), (0, [1], [], 285), (90, [2], [], 0), (91, [2], [], 23), (90, [3], [], 0), (91, [3], [], 1), (90, [4], [], 0), (91, [4], [], 1)], (4000, [1, 2, 8, 7], [3], 202))
theorem c_232_202_3 {q0 : Nat} : vOkm T0 (eP e_232 L_232 A_232 mu_232 (some q0)) 1 g_232_202_3 := vOk_inI fun ρ η f0 f1 f2 f3 f4 f5 f6 f7 f8 f9 f10 f11 f12 f13 f14 f15 f16 f17 f18 f19 f20 f21 => q_232_30 (q0 := q0) (n0 := ρ 4) (n1 := ρ 3) (n2 := ρ 2) (n3 := ρ 1) (n4 := ρ 0) (n5 := ρ 5) (n6 := ρ 6) (n7 := ρ 7) (n8 := ρ 8) (H0 := η 0) (H1 := η 1) (H2 := η 2) (H3 := η 3) f21 f20 f19 f18 f17 f16 f15 f14 f13 f12 f11 f10 f9 f8 f7 f6 f5 f4 f3 f2 f1 f0
set_option maxHeartbeats 20000000 in
theorem q_232_31 {q0 : Nat} {n0 n1 n2 n3 n4 n5 n6 n7 n8 : Int} {H0 H1 H2 H3 H4 : gH} (f0 : n0 ≤ 1) (f1 : 0 ≤ n0) (f2 : n1 ≤ 1) (f3 : 0 ≤ n1) (f4 : n2 ≤ 23) (f5 : 0 ≤ n2) (f6 : n3 = 285) (f7 : n4 = 285) (f8 : (hLe T0 H0 H1 ∧ hFr s_232.2.2.2.2 H0 H1 ∧ hWt T0 H1) ∧ (Ab_232_202 n4 n3 n2 n1 n0 H0 H1 ∧ preb_232 n4 H0) ∧ some q0 = some (mub_232_202 n4 n3 n2 n1 n0 H0 H1)) (f9 : n1 ≠ 0) (f10 : n5 ≤ 2) (f11 : 0 ≤ n5) (f12 : n5 = hV H1 (n3).toNat 13) (f13 : n5 = 0) (f14 : (hLe T0 H1 H2 ∧ hFr s_233.2.2.2.2 H1 H2 ∧ ((0 : Int) = 0 → H2.length = H1.length) ∧ hWt T0 H2) ∧ postb_233 n3 n0 H1 H2) (f15 : n6 = 46) (f16 : n7 ≤ 1) (f17 : 0 ≤ n7) (f18 : (hLe T0 H2 H3 ∧ hFr s_216.2.2.2.2 H2 H3 ∧ ((0 : Int) = 0 → H3.length = H2.length) ∧ hWt T0 H3) ∧ postb_216 n7 n3 n6 H2 H3) (f19 : n7 ≠ 0) (f20 : n8 = 1) (f21 : n8 ≠ 0) (f22 : (hLe T0 H3 H4 ∧ hFr s_219.2.2.2.2 H3 H4 ∧ ((0 : Int) = 0 → H4.length = H3.length) ∧ hWt T0 H4) ∧ postb_219 n3 H3 H4) : Ab_232_202 n4 n3 n2 n8 n7 H0 H4 ∧ ∀ q, some q0 = some q → mub_232_202 n4 n3 n2 n8 n7 H0 H4 < q := by
  have g4 := f8.2.1.1
  unfold Ab_232_202 at g4
  have g3 := f8.2.1.2
  unfold preb_232 at g3
  have g5 := Option.some.inj f8.2.2
  unfold mub_232_202 at g5
  unfold postb_233 at f14
  unfold postb_216 at f18
  unfold postb_219 at f22
  unfold Ab_232_202
  unfold mub_232_202
  have e0 : n5 = hV H1 285 13 := (by rw [f6] at f12; exact f12 : n5 = hV H1 285 13)
  have e4 : hV H1 285 35 = hV H0 285 35 := (f8.1.2.1.1 285 35 kF_232_285_35)
  have e6 : hV H2 285 35 = hV H0 285 35 := ((f14.1.2.1.1 285 35 kF_233_285_35)).trans (f8.1.2.1.1 285 35 kF_232_285_35)
  have e8 : hV H3 285 11 = hV H2 285 11 := (f18.1.2.1.1 285 11 kF_216_285_11)
  have e10 : hV H3 285 13 = hV H2 285 13 := (f18.1.2.1.1 285 13 kF_216_285_13)
  have e15 : hV H3 288 = hV H0 288 := (fRow f18.1.2.1 288 kR_216_288).trans ((fRow f14.1.2.1 288 kR_233_288).trans (fRow f8.1.2.1 288 kR_232_288))
  have e18 : hV H4 285 12 = hV H2 285 12 := ((f22.1.2.1.1 285 12 kF_219_285_12)).trans (f18.1.2.1.1 285 12 kF_216_285_12)
  have e21 : hV H4 285 35 = hV H0 285 35 := ((f22.1.2.1.1 285 35 kF_219_285_35)).trans (((f18.1.2.1.1 285 35 kF_216_285_35)).trans (((f14.1.2.1.1 285 35 kF_233_285_35)).trans (f8.1.2.1.1 285 35 kF_232_285_35)))
  have e24 : hV H4 285 44 = hV H2 285 44 := ((f22.1.2.1.1 285 44 kF_219_285_44)).trans (f18.1.2.1.1 285 44 kF_216_285_44)
  have e27 : hV H4 285 51 = hV H2 285 51 := ((f22.1.2.1.1 285 51 kF_219_285_51)).trans (f18.1.2.1.1 285 51 kF_216_285_51)
  have e32 : hV H4 306 = hV H1 306 := (fRow f22.1.2.1 306 kR_219_306).trans ((fRow f18.1.2.1 306 kR_216_306).trans (fRow f14.1.2.1 306 kR_233_306))
  have e37 : hV H4 308 = hV H1 308 := (fRow f22.1.2.1 308 kR_219_308).trans ((fRow f18.1.2.1 308 kR_216_308).trans (fRow f14.1.2.1 308 kR_233_308))
  have e42 : hV H4 309 = hV H1 309 := (fRow f22.1.2.1 309 kR_219_309).trans ((fRow f18.1.2.1 309 kR_216_309).trans (fRow f14.1.2.1 309 kR_233_309))
  have e47 : hV H4 310 = hV H1 310 := (fRow f22.1.2.1 310 kR_219_310).trans ((fRow f18.1.2.1 310 kR_216_310).trans (fRow f14.1.2.1 310 kR_233_310))
  have e50 : hV H4 320 = hV H2 320 := (fRow f22.1.2.1 320 kR_219_320).trans (fRow f18.1.2.1 320 kR_216_320)
  have e53 : hV H4 321 = hV H2 321 := (fRow f22.1.2.1 321 kR_219_321).trans (fRow f18.1.2.1 321 kR_216_321)
  have e54 : RN H2 = RN H1 := RN_fr f14.1.2.1 (by decide +kernel)
  have e55 : RN H3 = RN H2 := RN_fr f18.1.2.1 (by decide +kernel)
  have e56 : RN H3 = RN H1 := e55.trans e54
  have e57 : RN H4 = RN H3 := RN_fr f22.1.2.1 (by decide +kernel)
  have e58 : RN H4 = RN H1 := e57.trans e56
  have e59 : RR H3 = RR H2 := RR_fr f18.1.2.1 (by decide +kernel)
  have e60 : RR H4 = RR H3 := RR_fr f22.1.2.1 (by decide +kernel)
  have e61 : RR H4 = RR H2 := e60.trans e59
  have e62 : (0 : Int) ≤ hV H1 285 11 ∧ hV H1 285 11 ≤ 500 := f8.1.2.2 285 11 _ _ kW_285_11
  have e63 : (0 : Int) ≤ hV H1 285 12 ∧ hV H1 285 12 ≤ 7 := f8.1.2.2 285 12 _ _ kW_285_12
  have e64 : (0 : Int) ≤ hV H1 285 13 ∧ hV H1 285 13 ≤ 2 := f8.1.2.2 285 13 _ _ kW_285_13
  have e65 : (0 : Int) ≤ hV H0 285 34 ∧ hV H0 285 34 ≤ 1 := bTo ((f8.1.2.1.1 285 34 kF_232_285_34)) (f8.1.2.2 285 34 _ _ kW_285_34)
  have e66 : (0 : Int) ≤ hV H0 285 35 ∧ hV H0 285 35 ≤ 1 := bTo e4 (f8.1.2.2 285 35 _ _ kW_285_35)
  have e67 : (0 : Int) ≤ hV H1 285 44 ∧ hV H1 285 44 ≤ 400 := f8.1.2.2 285 44 _ _ kW_285_44
  have e68 : (0 : Int) ≤ hV H1 285 51 ∧ hV H1 285 51 ≤ 1200 := f8.1.2.2 285 51 _ _ kW_285_51
  have e69 : (0 : Int) ≤ hV H2 285 11 ∧ hV H2 285 11 ≤ 500 := f14.1.2.2.2 285 11 _ _ kW_285_11
  have e70 : (0 : Int) ≤ hV H2 285 12 ∧ hV H2 285 12 ≤ 7 := f14.1.2.2.2 285 12 _ _ kW_285_12
  have e71 : (0 : Int) ≤ hV H2 285 13 ∧ hV H2 285 13 ≤ 2 := f14.1.2.2.2 285 13 _ _ kW_285_13
  have e73 : (0 : Int) ≤ hV H2 285 44 ∧ hV H2 285 44 ≤ 400 := f14.1.2.2.2 285 44 _ _ kW_285_44
  have e74 : (0 : Int) ≤ hV H2 285 51 ∧ hV H2 285 51 ≤ 1200 := f14.1.2.2.2 285 51 _ _ kW_285_51
  have e77 : (0 : Int) ≤ hV H4 285 11 ∧ hV H4 285 11 ≤ 500 := f22.1.2.2.2 285 11 _ _ kW_285_11
  have e79 : (0 : Int) ≤ hV H4 285 13 ∧ hV H4 285 13 ≤ 2 := f22.1.2.2.2 285 13 _ _ kW_285_13
  try simp only [e18, e21, e24, e27, e32, e37, e42, e47, e50, e53, e58, e61]
  have y0 := g4.1
  have y1 := g4.2.1
  have y2 := g4.2.2.1
  have y3 := g4.2.2.2.1
  have y4 := g4.2.2.2.2.1
  have y5 := g4.2.2.2.2.2.1
  have y6 := g4.2.2.2.2.2.2.1
  have y7 := g4.2.2.2.2.2.2.2.1
  have y8 := g4.2.2.2.2.2.2.2.2.1
  have y9 := g4.2.2.2.2.2.2.2.2.2.1
  have y10 := g4.2.2.2.2.2.2.2.2.2.2.1
  have y11 := g4.2.2.2.2.2.2.2.2.2.2.2.1
  have y12 := g4.2.2.2.2.2.2.2.2.2.2.2.2.1
  have y13 := g4.2.2.2.2.2.2.2.2.2.2.2.2.2.1
  have y14 := g4.2.2.2.2.2.2.2.2.2.2.2.2.2.2.1
  have y15 := g4.2.2.2.2.2.2.2.2.2.2.2.2.2.2.2
  have p0 := g3.1
  have p1 := g3.2.1
  have p2 := g3.2.2.1
  have p3 := g3.2.2.2.1
  have p4 := g3.2.2.2.2.1
  have p5 := g3.2.2.2.2.2.1
  have p6 := g3.2.2.2.2.2.2.1
  have p7 := g3.2.2.2.2.2.2.2
  have r0_0 := f14.2.1
  have r0_1 := f14.2.2.1
  have r0_2 := f14.2.2.2.1
  have r0_3 := f14.2.2.2.2.1
  have r0_4 := f14.2.2.2.2.2.1
  have r0_5 := f14.2.2.2.2.2.2.1
  have r0_6 := f14.2.2.2.2.2.2.2.1
  have r0_7 := f14.2.2.2.2.2.2.2.2.1
  have r0_8 := f14.2.2.2.2.2.2.2.2.2.1
  have r0_9 := f14.2.2.2.2.2.2.2.2.2.2.1
  have r0_10 := f14.2.2.2.2.2.2.2.2.2.2.2
  have r1_0 := f18.2.1
  have r1_1 := f18.2.2.resolve_right (fun z => f19 z.1)
  have r2_0 := f22.2.1
  have r2_1 := f22.2.2.1
  have r2_2 := f22.2.2.2.1
  have r2_3 := f22.2.2.2.2
  try simp only [e4] at y6
  try simp only [e4] at y7
  try simp only [e4] at y8
  try simp only [e4] at y9
  try simp only [e4] at y10
  try simp only [e4] at y11
  try simp only [e4] at y14
  try simp only [e6] at r0_6
  try simp only [e6] at r0_8
  try simp only [e6] at r0_9
  try simp only [e10] at r1_0
  try simp only [e6, e8, e10, e15] at r1_1
  try simp only [e8] at r2_0
  try simp only [e8] at r2_1
  try simp only [e10] at r2_2
  try simp only [e8] at r2_3
  clear g3
  clear g4
  clear f12 e4 e6 e8 e10 e15 e18 e21 e24 e27 e32 e37 e42 e47 e50 e53 e54 e55 e56 e57 e58 e59 e60 e61
  clear f8 f14 f18 f22
  subst e0

  have w_rules := fun x : Nat => y15 x
  refine ⟨⟨?_, ?_, ?_, ?_, ?_, ?_, ?_, ?_, ?_, ?_, ?_, ?_, ?_, ?_, ?_, ?_⟩, fun q hq => ?_⟩
  · exact r0_0
  · first | omega | (simp only [uF_at]; omega)
  · first | omega | (simp only [uF_at]; omega)
  · first | omega | (simp only [uF_at]; omega)
  · first | omega | (simp only [uF_at]; omega)
  · first | omega | (simp only [uF_at]; omega)
  · first | omega | (simp only [uF_at]; omega)
  · first | omega | (simp only [uF_at]; omega)
  · first | omega | (simp only [uF_at]; omega)
  · first | omega | (simp only [uF_at]; omega)
  · first | omega | (simp only [uF_at]; omega)
  · first | omega | (simp only [uF_at]; omega)
  · first | omega | (simp only [uF_at]; omega)
  · intro z
    exact CG_keep (y13 (by omega)) (r0_7 (by omega)) (by omega) (by omega)
  · first | omega | (simp only [uF_at]; omega)
  · exact y15
  · have g6 := Option.some.inj hq
    subst g6
    omega
def g_232_202_4 : vG := ([(1219, [1], [3, 4], 0), (31, [8], [], 0), (0, [8], [], 1), (31, [7], [], 0), (1216, [7, 1, 6], [2, 3], 0), (90, [7], [], 0), (91, [7], [], 1), (0, [6], [], 46), (1233, [1, 4], [1, 2], 0), (30, [5], [], 0), (20, [5, 1], [1], 13), (90, [5], [], 0), (91, [5], [], 2), (31, [3], [], 0), (5000, [0, 1, 2, 3, 4], [0, 1], 202), (0, [0], [], 285), (0, [1], [], 285), (90, [2], [], 0), (91, [2], [], 23), (90, [3], [], 0), (91, [3], [], 1), (90, [4], [], 0), (91, [4], [], 1)], (4000, [1, 2, 8, 7], [4], 202))
theorem c_232_202_4 {q0 : Nat} : vOkm T0 (eP e_232 L_232 A_232 mu_232 (some q0)) 1 g_232_202_4 := vOk_inI fun ρ η f0 f1 f2 f3 f4 f5 f6 f7 f8 f9 f10 f11 f12 f13 f14 f15 f16 f17 f18 f19 f20 f21 f22 => q_232_31 (q0 := q0) (n0 := ρ 4) (n1 := ρ 3) (n2 := ρ 2) (n3 := ρ 1) (n4 := ρ 0) (n5 := ρ 5) (n6 := ρ 6) (n7 := ρ 7) (n8 := ρ 8) (H0 := η 0) (H1 := η 1) (H2 := η 2) (H3 := η 3) (H4 := η 4) f22 f21 f20 f19 f18 f17 f16 f15 f14 f13 f12 f11 f10 f9 f8 f7 f6 f5 f4 f3 f2 f1 f0
set_option maxHeartbeats 20000000 in
theorem q_232_32 {q0 : Nat} {n0 n1 n2 n3 n4 n5 n6 n7 n8 n9 n10 : Int} {H0 H1 H2 H3 H4 : gH} (f0 : n0 ≤ 1) (f1 : 0 ≤ n0) (f2 : n1 ≤ 1) (f3 : 0 ≤ n1) (f4 : n2 ≤ 23) (f5 : 0 ≤ n2) (f6 : n3 = 285) (f7 : n4 = 285) (f8 : (hLe T0 H0 H1 ∧ hFr s_232.2.2.2.2 H0 H1 ∧ hWt T0 H1) ∧ (Ab_232_202 n4 n3 n2 n1 n0 H0 H1 ∧ preb_232 n4 H0) ∧ some q0 = some (mub_232_202 n4 n3 n2 n1 n0 H0 H1)) (f9 : n1 ≠ 0) (f10 : n5 ≤ 2) (f11 : 0 ≤ n5) (f12 : n5 = hV H1 (n3).toNat 13) (f13 : n5 = 0) (f14 : (hLe T0 H1 H2 ∧ hFr s_233.2.2.2.2 H1 H2 ∧ ((0 : Int) = 0 → H2.length = H1.length) ∧ hWt T0 H2) ∧ postb_233 n3 n0 H1 H2) (f15 : n6 = 46) (f16 : n7 ≤ 1) (f17 : 0 ≤ n7) (f18 : (hLe T0 H2 H3 ∧ hFr s_216.2.2.2.2 H2 H3 ∧ ((0 : Int) = 0 → H3.length = H2.length) ∧ hWt T0 H3) ∧ postb_216 n7 n3 n6 H2 H3) (f19 : n7 = 0) (f20 : n8 = 47) (f21 : n9 ≤ 1) (f22 : 0 ≤ n9) (f23 : (hLe T0 H3 H4 ∧ hFr s_216.2.2.2.2 H3 H4 ∧ ((0 : Int) = 0 → H4.length = H3.length) ∧ hWt T0 H4) ∧ postb_216 n9 n3 n8 H3 H4) (f24 : n9 = 0) (f25 : n10 = 0) (f26 : n10 = 0) : Ab_232_202 n4 n3 n2 n10 n7 H0 H4 ∧ ∀ q, some q0 = some q → mub_232_202 n4 n3 n2 n10 n7 H0 H4 < q := by
  have g4 := f8.2.1.1
  unfold Ab_232_202 at g4
  have g3 := f8.2.1.2
  unfold preb_232 at g3
  have g5 := Option.some.inj f8.2.2
  unfold mub_232_202 at g5
  unfold postb_233 at f14
  unfold postb_216 at f18
  unfold postb_216 at f23
  unfold Ab_232_202
  unfold mub_232_202
  have e0 : n5 = hV H1 285 13 := (by rw [f6] at f12; exact f12 : n5 = hV H1 285 13)
  have e4 : hV H1 285 35 = hV H0 285 35 := (f8.1.2.1.1 285 35 kF_232_285_35)
  have e6 : hV H2 285 35 = hV H0 285 35 := ((f14.1.2.1.1 285 35 kF_233_285_35)).trans (f8.1.2.1.1 285 35 kF_232_285_35)
  have e10 : hV H3 285 13 = hV H2 285 13 := (f18.1.2.1.1 285 13 kF_216_285_13)
  have e17 : hV H4 285 11 = hV H2 285 11 := ((f23.1.2.1.1 285 11 kF_216_285_11)).trans (f18.1.2.1.1 285 11 kF_216_285_11)
  have e20 : hV H4 285 12 = hV H2 285 12 := ((f23.1.2.1.1 285 12 kF_216_285_12)).trans (f18.1.2.1.1 285 12 kF_216_285_12)
  have e22 : hV H4 285 13 = hV H2 285 13 := ((f23.1.2.1.1 285 13 kF_216_285_13)).trans (f18.1.2.1.1 285 13 kF_216_285_13)
  have e25 : hV H4 285 35 = hV H0 285 35 := ((f23.1.2.1.1 285 35 kF_216_285_35)).trans (((f18.1.2.1.1 285 35 kF_216_285_35)).trans (((f14.1.2.1.1 285 35 kF_233_285_35)).trans (f8.1.2.1.1 285 35 kF_232_285_35)))
  have e28 : hV H4 285 44 = hV H2 285 44 := ((f23.1.2.1.1 285 44 kF_216_285_44)).trans (f18.1.2.1.1 285 44 kF_216_285_44)
  have e31 : hV H4 285 51 = hV H2 285 51 := ((f23.1.2.1.1 285 51 kF_216_285_51)).trans (f18.1.2.1.1 285 51 kF_216_285_51)
  have e38 : hV H4 306 = hV H1 306 := (fRow f23.1.2.1 306 kR_216_306).trans ((fRow f18.1.2.1 306 kR_216_306).trans (fRow f14.1.2.1 306 kR_233_306))
  have e43 : hV H4 308 = hV H1 308 := (fRow f23.1.2.1 308 kR_216_308).trans ((fRow f18.1.2.1 308 kR_216_308).trans (fRow f14.1.2.1 308 kR_233_308))
  have e48 : hV H4 309 = hV H1 309 := (fRow f23.1.2.1 309 kR_216_309).trans ((fRow f18.1.2.1 309 kR_216_309).trans (fRow f14.1.2.1 309 kR_233_309))
  have e53 : hV H4 310 = hV H1 310 := (fRow f23.1.2.1 310 kR_216_310).trans ((fRow f18.1.2.1 310 kR_216_310).trans (fRow f14.1.2.1 310 kR_233_310))
  have e56 : hV H4 320 = hV H2 320 := (fRow f23.1.2.1 320 kR_216_320).trans (fRow f18.1.2.1 320 kR_216_320)
  have e59 : hV H4 321 = hV H2 321 := (fRow f23.1.2.1 321 kR_216_321).trans (fRow f18.1.2.1 321 kR_216_321)
  have e60 : RN H2 = RN H1 := RN_fr f14.1.2.1 (by decide +kernel)
  have e61 : RN H3 = RN H2 := RN_fr f18.1.2.1 (by decide +kernel)
  have e62 : RN H3 = RN H1 := e61.trans e60
  have e63 : RN H4 = RN H3 := RN_fr f23.1.2.1 (by decide +kernel)
  have e64 : RN H4 = RN H1 := e63.trans e62
  have e65 : RR H3 = RR H2 := RR_fr f18.1.2.1 (by decide +kernel)
  have e66 : RR H4 = RR H3 := RR_fr f23.1.2.1 (by decide +kernel)
  have e67 : RR H4 = RR H2 := e66.trans e65
  have e68 : (0 : Int) ≤ hV H1 285 11 ∧ hV H1 285 11 ≤ 500 := f8.1.2.2 285 11 _ _ kW_285_11
  have e69 : (0 : Int) ≤ hV H1 285 12 ∧ hV H1 285 12 ≤ 7 := f8.1.2.2 285 12 _ _ kW_285_12
  have e70 : (0 : Int) ≤ hV H1 285 13 ∧ hV H1 285 13 ≤ 2 := f8.1.2.2 285 13 _ _ kW_285_13
  have e71 : (0 : Int) ≤ hV H0 285 34 ∧ hV H0 285 34 ≤ 1 := bTo ((f8.1.2.1.1 285 34 kF_232_285_34)) (f8.1.2.2 285 34 _ _ kW_285_34)
  have e72 : (0 : Int) ≤ hV H0 285 35 ∧ hV H0 285 35 ≤ 1 := bTo e4 (f8.1.2.2 285 35 _ _ kW_285_35)
  have e73 : (0 : Int) ≤ hV H1 285 44 ∧ hV H1 285 44 ≤ 400 := f8.1.2.2 285 44 _ _ kW_285_44
  have e74 : (0 : Int) ≤ hV H1 285 51 ∧ hV H1 285 51 ≤ 1200 := f8.1.2.2 285 51 _ _ kW_285_51
  have e75 : (0 : Int) ≤ hV H2 285 11 ∧ hV H2 285 11 ≤ 500 := f14.1.2.2.2 285 11 _ _ kW_285_11
  have e76 : (0 : Int) ≤ hV H2 285 12 ∧ hV H2 285 12 ≤ 7 := f14.1.2.2.2 285 12 _ _ kW_285_12
  have e77 : (0 : Int) ≤ hV H2 285 13 ∧ hV H2 285 13 ≤ 2 := f14.1.2.2.2 285 13 _ _ kW_285_13
  have e79 : (0 : Int) ≤ hV H2 285 44 ∧ hV H2 285 44 ≤ 400 := f14.1.2.2.2 285 44 _ _ kW_285_44
  have e80 : (0 : Int) ≤ hV H2 285 51 ∧ hV H2 285 51 ≤ 1200 := f14.1.2.2.2 285 51 _ _ kW_285_51
  try simp only [e17, e20, e22, e25, e28, e31, e38, e43, e48, e53, e56, e59, e64, e67]
  have y0 := g4.1
  have y1 := g4.2.1
  have y2 := g4.2.2.1
  have y3 := g4.2.2.2.1
  have y4 := g4.2.2.2.2.1
  have y5 := g4.2.2.2.2.2.1
  have y6 := g4.2.2.2.2.2.2.1
  have y7 := g4.2.2.2.2.2.2.2.1
  have y8 := g4.2.2.2.2.2.2.2.2.1
  have y9 := g4.2.2.2.2.2.2.2.2.2.1
  have y10 := g4.2.2.2.2.2.2.2.2.2.2.1
  have y11 := g4.2.2.2.2.2.2.2.2.2.2.2.1
  have y12 := g4.2.2.2.2.2.2.2.2.2.2.2.2.1
  have y13 := g4.2.2.2.2.2.2.2.2.2.2.2.2.2.1
  have y14 := g4.2.2.2.2.2.2.2.2.2.2.2.2.2.2.1
  have y15 := g4.2.2.2.2.2.2.2.2.2.2.2.2.2.2.2
  have p0 := g3.1
  have p1 := g3.2.1
  have p2 := g3.2.2.1
  have p3 := g3.2.2.2.1
  have p4 := g3.2.2.2.2.1
  have p5 := g3.2.2.2.2.2.1
  have p6 := g3.2.2.2.2.2.2.1
  have p7 := g3.2.2.2.2.2.2.2
  have r0_0 := f14.2.1
  have r0_1 := f14.2.2.1
  have r0_2 := f14.2.2.2.1
  have r0_3 := f14.2.2.2.2.1
  have r0_4 := f14.2.2.2.2.2.1
  have r0_5 := f14.2.2.2.2.2.2.1
  have r0_6 := f14.2.2.2.2.2.2.2.1
  have r0_7 := f14.2.2.2.2.2.2.2.2.1
  have r0_8 := f14.2.2.2.2.2.2.2.2.2.1
  have r0_9 := f14.2.2.2.2.2.2.2.2.2.2.1
  have r0_10 := f14.2.2.2.2.2.2.2.2.2.2.2
  have r1_0 := f18.2.1
  have r2_0 := f23.2.1
  try simp only [e4] at y6
  try simp only [e4] at y7
  try simp only [e4] at y8
  try simp only [e4] at y9
  try simp only [e4] at y10
  try simp only [e4] at y11
  try simp only [e4] at y14
  try simp only [e6] at r0_6
  try simp only [e6] at r0_8
  try simp only [e6] at r0_9
  try simp only [e10] at r1_0
  try simp only [e22] at r2_0
  clear g3
  clear g4
  clear f12 e4 e6 e10 e17 e20 e22 e25 e28 e31 e38 e43 e48 e53 e56 e59 e60 e61 e62 e63 e64 e65 e66 e67
  clear f8 f14 f18 f23
  subst e0

  have w_rules := fun x : Nat => y15 x
  refine ⟨⟨?_, ?_, ?_, ?_, ?_, ?_, ?_, ?_, ?_, ?_, ?_, ?_, ?_, ?_, ?_, ?_⟩, fun q hq => ?_⟩
  · exact r0_0
  · first | omega | (simp only [uF_at]; omega)
  · first | omega | (simp only [uF_at]; omega)
  · first | omega | (simp only [uF_at]; omega)
  · first | omega | (simp only [uF_at]; omega)
  · first | omega | (simp only [uF_at]; omega)
  · first | omega | (simp only [uF_at]; omega)
  · first | omega | (simp only [uF_at]; omega)
  · first | omega | (simp only [uF_at]; omega)
  · first | omega | (simp only [uF_at]; omega)
  · first | omega | (simp only [uF_at]; omega)
  · first | omega | (simp only [uF_at]; omega)
  · first | omega | (simp only [uF_at]; omega)
  · intro z
    exact CG_keep (y13 (by omega)) (r0_7 (by omega)) (by omega) (by omega)
  · first | omega | (simp only [uF_at]; omega)
  · exact y15
  · have g6 := Option.some.inj hq
    subst g6
    omega
def g_232_202_5 : vG := ([(30, [10], [], 0), (0, [10], [], 0), (30, [9], [], 0), (1216, [9, 1, 8], [3, 4], 0), (90, [9], [], 0), (91, [9], [], 1), (0, [8], [], 47), (30, [7], [], 0), (1216, [7, 1, 6], [2, 3], 0), (90, [7], [], 0), (91, [7], [], 1), (0, [6], [], 46), (1233, [1, 4], [1, 2], 0), (30, [5], [], 0), (20, [5, 1], [1], 13), (90, [5], [], 0), (91, [5], [], 2), (31, [3], [], 0), (5000, [0, 1, 2, 3, 4], [0, 1], 202), (0, [0], [], 285), (0, [1], [], 285), (90, [2], [], 0), (91, [2], [], 23), (90, [3], [], 0), (91, [3], [], 1), (90, [4], [], 0), (91, [4], [], 1)], (4000, [1, 2, 10, 7], [4], 202))
theorem c_232_202_5 {q0 : Nat} : vOkm T0 (eP e_232 L_232 A_232 mu_232 (some q0)) 1 g_232_202_5 := vOk_inI fun ρ η f0 f1 f2 f3 f4 f5 f6 f7 f8 f9 f10 f11 f12 f13 f14 f15 f16 f17 f18 f19 f20 f21 f22 f23 f24 f25 f26 => q_232_32 (q0 := q0) (n0 := ρ 4) (n1 := ρ 3) (n2 := ρ 2) (n3 := ρ 1) (n4 := ρ 0) (n5 := ρ 5) (n6 := ρ 6) (n7 := ρ 7) (n8 := ρ 8) (n9 := ρ 9) (n10 := ρ 10) (H0 := η 0) (H1 := η 1) (H2 := η 2) (H3 := η 3) (H4 := η 4) f26 f25 f24 f23 f22 f21 f20 f19 f18 f17 f16 f15 f14 f13 f12 f11 f10 f9 f8 f7 f6 f5 f4 f3 f2 f1 f0
set_option maxHeartbeats 20000000 in
theorem q_232_33 {q0 : Nat} {n0 n1 n2 n3 n4 n5 n6 n7 n8 n9 n10 : Int} {H0 H1 H2 H3 H4 H5 : gH} (f0 : n0 ≤ 1) (f1 : 0 ≤ n0) (f2 : n1 ≤ 1) (f3 : 0 ≤ n1) (f4 : n2 ≤ 23) (f5 : 0 ≤ n2) (f6 : n3 = 285) (f7 : n4 = 285) (f8 : (hLe T0 H0 H1 ∧ hFr s_232.2.2.2.2 H0 H1 ∧ hWt T0 H1) ∧ (Ab_232_202 n4 n3 n2 n1 n0 H0 H1 ∧ preb_232 n4 H0) ∧ some q0 = some (mub_232_202 n4 n3 n2 n1 n0 H0 H1)) (f9 : n1 ≠ 0) (f10 : n5 ≤ 2) (f11 : 0 ≤ n5) (f12 : n5 = hV H1 (n3).toNat 13) (f13 : n5 = 0) (f14 : (hLe T0 H1 H2 ∧ hFr s_233.2.2.2.2 H1 H2 ∧ ((0 : Int) = 0 → H2.length = H1.length) ∧ hWt T0 H2) ∧ postb_233 n3 n0 H1 H2) (f15 : n6 = 46) (f16 : n7 ≤ 1) (f17 : 0 ≤ n7) (f18 : (hLe T0 H2 H3 ∧ hFr s_216.2.2.2.2 H2 H3 ∧ ((0 : Int) = 0 → H3.length = H2.length) ∧ hWt T0 H3) ∧ postb_216 n7 n3 n6 H2 H3) (f19 : n7 = 0) (f20 : n8 = 47) (f21 : n9 ≤ 1) (f22 : 0 ≤ n9) (f23 : (hLe T0 H3 H4 ∧ hFr s_216.2.2.2.2 H3 H4 ∧ ((0 : Int) = 0 → H4.length = H3.length) ∧ hWt T0 H4) ∧ postb_216 n9 n3 n8 H3 H4) (f24 : n9 = 0) (f25 : n10 = 0) (f26 : n10 ≠ 0) (f27 : (hLe T0 H4 H5 ∧ hFr s_219.2.2.2.2 H4 H5 ∧ ((0 : Int) = 0 → H5.length = H4.length) ∧ hWt T0 H5) ∧ postb_219 n3 H4 H5) : Ab_232_202 n4 n3 n2 n10 n7 H0 H5 ∧ ∀ q, some q0 = some q → mub_232_202 n4 n3 n2 n10 n7 H0 H5 < q := by
  have g4 := f8.2.1.1
  unfold Ab_232_202 at g4
  have g3 := f8.2.1.2
  unfold preb_232 at g3
  have g5 := Option.some.inj f8.2.2
  unfold mub_232_202 at g5
  unfold postb_233 at f14
  unfold postb_216 at f18
  unfold postb_216 at f23
  unfold postb_219 at f27
  unfold Ab_232_202
  unfold mub_232_202
  have e0 : n5 = hV H1 285 13 := (by rw [f6] at f12; exact f12 : n5 = hV H1 285 13)
  have e4 : hV H1 285 35 = hV H0 285 35 := (f8.1.2.1.1 285 35 kF_232_285_35)
  have e6 : hV H2 285 35 = hV H0 285 35 := ((f14.1.2.1.1 285 35 kF_233_285_35)).trans (f8.1.2.1.1 285 35 kF_232_285_35)
  have e10 : hV H3 285 13 = hV H2 285 13 := (f18.1.2.1.1 285 13 kF_216_285_13)
  have e17 : hV H4 285 11 = hV H2 285 11 := ((f23.1.2.1.1 285 11 kF_216_285_11)).trans (f18.1.2.1.1 285 11 kF_216_285_11)
  have e19 : hV H4 285 13 = hV H2 285 13 := ((f23.1.2.1.1 285 13 kF_216_285_13)).trans (f18.1.2.1.1 285 13 kF_216_285_13)
  have e25 : hV H5 285 12 = hV H2 285 12 := ((f27.1.2.1.1 285 12 kF_219_285_12)).trans (((f23.1.2.1.1 285 12 kF_216_285_12)).trans (f18.1.2.1.1 285 12 kF_216_285_12))
  have e29 : hV H5 285 35 = hV H0 285 35 := ((f27.1.2.1.1 285 35 kF_219_285_35)).trans (((f23.1.2.1.1 285 35 kF_216_285_35)).trans (((f18.1.2.1.1 285 35 kF_216_285_35)).trans (((f14.1.2.1.1 285 35 kF_233_285_35)).trans (f8.1.2.1.1 285 35 kF_232_285_35))))
  have e33 : hV H5 285 44 = hV H2 285 44 := ((f27.1.2.1.1 285 44 kF_219_285_44)).trans (((f23.1.2.1.1 285 44 kF_216_285_44)).trans (f18.1.2.1.1 285 44 kF_216_285_44))
  have e37 : hV H5 285 51 = hV H2 285 51 := ((f27.1.2.1.1 285 51 kF_219_285_51)).trans (((f23.1.2.1.1 285 51 kF_216_285_51)).trans (f18.1.2.1.1 285 51 kF_216_285_51))
  have e44 : hV H5 306 = hV H1 306 := (fRow f27.1.2.1 306 kR_219_306).trans ((fRow f23.1.2.1 306 kR_216_306).trans ((fRow f18.1.2.1 306 kR_216_306).trans (fRow f14.1.2.1 306 kR_233_306)))
  have e51 : hV H5 308 = hV H1 308 := (fRow f27.1.2.1 308 kR_219_308).trans ((fRow f23.1.2.1 308 kR_216_308).trans ((fRow f18.1.2.1 308 kR_216_308).trans (fRow f14.1.2.1 308 kR_233_308)))
  have e58 : hV H5 309 = hV H1 309 := (fRow f27.1.2.1 309 kR_219_309).trans ((fRow f23.1.2.1 309 kR_216_309).trans ((fRow f18.1.2.1 309 kR_216_309).trans (fRow f14.1.2.1 309 kR_233_309)))
  have e65 : hV H5 310 = hV H1 310 := (fRow f27.1.2.1 310 kR_219_310).trans ((fRow f23.1.2.1 310 kR_216_310).trans ((fRow f18.1.2.1 310 kR_216_310).trans (fRow f14.1.2.1 310 kR_233_310)))
  have e70 : hV H5 320 = hV H2 320 := (fRow f27.1.2.1 320 kR_219_320).trans ((fRow f23.1.2.1 320 kR_216_320).trans (fRow f18.1.2.1 320 kR_216_320))
  have e75 : hV H5 321 = hV H2 321 := (fRow f27.1.2.1 321 kR_219_321).trans ((fRow f23.1.2.1 321 kR_216_321).trans (fRow f18.1.2.1 321 kR_216_321))
  have e76 : RN H2 = RN H1 := RN_fr f14.1.2.1 (by decide +kernel)
  have e77 : RN H3 = RN H2 := RN_fr f18.1.2.1 (by decide +kernel)
  have e78 : RN H3 = RN H1 := e77.trans e76
  have e79 : RN H4 = RN H3 := RN_fr f23.1.2.1 (by decide +kernel)
  have e80 : RN H4 = RN H1 := e79.trans e78
  have e81 : RN H5 = RN H4 := RN_fr f27.1.2.1 (by decide +kernel)
  have e82 : RN H5 = RN H1 := e81.trans e80
  have e83 : RR H3 = RR H2 := RR_fr f18.1.2.1 (by decide +kernel)
  have e84 : RR H4 = RR H3 := RR_fr f23.1.2.1 (by decide +kernel)
  have e85 : RR H4 = RR H2 := e84.trans e83
  have e86 : RR H5 = RR H4 := RR_fr f27.1.2.1 (by decide +kernel)
  have e87 : RR H5 = RR H2 := e86.trans e85
  have e88 : (0 : Int) ≤ hV H1 285 11 ∧ hV H1 285 11 ≤ 500 := f8.1.2.2 285 11 _ _ kW_285_11
  have e89 : (0 : Int) ≤ hV H1 285 12 ∧ hV H1 285 12 ≤ 7 := f8.1.2.2 285 12 _ _ kW_285_12
  have e90 : (0 : Int) ≤ hV H1 285 13 ∧ hV H1 285 13 ≤ 2 := f8.1.2.2 285 13 _ _ kW_285_13
  have e91 : (0 : Int) ≤ hV H0 285 34 ∧ hV H0 285 34 ≤ 1 := bTo ((f8.1.2.1.1 285 34 kF_232_285_34)) (f8.1.2.2 285 34 _ _ kW_285_34)
  have e92 : (0 : Int) ≤ hV H0 285 35 ∧ hV H0 285 35 ≤ 1 := bTo e4 (f8.1.2.2 285 35 _ _ kW_285_35)
  have e93 : (0 : Int) ≤ hV H1 285 44 ∧ hV H1 285 44 ≤ 400 := f8.1.2.2 285 44 _ _ kW_285_44
  have e94 : (0 : Int) ≤ hV H1 285 51 ∧ hV H1 285 51 ≤ 1200 := f8.1.2.2 285 51 _ _ kW_285_51
  have e95 : (0 : Int) ≤ hV H2 285 11 ∧ hV H2 285 11 ≤ 500 := f14.1.2.2.2 285 11 _ _ kW_285_11
  have e96 : (0 : Int) ≤ hV H2 285 12 ∧ hV H2 285 12 ≤ 7 := f14.1.2.2.2 285 12 _ _ kW_285_12
  have e97 : (0 : Int) ≤ hV H2 285 13 ∧ hV H2 285 13 ≤ 2 := f14.1.2.2.2 285 13 _ _ kW_285_13
  have e99 : (0 : Int) ≤ hV H2 285 44 ∧ hV H2 285 44 ≤ 400 := f14.1.2.2.2 285 44 _ _ kW_285_44
  have e100 : (0 : Int) ≤ hV H2 285 51 ∧ hV H2 285 51 ≤ 1200 := f14.1.2.2.2 285 51 _ _ kW_285_51
  have e105 : (0 : Int) ≤ hV H5 285 11 ∧ hV H5 285 11 ≤ 500 := f27.1.2.2.2 285 11 _ _ kW_285_11
  have e107 : (0 : Int) ≤ hV H5 285 13 ∧ hV H5 285 13 ≤ 2 := f27.1.2.2.2 285 13 _ _ kW_285_13
  try simp only [e25, e29, e33, e37, e44, e51, e58, e65, e70, e75, e82, e87]
  have y0 := g4.1
  have y1 := g4.2.1
  have y2 := g4.2.2.1
  have y3 := g4.2.2.2.1
  have y4 := g4.2.2.2.2.1
  have y5 := g4.2.2.2.2.2.1
  have y6 := g4.2.2.2.2.2.2.1
  have y7 := g4.2.2.2.2.2.2.2.1
  have y8 := g4.2.2.2.2.2.2.2.2.1
  have y9 := g4.2.2.2.2.2.2.2.2.2.1
  have y10 := g4.2.2.2.2.2.2.2.2.2.2.1
  have y11 := g4.2.2.2.2.2.2.2.2.2.2.2.1
  have y12 := g4.2.2.2.2.2.2.2.2.2.2.2.2.1
  have y13 := g4.2.2.2.2.2.2.2.2.2.2.2.2.2.1
  have y14 := g4.2.2.2.2.2.2.2.2.2.2.2.2.2.2.1
  have y15 := g4.2.2.2.2.2.2.2.2.2.2.2.2.2.2.2
  have p0 := g3.1
  have p1 := g3.2.1
  have p2 := g3.2.2.1
  have p3 := g3.2.2.2.1
  have p4 := g3.2.2.2.2.1
  have p5 := g3.2.2.2.2.2.1
  have p6 := g3.2.2.2.2.2.2.1
  have p7 := g3.2.2.2.2.2.2.2
  have r0_0 := f14.2.1
  have r0_1 := f14.2.2.1
  have r0_2 := f14.2.2.2.1
  have r0_3 := f14.2.2.2.2.1
  have r0_4 := f14.2.2.2.2.2.1
  have r0_5 := f14.2.2.2.2.2.2.1
  have r0_6 := f14.2.2.2.2.2.2.2.1
  have r0_7 := f14.2.2.2.2.2.2.2.2.1
  have r0_8 := f14.2.2.2.2.2.2.2.2.2.1
  have r0_9 := f14.2.2.2.2.2.2.2.2.2.2.1
  have r0_10 := f14.2.2.2.2.2.2.2.2.2.2.2
  have r1_0 := f18.2.1
  have r2_0 := f23.2.1
  have r3_0 := f27.2.1
  have r3_1 := f27.2.2.1
  have r3_2 := f27.2.2.2.1
  have r3_3 := f27.2.2.2.2
  try simp only [e4] at y6
  try simp only [e4] at y7
  try simp only [e4] at y8
  try simp only [e4] at y9
  try simp only [e4] at y10
  try simp only [e4] at y11
  try simp only [e4] at y14
  try simp only [e6] at r0_6
  try simp only [e6] at r0_8
  try simp only [e6] at r0_9
  try simp only [e10] at r1_0
  try simp only [e19] at r2_0
  try simp only [e17] at r3_0
  try simp only [e17] at r3_1
  try simp only [e19] at r3_2
  try simp only [e17] at r3_3
  clear g3
  clear g4
  clear f12 e4 e6 e10 e17 e19 e25 e29 e33 e37 e44 e51 e58 e65 e70 e75 e76 e77 e78 e79 e80 e81 e82 e83 e84 e85 e86 e87
  clear f8 f14 f18 f23 f27
  subst e0

  have w_rules := fun x : Nat => y15 x
  refine ⟨⟨?_, ?_, ?_, ?_, ?_, ?_, ?_, ?_, ?_, ?_, ?_, ?_, ?_, ?_, ?_, ?_⟩, fun q hq => ?_⟩
  · exact r0_0
  · first | omega | (simp only [uF_at]; omega)
  · first | omega | (simp only [uF_at]; omega)
  · first | omega | (simp only [uF_at]; omega)
  · first | omega | (simp only [uF_at]; omega)
  · first | omega | (simp only [uF_at]; omega)
  · first | omega | (simp only [uF_at]; omega)
  · first | omega | (simp only [uF_at]; omega)
  · first | omega | (simp only [uF_at]; omega)
  · first | omega | (simp only [uF_at]; omega)
  · first | omega | (simp only [uF_at]; omega)
  · first | omega | (simp only [uF_at]; omega)
  · first | omega | (simp only [uF_at]; omega)
  · intro z
    exact CG_keep (y13 (by omega)) (r0_7 (by omega)) (by omega) (by omega)
  · first | omega | (simp only [uF_at]; omega)
  · exact y15
  · have g6 := Option.some.inj hq
    subst g6
    omega
def g_232_202_6 : vG := ([(1219, [1], [4, 5], 0), (31, [10], [], 0), (0, [10], [], 0), (30, [9], [], 0), (1216, [9, 1, 8], [3, 4], 0), (90, [9], [], 0), (91, [9], [], 1), (0, [8], [], 47), (30, [7], [], 0), (1216, [7, 1, 6], [2, 3], 0), (90, [7], [], 0), (91, [7], [], 1), (0, [6], [], 46), (1233, [1, 4], [1, 2], 0), (30, [5], [], 0), (20, [5, 1], [1], 13), (90, [5], [], 0), (91, [5], [], 2), (31, [3], [], 0), (5000, [0, 1, 2, 3, 4], [0, 1], 202), (0, [0], [], 285), (0, [1], [], 285), (90, [2], [], 0), (91, [2], [], 23), (90, [3], [], 0), (91, [3], [], 1), (90, [4], [], 0), (91, [4], [], 1)], (4000, [1, 2, 10, 7], [5], 202))
theorem c_232_202_6 {q0 : Nat} : vOkm T0 (eP e_232 L_232 A_232 mu_232 (some q0)) 1 g_232_202_6 := vOk_inI fun ρ η f0 f1 f2 f3 f4 f5 f6 f7 f8 f9 f10 f11 f12 f13 f14 f15 f16 f17 f18 f19 f20 f21 f22 f23 f24 f25 f26 f27 => q_232_33 (q0 := q0) (n0 := ρ 4) (n1 := ρ 3) (n2 := ρ 2) (n3 := ρ 1) (n4 := ρ 0) (n5 := ρ 5) (n6 := ρ 6) (n7 := ρ 7) (n8 := ρ 8) (n9 := ρ 9) (n10 := ρ 10) (H0 := η 0) (H1 := η 1) (H2 := η 2) (H3 := η 3) (H4 := η 4) (H5 := η 5) f27 f26 f25 f24 f23 f22 f21 f20 f19 f18 f17 f16 f15 f14 f13 f12 f11 f10 f9 f8 f7 f6 f5 f4 f3 f2 f1 f0
set_option maxHeartbeats 20000000 in
theorem q_232_34 {q0 : Nat} {n0 n1 n2 n3 n4 n5 n6 n7 n8 n9 n10 : Int} {H0 H1 H2 H3 H4 : gH} (f0 : n0 ≤ 1) (f1 : 0 ≤ n0) (f2 : n1 ≤ 1) (f3 : 0 ≤ n1) (f4 : n2 ≤ 23) (f5 : 0 ≤ n2) (f6 : n3 = 285) (f7 : n4 = 285) (f8 : (hLe T0 H0 H1 ∧ hFr s_232.2.2.2.2 H0 H1 ∧ hWt T0 H1) ∧ (Ab_232_202 n4 n3 n2 n1 n0 H0 H1 ∧ preb_232 n4 H0) ∧ some q0 = some (mub_232_202 n4 n3 n2 n1 n0 H0 H1)) (f9 : n1 ≠ 0) (f10 : n5 ≤ 2) (f11 : 0 ≤ n5) (f12 : n5 = hV H1 (n3).toNat 13) (f13 : n5 = 0) (f14 : (hLe T0 H1 H2 ∧ hFr s_233.2.2.2.2 H1 H2 ∧ ((0 : Int) = 0 → H2.length = H1.length) ∧ hWt T0 H2) ∧ postb_233 n3 n0 H1 H2) (f15 : n6 = 46) (f16 : n7 ≤ 1) (f17 : 0 ≤ n7) (f18 : (hLe T0 H2 H3 ∧ hFr s_216.2.2.2.2 H2 H3 ∧ ((0 : Int) = 0 → H3.length = H2.length) ∧ hWt T0 H3) ∧ postb_216 n7 n3 n6 H2 H3) (f19 : n7 = 0) (f20 : n8 = 47) (f21 : n9 ≤ 1) (f22 : 0 ≤ n9) (f23 : (hLe T0 H3 H4 ∧ hFr s_216.2.2.2.2 H3 H4 ∧ ((0 : Int) = 0 → H4.length = H3.length) ∧ hWt T0 H4) ∧ postb_216 n9 n3 n8 H3 H4) (f24 : n9 ≠ 0) (f25 : n10 = 1) (f26 : n10 = 0) : Ab_232_202 n4 n3 n2 n10 n7 H0 H4 ∧ ∀ q, some q0 = some q → mub_232_202 n4 n3 n2 n10 n7 H0 H4 < q := by
  have g4 := f8.2.1.1
  unfold Ab_232_202 at g4
  have g3 := f8.2.1.2
  unfold preb_232 at g3
  have g5 := Option.some.inj f8.2.2
  unfold mub_232_202 at g5
  unfold postb_233 at f14
  unfold postb_216 at f18
  unfold postb_216 at f23
  unfold Ab_232_202
  unfold mub_232_202
  have e0 : n5 = hV H1 285 13 := (by rw [f6] at f12; exact f12 : n5 = hV H1 285 13)
  have e4 : hV H1 285 35 = hV H0 285 35 := (f8.1.2.1.1 285 35 kF_232_285_35)
  have e6 : hV H2 285 35 = hV H0 285 35 := ((f14.1.2.1.1 285 35 kF_233_285_35)).trans (f8.1.2.1.1 285 35 kF_232_285_35)
  have e8 : hV H3 285 11 = hV H2 285 11 := (f18.1.2.1.1 285 11 kF_216_285_11)
  have e10 : hV H3 285 13 = hV H2 285 13 := (f18.1.2.1.1 285 13 kF_216_285_13)
  have e15 : hV H3 288 = hV H0 288 := (fRow f18.1.2.1 288 kR_216_288).trans ((fRow f14.1.2.1 288 kR_233_288).trans (fRow f8.1.2.1 288 kR_232_288))
  have e17 : hV H4 285 11 = hV H2 285 11 := ((f23.1.2.1.1 285 11 kF_216_285_11)).trans (f18.1.2.1.1 285 11 kF_216_285_11)
  have e20 : hV H4 285 12 = hV H2 285 12 := ((f23.1.2.1.1 285 12 kF_216_285_12)).trans (f18.1.2.1.1 285 12 kF_216_285_12)
  have e22 : hV H4 285 13 = hV H2 285 13 := ((f23.1.2.1.1 285 13 kF_216_285_13)).trans (f18.1.2.1.1 285 13 kF_216_285_13)
  have e25 : hV H4 285 35 = hV H0 285 35 := ((f23.1.2.1.1 285 35 kF_216_285_35)).trans (((f18.1.2.1.1 285 35 kF_216_285_35)).trans (((f14.1.2.1.1 285 35 kF_233_285_35)).trans (f8.1.2.1.1 285 35 kF_232_285_35)))
  have e28 : hV H4 285 44 = hV H2 285 44 := ((f23.1.2.1.1 285 44 kF_216_285_44)).trans (f18.1.2.1.1 285 44 kF_216_285_44)
  have e31 : hV H4 285 51 = hV H2 285 51 := ((f23.1.2.1.1 285 51 kF_216_285_51)).trans (f18.1.2.1.1 285 51 kF_216_285_51)
  have e33 : hV H4 288 = hV H0 288 := (fRow f23.1.2.1 288 kR_216_288).trans e15
  have e38 : hV H4 306 = hV H1 306 := (fRow f23.1.2.1 306 kR_216_306).trans ((fRow f18.1.2.1 306 kR_216_306).trans (fRow f14.1.2.1 306 kR_233_306))
  have e43 : hV H4 308 = hV H1 308 := (fRow f23.1.2.1 308 kR_216_308).trans ((fRow f18.1.2.1 308 kR_216_308).trans (fRow f14.1.2.1 308 kR_233_308))
  have e48 : hV H4 309 = hV H1 309 := (fRow f23.1.2.1 309 kR_216_309).trans ((fRow f18.1.2.1 309 kR_216_309).trans (fRow f14.1.2.1 309 kR_233_309))
  have e53 : hV H4 310 = hV H1 310 := (fRow f23.1.2.1 310 kR_216_310).trans ((fRow f18.1.2.1 310 kR_216_310).trans (fRow f14.1.2.1 310 kR_233_310))
  have e56 : hV H4 320 = hV H2 320 := (fRow f23.1.2.1 320 kR_216_320).trans (fRow f18.1.2.1 320 kR_216_320)
  have e59 : hV H4 321 = hV H2 321 := (fRow f23.1.2.1 321 kR_216_321).trans (fRow f18.1.2.1 321 kR_216_321)
  have e60 : RN H2 = RN H1 := RN_fr f14.1.2.1 (by decide +kernel)
  have e61 : RN H3 = RN H2 := RN_fr f18.1.2.1 (by decide +kernel)
  have e62 : RN H3 = RN H1 := e61.trans e60
  have e63 : RN H4 = RN H3 := RN_fr f23.1.2.1 (by decide +kernel)
  have e64 : RN H4 = RN H1 := e63.trans e62
  have e65 : RR H3 = RR H2 := RR_fr f18.1.2.1 (by decide +kernel)
  have e66 : RR H4 = RR H3 := RR_fr f23.1.2.1 (by decide +kernel)
  have e67 : RR H4 = RR H2 := e66.trans e65
  have e68 : (0 : Int) ≤ hV H1 285 11 ∧ hV H1 285 11 ≤ 500 := f8.1.2.2 285 11 _ _ kW_285_11
  have e69 : (0 : Int) ≤ hV H1 285 12 ∧ hV H1 285 12 ≤ 7 := f8.1.2.2 285 12 _ _ kW_285_12
  have e70 : (0 : Int) ≤ hV H1 285 13 ∧ hV H1 285 13 ≤ 2 := f8.1.2.2 285 13 _ _ kW_285_13
  have e71 : (0 : Int) ≤ hV H0 285 34 ∧ hV H0 285 34 ≤ 1 := bTo ((f8.1.2.1.1 285 34 kF_232_285_34)) (f8.1.2.2 285 34 _ _ kW_285_34)
  have e72 : (0 : Int) ≤ hV H0 285 35 ∧ hV H0 285 35 ≤ 1 := bTo e4 (f8.1.2.2 285 35 _ _ kW_285_35)
  have e73 : (0 : Int) ≤ hV H1 285 44 ∧ hV H1 285 44 ≤ 400 := f8.1.2.2 285 44 _ _ kW_285_44
  have e74 : (0 : Int) ≤ hV H1 285 51 ∧ hV H1 285 51 ≤ 1200 := f8.1.2.2 285 51 _ _ kW_285_51
  have e75 : (0 : Int) ≤ hV H2 285 11 ∧ hV H2 285 11 ≤ 500 := f14.1.2.2.2 285 11 _ _ kW_285_11
  have e76 : (0 : Int) ≤ hV H2 285 12 ∧ hV H2 285 12 ≤ 7 := f14.1.2.2.2 285 12 _ _ kW_285_12
  have e77 : (0 : Int) ≤ hV H2 285 13 ∧ hV H2 285 13 ≤ 2 := f14.1.2.2.2 285 13 _ _ kW_285_13
  have e79 : (0 : Int) ≤ hV H2 285 44 ∧ hV H2 285 44 ≤ 400 := f14.1.2.2.2 285 44 _ _ kW_285_44
  have e80 : (0 : Int) ≤ hV H2 285 51 ∧ hV H2 285 51 ≤ 1200 := f14.1.2.2.2 285 51 _ _ kW_285_51
  try simp only [e17, e20, e22, e25, e28, e31, e38, e43, e48, e53, e56, e59, e64, e67]
  have y0 := g4.1
  have y1 := g4.2.1
  have y2 := g4.2.2.1
  have y3 := g4.2.2.2.1
  have y4 := g4.2.2.2.2.1
  have y5 := g4.2.2.2.2.2.1
  have y6 := g4.2.2.2.2.2.2.1
  have y7 := g4.2.2.2.2.2.2.2.1
  have y8 := g4.2.2.2.2.2.2.2.2.1
  have y9 := g4.2.2.2.2.2.2.2.2.2.1
  have y10 := g4.2.2.2.2.2.2.2.2.2.2.1
  have y11 := g4.2.2.2.2.2.2.2.2.2.2.2.1
  have y12 := g4.2.2.2.2.2.2.2.2.2.2.2.2.1
  have y13 := g4.2.2.2.2.2.2.2.2.2.2.2.2.2.1
  have y14 := g4.2.2.2.2.2.2.2.2.2.2.2.2.2.2.1
  have y15 := g4.2.2.2.2.2.2.2.2.2.2.2.2.2.2.2
  have p0 := g3.1
  have p1 := g3.2.1
  have p2 := g3.2.2.1
  have p3 := g3.2.2.2.1
  have p4 := g3.2.2.2.2.1
  have p5 := g3.2.2.2.2.2.1
  have p6 := g3.2.2.2.2.2.2.1
  have p7 := g3.2.2.2.2.2.2.2
  have r0_0 := f14.2.1
  have r0_1 := f14.2.2.1
  have r0_2 := f14.2.2.2.1
  have r0_3 := f14.2.2.2.2.1
  have r0_4 := f14.2.2.2.2.2.1
  have r0_5 := f14.2.2.2.2.2.2.1
  have r0_6 := f14.2.2.2.2.2.2.2.1
  have r0_7 := f14.2.2.2.2.2.2.2.2.1
  have r0_8 := f14.2.2.2.2.2.2.2.2.2.1
  have r0_9 := f14.2.2.2.2.2.2.2.2.2.2.1
  have r0_10 := f14.2.2.2.2.2.2.2.2.2.2.2
  have r1_0 := f18.2.1
  have r2_0 := f23.2.1
  have r2_1 := f23.2.2.resolve_right (fun z => f24 z.1)
  try simp only [e4] at y6
  try simp only [e4] at y7
  try simp only [e4] at y8
  try simp only [e4] at y9
  try simp only [e4] at y10
  try simp only [e4] at y11
  try simp only [e4] at y14
  try simp only [e6] at r0_6
  try simp only [e6] at r0_8
  try simp only [e6] at r0_9
  try simp only [e10] at r1_0
  try simp only [e22] at r2_0
  try simp only [e8, e10, e15, e17, e20, e22, e25, e28, e31, e33, e38, e43, e48, e53, e56, e59, e64, e67] at r2_1
  clear g3
  clear g4
  clear f12 e4 e6 e8 e10 e15 e17 e20 e22 e25 e28 e31 e33 e38 e43 e48 e53 e56 e59 e60 e61 e62 e63 e64 e65 e66 e67
  clear f8 f14 f18 f23
  subst e0

  have w_rules := fun x : Nat => y15 x
  refine ⟨⟨?_, ?_, ?_, ?_, ?_, ?_, ?_, ?_, ?_, ?_, ?_, ?_, ?_, ?_, ?_, ?_⟩, fun q hq => ?_⟩
  · exact r0_0
  · first | omega | (simp only [uF_at]; omega)
  · first | omega | (simp only [uF_at]; omega)
  · first | omega | (simp only [uF_at]; omega)
  · first | omega | (simp only [uF_at]; omega)
  · first | omega | (simp only [uF_at]; omega)
  · first | omega | (simp only [uF_at]; omega)
  · first | omega | (simp only [uF_at]; omega)
  · first | omega | (simp only [uF_at]; omega)
  · first | omega | (simp only [uF_at]; omega)
  · first | omega | (simp only [uF_at]; omega)
  · first | omega | (simp only [uF_at]; omega)
  · first | omega | (simp only [uF_at]; omega)
  · intro z
    exact CG_keep (y13 (by omega)) (r0_7 (by omega)) (by omega) (by omega)
  · first | omega | (simp only [uF_at]; omega)
  · exact y15
  · have g6 := Option.some.inj hq
    subst g6
    omega
def g_232_202_7 : vG := ([(30, [10], [], 0), (0, [10], [], 1), (31, [9], [], 0), (1216, [9, 1, 8], [3, 4], 0), (90, [9], [], 0), (91, [9], [], 1), (0, [8], [], 47), (30, [7], [], 0), (1216, [7, 1, 6], [2, 3], 0), (90, [7], [], 0), (91, [7], [], 1), (0, [6], [], 46), (1233, [1, 4], [1, 2], 0), (30, [5], [], 0), (20, [5, 1], [1], 13), (90, [5], [], 0), (91, [5], [], 2), (31, [3], [], 0), (5000, [0, 1, 2, 3, 4], [0, 1], 202), (0, [0], [], 285), (0, [1], [], 285), (90, [2], [], 0), (91, [2], [], 23), (90, [3], [], 0), (91, [3], [], 1), (90, [4], [], 0), (91, [4], [], 1)], (4000, [1, 2, 10, 7], [4], 202))
theorem c_232_202_7 {q0 : Nat} : vOkm T0 (eP e_232 L_232 A_232 mu_232 (some q0)) 1 g_232_202_7 := vOk_inI fun ρ η f0 f1 f2 f3 f4 f5 f6 f7 f8 f9 f10 f11 f12 f13 f14 f15 f16 f17 f18 f19 f20 f21 f22 f23 f24 f25 f26 => q_232_34 (q0 := q0) (n0 := ρ 4) (n1 := ρ 3) (n2 := ρ 2) (n3 := ρ 1) (n4 := ρ 0) (n5 := ρ 5) (n6 := ρ 6) (n7 := ρ 7) (n8 := ρ 8) (n9 := ρ 9) (n10 := ρ 10) (H0 := η 0) (H1 := η 1) (H2 := η 2) (H3 := η 3) (H4 := η 4) f26 f25 f24 f23 f22 f21 f20 f19 f18 f17 f16 f15 f14 f13 f12 f11 f10 f9 f8 f7 f6 f5 f4 f3 f2 f1 f0
set_option maxHeartbeats 20000000 in
theorem q_232_35 {q0 : Nat} {n0 n1 n2 n3 n4 n5 n6 n7 n8 n9 n10 : Int} {H0 H1 H2 H3 H4 H5 : gH} (f0 : n0 ≤ 1) (f1 : 0 ≤ n0) (f2 : n1 ≤ 1) (f3 : 0 ≤ n1) (f4 : n2 ≤ 23) (f5 : 0 ≤ n2) (f6 : n3 = 285) (f7 : n4 = 285) (f8 : (hLe T0 H0 H1 ∧ hFr s_232.2.2.2.2 H0 H1 ∧ hWt T0 H1) ∧ (Ab_232_202 n4 n3 n2 n1 n0 H0 H1 ∧ preb_232 n4 H0) ∧ some q0 = some (mub_232_202 n4 n3 n2 n1 n0 H0 H1)) (f9 : n1 ≠ 0) (f10 : n5 ≤ 2) (f11 : 0 ≤ n5) (f12 : n5 = hV H1 (n3).toNat 13) (f13 : n5 = 0) (f14 : (hLe T0 H1 H2 ∧ hFr s_233.2.2.2.2 H1 H2 ∧ ((0 : Int) = 0 → H2.length = H1.length) ∧ hWt T0 H2) ∧ postb_233 n3 n0 H1 H2) (f15 : n6 = 46) (f16 : n7 ≤ 1) (f17 : 0 ≤ n7) (f18 : (hLe T0 H2 H3 ∧ hFr s_216.2.2.2.2 H2 H3 ∧ ((0 : Int) = 0 → H3.length = H2.length) ∧ hWt T0 H3) ∧ postb_216 n7 n3 n6 H2 H3) (f19 : n7 = 0) (f20 : n8 = 47) (f21 : n9 ≤ 1) (f22 : 0 ≤ n9) (f23 : (hLe T0 H3 H4 ∧ hFr s_216.2.2.2.2 H3 H4 ∧ ((0 : Int) = 0 → H4.length = H3.length) ∧ hWt T0 H4) ∧ postb_216 n9 n3 n8 H3 H4) (f24 : n9 ≠ 0) (f25 : n10 = 1) (f26 : n10 ≠ 0) (f27 : (hLe T0 H4 H5 ∧ hFr s_219.2.2.2.2 H4 H5 ∧ ((0 : Int) = 0 → H5.length = H4.length) ∧ hWt T0 H5) ∧ postb_219 n3 H4 H5) : Ab_232_202 n4 n3 n2 n10 n7 H0 H5 ∧ ∀ q, some q0 = some q → mub_232_202 n4 n3 n2 n10 n7 H0 H5 < q := by
  have g4 := f8.2.1.1
  unfold Ab_232_202 at g4
  have g3 := f8.2.1.2
  unfold preb_232 at g3
  have g5 := Option.some.inj f8.2.2
  unfold mub_232_202 at g5
  unfold postb_233 at f14
  unfold postb_216 at f18
  unfold postb_216 at f23
  unfold postb_219 at f27
  unfold Ab_232_202
  unfold mub_232_202
  have e0 : n5 = hV H1 285 13 := (by rw [f6] at f12; exact f12 : n5 = hV H1 285 13)
  have e4 : hV H1 285 35 = hV H0 285 35 := (f8.1.2.1.1 285 35 kF_232_285_35)
  have e6 : hV H2 285 35 = hV H0 285 35 := ((f14.1.2.1.1 285 35 kF_233_285_35)).trans (f8.1.2.1.1 285 35 kF_232_285_35)
  have e8 : hV H3 285 11 = hV H2 285 11 := (f18.1.2.1.1 285 11 kF_216_285_11)
  have e10 : hV H3 285 13 = hV H2 285 13 := (f18.1.2.1.1 285 13 kF_216_285_13)
  have e15 : hV H3 288 = hV H0 288 := (fRow f18.1.2.1 288 kR_216_288).trans ((fRow f14.1.2.1 288 kR_233_288).trans (fRow f8.1.2.1 288 kR_232_288))
  have e17 : hV H4 285 11 = hV H2 285 11 := ((f23.1.2.1.1 285 11 kF_216_285_11)).trans (f18.1.2.1.1 285 11 kF_216_285_11)
  have e19 : hV H4 285 13 = hV H2 285 13 := ((f23.1.2.1.1 285 13 kF_216_285_13)).trans (f18.1.2.1.1 285 13 kF_216_285_13)
  have e21 : hV H4 288 = hV H0 288 := (fRow f23.1.2.1 288 kR_216_288).trans e15
  have e25 : hV H5 285 12 = hV H2 285 12 := ((f27.1.2.1.1 285 12 kF_219_285_12)).trans (((f23.1.2.1.1 285 12 kF_216_285_12)).trans (f18.1.2.1.1 285 12 kF_216_285_12))
  have e29 : hV H5 285 35 = hV H0 285 35 := ((f27.1.2.1.1 285 35 kF_219_285_35)).trans (((f23.1.2.1.1 285 35 kF_216_285_35)).trans (((f18.1.2.1.1 285 35 kF_216_285_35)).trans (((f14.1.2.1.1 285 35 kF_233_285_35)).trans (f8.1.2.1.1 285 35 kF_232_285_35))))
  have e33 : hV H5 285 44 = hV H2 285 44 := ((f27.1.2.1.1 285 44 kF_219_285_44)).trans (((f23.1.2.1.1 285 44 kF_216_285_44)).trans (f18.1.2.1.1 285 44 kF_216_285_44))
  have e37 : hV H5 285 51 = hV H2 285 51 := ((f27.1.2.1.1 285 51 kF_219_285_51)).trans (((f23.1.2.1.1 285 51 kF_216_285_51)).trans (f18.1.2.1.1 285 51 kF_216_285_51))
  have e44 : hV H5 306 = hV H1 306 := (fRow f27.1.2.1 306 kR_219_306).trans ((fRow f23.1.2.1 306 kR_216_306).trans ((fRow f18.1.2.1 306 kR_216_306).trans (fRow f14.1.2.1 306 kR_233_306)))
  have e51 : hV H5 308 = hV H1 308 := (fRow f27.1.2.1 308 kR_219_308).trans ((fRow f23.1.2.1 308 kR_216_308).trans ((fRow f18.1.2.1 308 kR_216_308).trans (fRow f14.1.2.1 308 kR_233_308)))
  have e58 : hV H5 309 = hV H1 309 := (fRow f27.1.2.1 309 kR_219_309).trans ((fRow f23.1.2.1 309 kR_216_309).trans ((fRow f18.1.2.1 309 kR_216_309).trans (fRow f14.1.2.1 309 kR_233_309)))
  have e65 : hV H5 310 = hV H1 310 := (fRow f27.1.2.1 310 kR_219_310).trans ((fRow f23.1.2.1 310 kR_216_310).trans ((fRow f18.1.2.1 310 kR_216_310).trans (fRow f14.1.2.1 310 kR_233_310)))
  have e70 : hV H5 320 = hV H2 320 := (fRow f27.1.2.1 320 kR_219_320).trans ((fRow f23.1.2.1 320 kR_216_320).trans (fRow f18.1.2.1 320 kR_216_320))
  have e75 : hV H5 321 = hV H2 321 := (fRow f27.1.2.1 321 kR_219_321).trans ((fRow f23.1.2.1 321 kR_216_321).trans (fRow f18.1.2.1 321 kR_216_321))
  have e76 : RN H2 = RN H1 := RN_fr f14.1.2.1 (by decide +kernel)
  have e77 : RN H3 = RN H2 := RN_fr f18.1.2.1 (by decide +kernel)
  have e78 : RN H3 = RN H1 := e77.trans e76
  have e79 : RN H4 = RN H3 := RN_fr f23.1.2.1 (by decide +kernel)
  have e80 : RN H4 = RN H1 := e79.trans e78
  have e81 : RN H5 = RN H4 := RN_fr f27.1.2.1 (by decide +kernel)
  have e82 : RN H5 = RN H1 := e81.trans e80
  have e83 : RR H3 = RR H2 := RR_fr f18.1.2.1 (by decide +kernel)
  have e84 : RR H4 = RR H3 := RR_fr f23.1.2.1 (by decide +kernel)
  have e85 : RR H4 = RR H2 := e84.trans e83
  have e86 : RR H5 = RR H4 := RR_fr f27.1.2.1 (by decide +kernel)
  have e87 : RR H5 = RR H2 := e86.trans e85
  have e88 : (0 : Int) ≤ hV H1 285 11 ∧ hV H1 285 11 ≤ 500 := f8.1.2.2 285 11 _ _ kW_285_11
  have e89 : (0 : Int) ≤ hV H1 285 12 ∧ hV H1 285 12 ≤ 7 := f8.1.2.2 285 12 _ _ kW_285_12
  have e90 : (0 : Int) ≤ hV H1 285 13 ∧ hV H1 285 13 ≤ 2 := f8.1.2.2 285 13 _ _ kW_285_13
  have e91 : (0 : Int) ≤ hV H0 285 34 ∧ hV H0 285 34 ≤ 1 := bTo ((f8.1.2.1.1 285 34 kF_232_285_34)) (f8.1.2.2 285 34 _ _ kW_285_34)
  have e92 : (0 : Int) ≤ hV H0 285 35 ∧ hV H0 285 35 ≤ 1 := bTo e4 (f8.1.2.2 285 35 _ _ kW_285_35)
  have e93 : (0 : Int) ≤ hV H1 285 44 ∧ hV H1 285 44 ≤ 400 := f8.1.2.2 285 44 _ _ kW_285_44
  have e94 : (0 : Int) ≤ hV H1 285 51 ∧ hV H1 285 51 ≤ 1200 := f8.1.2.2 285 51 _ _ kW_285_51
  have e95 : (0 : Int) ≤ hV H2 285 11 ∧ hV H2 285 11 ≤ 500 := f14.1.2.2.2 285 11 _ _ kW_285_11
  have e96 : (0 : Int) ≤ hV H2 285 12 ∧ hV H2 285 12 ≤ 7 := f14.1.2.2.2 285 12 _ _ kW_285_12
  have e97 : (0 : Int) ≤ hV H2 285 13 ∧ hV H2 285 13 ≤ 2 := f14.1.2.2.2 285 13 _ _ kW_285_13
  have e99 : (0 : Int) ≤ hV H2 285 44 ∧ hV H2 285 44 ≤ 400 := f14.1.2.2.2 285 44 _ _ kW_285_44
  have e100 : (0 : Int) ≤ hV H2 285 51 ∧ hV H2 285 51 ≤ 1200 := f14.1.2.2.2 285 51 _ _ kW_285_51
  have e105 : (0 : Int) ≤ hV H5 285 11 ∧ hV H5 285 11 ≤ 500 := f27.1.2.2.2 285 11 _ _ kW_285_11
  have e107 : (0 : Int) ≤ hV H5 285 13 ∧ hV H5 285 13 ≤ 2 := f27.1.2.2.2 285 13 _ _ kW_285_13
  try simp only [e25, e29, e33, e37, e44, e51, e58, e65, e70, e75, e82, e87]
  have y0 := g4.1
  have y1 := g4.2.1
  have y2 := g4.2.2.1
  have y3 := g4.2.2.2.1
  have y4 := g4.2.2.2.2.1
  have y5 := g4.2.2.2.2.2.1
  have y6 := g4.2.2.2.2.2.2.1
  have y7 := g4.2.2.2.2.2.2.2.1
  have y8 := g4.2.2.2.2.2.2.2.2.1
  have y9 := g4.2.2.2.2.2.2.2.2.2.1
  have y10 := g4.2.2.2.2.2.2.2.2.2.2.1
  have y11 := g4.2.2.2.2.2.2.2.2.2.2.2.1
  have y12 := g4.2.2.2.2.2.2.2.2.2.2.2.2.1
  have y13 := g4.2.2.2.2.2.2.2.2.2.2.2.2.2.1
  have y14 := g4.2.2.2.2.2.2.2.2.2.2.2.2.2.2.1
  have y15 := g4.2.2.2.2.2.2.2.2.2.2.2.2.2.2.2
  have p0 := g3.1
  have p1 := g3.2.1
  have p2 := g3.2.2.1
  have p3 := g3.2.2.2.1
  have p4 := g3.2.2.2.2.1
  have p5 := g3.2.2.2.2.2.1
  have p6 := g3.2.2.2.2.2.2.1
  have p7 := g3.2.2.2.2.2.2.2
  have r0_0 := f14.2.1
  have r0_1 := f14.2.2.1
  have r0_2 := f14.2.2.2.1
  have r0_3 := f14.2.2.2.2.1
  have r0_4 := f14.2.2.2.2.2.1
  have r0_5 := f14.2.2.2.2.2.2.1
  have r0_6 := f14.2.2.2.2.2.2.2.1
  have r0_7 := f14.2.2.2.2.2.2.2.2.1
  have r0_8 := f14.2.2.2.2.2.2.2.2.2.1
  have r0_9 := f14.2.2.2.2.2.2.2.2.2.2.1
  have r0_10 := f14.2.2.2.2.2.2.2.2.2.2.2
  have r1_0 := f18.2.1
  have r2_0 := f23.2.1
  have r2_1 := f23.2.2.resolve_right (fun z => f24 z.1)
  have r3_0 := f27.2.1
  have r3_1 := f27.2.2.1
  have r3_2 := f27.2.2.2.1
  have r3_3 := f27.2.2.2.2
  try simp only [e4] at y6
  try simp only [e4] at y7
  try simp only [e4] at y8
  try simp only [e4] at y9
  try simp only [e4] at y10
  try simp only [e4] at y11
  try simp only [e4] at y14
  try simp only [e6] at r0_6
  try simp only [e6] at r0_8
  try simp only [e6] at r0_9
  try simp only [e10] at r1_0
  try simp only [e19] at r2_0
  try simp only [e8, e10, e15, e17, e19, e21] at r2_1
  try simp only [e17] at r3_0
  try simp only [e17] at r3_1
  try simp only [e19] at r3_2
  try simp only [e17] at r3_3
  clear g3
  clear g4
  clear f12 e4 e6 e8 e10 e15 e17 e19 e21 e25 e29 e33 e37 e44 e51 e58 e65 e70 e75 e76 e77 e78 e79 e80 e81 e82 e83 e84 e85 e86 e87
  clear f8 f14 f18 f23 f27
  subst e0

  have w_rules := fun x : Nat => y15 x
  refine ⟨⟨?_, ?_, ?_, ?_, ?_, ?_, ?_, ?_, ?_, ?_, ?_, ?_, ?_, ?_, ?_, ?_⟩, fun q hq => ?_⟩
  · exact r0_0
  · first | omega | (simp only [uF_at]; omega)
  · first | omega | (simp only [uF_at]; omega)
  · first | omega | (simp only [uF_at]; omega)
  · first | omega | (simp only [uF_at]; omega)
  · first | omega | (simp only [uF_at]; omega)
  · first | omega | (simp only [uF_at]; omega)
  · first | omega | (simp only [uF_at]; omega)
  · first | omega | (simp only [uF_at]; omega)
  · first | omega | (simp only [uF_at]; omega)
  · first | omega | (simp only [uF_at]; omega)
  · first | omega | (simp only [uF_at]; omega)
  · first | omega | (simp only [uF_at]; omega)
  · intro z
    exact CG_keep (y13 (by omega)) (r0_7 (by omega)) (by omega) (by omega)
  · first | omega | (simp only [uF_at]; omega)
  · exact y15
  · have g6 := Option.some.inj hq
    subst g6
    omega
def g_232_202_8 : vG := ([(1219, [1], [4, 5], 0), (31, [10], [], 0), (0, [10], [], 1), (31, [9], [], 0), (1216, [9, 1, 8], [3, 4], 0), (90, [9], [], 0), (91, [9], [], 1), (0, [8], [], 47), (30, [7], [], 0), (1216, [7, 1, 6], [2, 3], 0), (90, [7], [], 0), (91, [7], [], 1), (0, [6], [], 46), (1233, [1, 4], [1, 2], 0), (30, [5], [], 0), (20, [5, 1], [1], 13), (90, [5], [], 0), (91, [5], [], 2), (31, [3], [], 0), (5000, [0, 1, 2, 3, 4], [0, 1], 202), (0, [0], [], 285), (0, [1], [], 285), (90, [2], [], 0), (91, [2], [], 23), (90, [3], [], 0), (91, [3], [], 1), (90, [4], [], 0), (91, [4], [], 1)], (4000, [1, 2, 10, 7], [5], 202))
theorem c_232_202_8 {q0 : Nat} : vOkm T0 (eP e_232 L_232 A_232 mu_232 (some q0)) 1 g_232_202_8 := vOk_inI fun ρ η f0 f1 f2 f3 f4 f5 f6 f7 f8 f9 f10 f11 f12 f13 f14 f15 f16 f17 f18 f19 f20 f21 f22 f23 f24 f25 f26 f27 => q_232_35 (q0 := q0) (n0 := ρ 4) (n1 := ρ 3) (n2 := ρ 2) (n3 := ρ 1) (n4 := ρ 0) (n5 := ρ 5) (n6 := ρ 6) (n7 := ρ 7) (n8 := ρ 8) (n9 := ρ 9) (n10 := ρ 10) (H0 := η 0) (H1 := η 1) (H2 := η 2) (H3 := η 3) (H4 := η 4) (H5 := η 5) f27 f26 f25 f24 f23 f22 f21 f20 f19 f18 f17 f16 f15 f14 f13 f12 f11 f10 f9 f8 f7 f6 f5 f4 f3 f2 f1 f0
def p_232_202 : List vG := [g_232_202_0,
  g_232_202_1,
  g_232_202_2,
  g_232_202_3,
  g_232_202_4,
  g_232_202_5,
  g_232_202_6,
  g_232_202_7,
  g_232_202_8]
theorem r_232_202 : vCovO false (eRc e_232 L_232 cs_232 2000 (202, [(0, (3, 12, 285, 0)), (1, (0, 0, 23, 0)), (2, (0, 0, 1, 0)), (3, (0, 0, 1, 0))])) p_232_202 = true := by decide +kernel
set_option maxHeartbeats 20000000 in
theorem q_232_36 {q0 : Nat} {n0 n1 n2 n3 n4 n5 n6 n7 n8 n9 n10 n11 : Int} {H0 H1 H2 H3 : gH} (f0 : n0 ≤ 23) (f1 : 0 ≤ n0) (f2 : n1 = 285) (f3 : n2 = 285) (f4 : (hLe T0 H0 H1 ∧ hFr s_232.2.2.2.2 H0 H1 ∧ hWt T0 H1) ∧ (Ab_232_255 n2 n1 n0 H0 H1 ∧ preb_232 n2 H0) ∧ some q0 = some (mub_232_255 n2 n1 n0 H0 H1)) (f5 : n3 = 4) (f6 : (hLe T0 H1 H2 ∧ hFr s_220.2.2.2.2 H1 H2 ∧ ((0 : Int) = 0 → H2.length = H1.length) ∧ hWt T0 H2) ∧ postb_220 n1 n3 H1 H2) (f7 : n4 ≤ 2) (f8 : 0 ≤ n4) (f9 : n4 = hV H2 (n1).toNat 13) (f10 : n4 ≤ 0) (f11 : n5 = 311) (f12 : n5 = hV H2 (n1).toNat 41) (f13 : n6 ≤ 400) (f14 : 0 ≤ n6) (f15 : n6 = hV H2 (n1).toNat 44) (f16 : hUpd H3 H2 n5 n0 n6) (f17 : n7 = 306) (f18 : n7 = hV H3 (n1).toNat 36) (f19 : n8 ≤ 1) (f20 : 0 ≤ n8) (f21 : n8 = hV H3 (n1).toNat 35) (f22 : n9 ≤ 12) (f23 : 0 ≤ n9) (f24 : n9 = hV H3 (n7).toNat (n8).toNat) (f25 : n10 = 1) (f26 : n11 = w32 (n9 + n10)) : 0 ≤ n11 := by
  have g4 := f4.2.1.1
  unfold Ab_232_255 at g4
  have g3 := f4.2.1.2
  unfold preb_232 at g3
  unfold postb_220 at f6
  have e0 : n4 = hV H2 285 13 := (by rw [f2] at f9; exact f9 : n4 = hV H2 285 13)
  have e2 : n6 = hV H1 285 44 := (by rw [f2] at f15; exact f15 : n6 = hV H2 285 44).trans ((f6.1.2.1.1 285 44 kF_220_285_44))
  have e6 : n8 = hV H0 285 35 := (by rw [f2] at f21; exact f21 : n8 = hV H3 285 35).trans (((uPlace f16 285 35 (iS (show n5 = ((311 : Nat) : Int) from f11) rfl))).trans (((f6.1.2.1.1 285 35 kF_220_285_35)).trans (f4.1.2.1.1 285 35 kF_232_285_35)))
  have e9 : n9 = hV H1 306 (n8).toNat := (by rw [f17] at f24; exact f24 : n9 = hV H3 306 (n8).toNat).trans (((congrFun (uRowNe f16 306 (iS (show n5 = ((311 : Nat) : Int) from f11) rfl)) _)).trans ((congrFun (fRow f6.1.2.1 306 kR_220_306) _)))
  have e11 : hV H1 285 34 = hV H0 285 34 := (f4.1.2.1.1 285 34 kF_232_285_34)
  have e12 : hV H1 285 35 = hV H0 285 35 := (f4.1.2.1.1 285 35 kF_232_285_35)
  have e16 : (0 : Int) ≤ hV H1 285 11 ∧ hV H1 285 11 ≤ 500 := f4.1.2.2 285 11 _ _ kW_285_11
  have e17 : (0 : Int) ≤ hV H1 285 12 ∧ hV H1 285 12 ≤ 7 := f4.1.2.2 285 12 _ _ kW_285_12
  have e18 : (0 : Int) ≤ hV H1 285 13 ∧ hV H1 285 13 ≤ 2 := f4.1.2.2 285 13 _ _ kW_285_13
  have e19 : (0 : Int) ≤ hV H0 285 34 ∧ hV H0 285 34 ≤ 1 := bTo e11 (f4.1.2.2 285 34 _ _ kW_285_34)
  have e20 : (0 : Int) ≤ hV H0 285 35 ∧ hV H0 285 35 ≤ 1 := bTo e12 (f4.1.2.2 285 35 _ _ kW_285_35)
  have e21 : (0 : Int) ≤ hV H1 285 44 ∧ hV H1 285 44 ≤ 400 := f4.1.2.2 285 44 _ _ kW_285_44
  have e22 : (0 : Int) ≤ hV H1 285 51 ∧ hV H1 285 51 ≤ 1200 := f4.1.2.2 285 51 _ _ kW_285_51
  have e23 : (0 : Int) ≤ hV H2 285 11 ∧ hV H2 285 11 ≤ 500 := f6.1.2.2.2 285 11 _ _ kW_285_11
  have e24 : (0 : Int) ≤ hV H2 285 13 ∧ hV H2 285 13 ≤ 2 := f6.1.2.2.2 285 13 _ _ kW_285_13
  try simp only [RR]
  have y0 := g4.1
  have y1 := g4.2.1
  have y2 := g4.2.2.1
  have y3 := g4.2.2.2.1
  have y4 := g4.2.2.2.2.1
  have y5 := g4.2.2.2.2.2.1
  have y6 := g4.2.2.2.2.2.2.1
  have y7 := g4.2.2.2.2.2.2.2.1
  have y8 := g4.2.2.2.2.2.2.2.2.1
  have y9 := g4.2.2.2.2.2.2.2.2.2.1
  have y10 := g4.2.2.2.2.2.2.2.2.2.2.1
  have y11 := g4.2.2.2.2.2.2.2.2.2.2.2.1
  have y12 := g4.2.2.2.2.2.2.2.2.2.2.2.2.1
  have y13 := g4.2.2.2.2.2.2.2.2.2.2.2.2.2.1
  have y14 := g4.2.2.2.2.2.2.2.2.2.2.2.2.2.2.1
  have y15 := g4.2.2.2.2.2.2.2.2.2.2.2.2.2.2.2
  have p0 := g3.1
  have p1 := g3.2.1
  have p2 := g3.2.2.1
  have p3 := g3.2.2.2.1
  have p4 := g3.2.2.2.2.1
  have p5 := g3.2.2.2.2.2.1
  have p6 := g3.2.2.2.2.2.2.1
  have p7 := g3.2.2.2.2.2.2.2
  have r0_0 := f6.2.1
  have r0_1 := f6.2.2.1
  have r0_2 := f6.2.2.2.1
  have r0_3 := f6.2.2.2.2.1
  try simp only [RR] at y0
  try simp only [RR] at p0
  try simp only [e11, e12] at y0
  try simp only [e12] at y6
  try simp only [e12] at y7
  try simp only [e12] at y8
  try simp only [e12] at y9
  try simp only [e12] at y10
  try simp only [e12] at y11
  try simp only [e12] at y14
  clear g3
  clear g4
  clear f9 f12 f15 f18 f21 f24 e11 e12
  clear f4 f6
  subst e0
  subst e2
  subst e6
  subst e9
  first
  | (have ix0 : n11 = hV H1 306 (hV H0 285 35).toNat + 1 := Eq.trans f26 (w32_iv (Iad (Iat f23 f22) (IC 1)) (by decide)); subst ix0; clear f26)
  | (have ix0 : n11 = hV H1 306 (hV H0 285 35).toNat + 1 := Eq.trans f26 (w32_id (by omega) (by omega)); subst ix0; clear f26)
  | (unfold w32 at f26; have ix0 : n11 = hV H1 306 (hV H0 285 35).toNat + 1 := (by omega); subst ix0)
  | skip
  try unfold w32 at f26
  subst y10
  omega
def g_232_255_0 : vG := ([(1, [11, 9, 10], [], 0), (0, [10], [], 1), (22, [9, 7, 8], [3], 0), (90, [9], [], 0), (91, [9], [], 12), (20, [8, 1], [3], 35), (90, [8], [], 0), (91, [8], [], 1), (20, [7, 1], [3], 36), (0, [7], [], 306), (80, [5, 2, 6], [3, 2], 0), (20, [6, 1], [2], 44), (90, [6], [], 0), (91, [6], [], 400), (20, [5, 1], [2], 41), (0, [5], [], 311), (35, [4], [], 0), (20, [4, 1], [2], 13), (90, [4], [], 0), (91, [4], [], 2), (1220, [1, 3], [1, 2], 0), (0, [3], [], 4), (5000, [0, 1, 2], [0, 1], 255), (0, [0], [], 285), (0, [1], [], 285), (90, [2], [], 0), (91, [2], [], 23)], (90, [11], [], 0))
theorem c_232_255_0 {q0 : Nat} : vOkm T0 (eP e_232 L_232 A_232 mu_232 (some q0)) 1 g_232_255_0 := vOk_inI fun ρ η f0 f1 f2 f3 f4 f5 f6 f7 f8 f9 f10 f11 f12 f13 f14 f15 f16 f17 f18 f19 f20 f21 f22 f23 f24 f25 f26 => q_232_36 (q0 := q0) (n0 := ρ 2) (n1 := ρ 1) (n2 := ρ 0) (n3 := ρ 3) (n4 := ρ 4) (n5 := ρ 5) (n6 := ρ 6) (n7 := ρ 7) (n8 := ρ 8) (n9 := ρ 9) (n10 := ρ 10) (n11 := ρ 11) (H0 := η 0) (H1 := η 1) (H2 := η 2) (H3 := η 3) f26 f25 f24 f23 f22 f21 f20 f19 f18 f17 f16 f15 f14 f13 f12 f11 f10 f9 f8 f7 f6 f5 f4 f3 f2 f1 f0
set_option maxHeartbeats 20000000 in
theorem q_232_37 {q0 : Nat} {n0 n1 n2 n3 n4 n5 n6 n7 n8 n9 n10 n11 : Int} {H0 H1 H2 H3 : gH} (f0 : n0 ≤ 23) (f1 : 0 ≤ n0) (f2 : n1 = 285) (f3 : n2 = 285) (f4 : (hLe T0 H0 H1 ∧ hFr s_232.2.2.2.2 H0 H1 ∧ hWt T0 H1) ∧ (Ab_232_255 n2 n1 n0 H0 H1 ∧ preb_232 n2 H0) ∧ some q0 = some (mub_232_255 n2 n1 n0 H0 H1)) (f5 : n3 = 4) (f6 : (hLe T0 H1 H2 ∧ hFr s_220.2.2.2.2 H1 H2 ∧ ((0 : Int) = 0 → H2.length = H1.length) ∧ hWt T0 H2) ∧ postb_220 n1 n3 H1 H2) (f7 : n4 ≤ 2) (f8 : 0 ≤ n4) (f9 : n4 = hV H2 (n1).toNat 13) (f10 : n4 ≤ 0) (f11 : n5 = 311) (f12 : n5 = hV H2 (n1).toNat 41) (f13 : n6 ≤ 400) (f14 : 0 ≤ n6) (f15 : n6 = hV H2 (n1).toNat 44) (f16 : hUpd H3 H2 n5 n0 n6) (f17 : n7 = 306) (f18 : n7 = hV H3 (n1).toNat 36) (f19 : n8 ≤ 1) (f20 : 0 ≤ n8) (f21 : n8 = hV H3 (n1).toNat 35) (f22 : n9 ≤ 12) (f23 : 0 ≤ n9) (f24 : n9 = hV H3 (n7).toNat (n8).toNat) (f25 : n10 = 1) (f26 : n11 = w32 (n9 + n10)) : n11 ≤ 12 := by
  have g4 := f4.2.1.1
  unfold Ab_232_255 at g4
  have g3 := f4.2.1.2
  unfold preb_232 at g3
  unfold postb_220 at f6
  have e0 : n4 = hV H2 285 13 := (by rw [f2] at f9; exact f9 : n4 = hV H2 285 13)
  have e2 : n6 = hV H1 285 44 := (by rw [f2] at f15; exact f15 : n6 = hV H2 285 44).trans ((f6.1.2.1.1 285 44 kF_220_285_44))
  have e6 : n8 = hV H0 285 35 := (by rw [f2] at f21; exact f21 : n8 = hV H3 285 35).trans (((uPlace f16 285 35 (iS (show n5 = ((311 : Nat) : Int) from f11) rfl))).trans (((f6.1.2.1.1 285 35 kF_220_285_35)).trans (f4.1.2.1.1 285 35 kF_232_285_35)))
  have e9 : n9 = hV H1 306 (n8).toNat := (by rw [f17] at f24; exact f24 : n9 = hV H3 306 (n8).toNat).trans (((congrFun (uRowNe f16 306 (iS (show n5 = ((311 : Nat) : Int) from f11) rfl)) _)).trans ((congrFun (fRow f6.1.2.1 306 kR_220_306) _)))
  have e11 : hV H1 285 34 = hV H0 285 34 := (f4.1.2.1.1 285 34 kF_232_285_34)
  have e12 : hV H1 285 35 = hV H0 285 35 := (f4.1.2.1.1 285 35 kF_232_285_35)
  have e16 : (0 : Int) ≤ hV H1 285 11 ∧ hV H1 285 11 ≤ 500 := f4.1.2.2 285 11 _ _ kW_285_11
  have e17 : (0 : Int) ≤ hV H1 285 12 ∧ hV H1 285 12 ≤ 7 := f4.1.2.2 285 12 _ _ kW_285_12
  have e18 : (0 : Int) ≤ hV H1 285 13 ∧ hV H1 285 13 ≤ 2 := f4.1.2.2 285 13 _ _ kW_285_13
  have e19 : (0 : Int) ≤ hV H0 285 34 ∧ hV H0 285 34 ≤ 1 := bTo e11 (f4.1.2.2 285 34 _ _ kW_285_34)
  have e20 : (0 : Int) ≤ hV H0 285 35 ∧ hV H0 285 35 ≤ 1 := bTo e12 (f4.1.2.2 285 35 _ _ kW_285_35)
  have e21 : (0 : Int) ≤ hV H1 285 44 ∧ hV H1 285 44 ≤ 400 := f4.1.2.2 285 44 _ _ kW_285_44
  have e22 : (0 : Int) ≤ hV H1 285 51 ∧ hV H1 285 51 ≤ 1200 := f4.1.2.2 285 51 _ _ kW_285_51
  have e23 : (0 : Int) ≤ hV H2 285 11 ∧ hV H2 285 11 ≤ 500 := f6.1.2.2.2 285 11 _ _ kW_285_11
  have e24 : (0 : Int) ≤ hV H2 285 13 ∧ hV H2 285 13 ≤ 2 := f6.1.2.2.2 285 13 _ _ kW_285_13
  try simp only [RR]
  have y0 := g4.1
  have y1 := g4.2.1
  have y2 := g4.2.2.1
  have y3 := g4.2.2.2.1
  have y4 := g4.2.2.2.2.1
  have y5 := g4.2.2.2.2.2.1
  have y6 := g4.2.2.2.2.2.2.1
  have y7 := g4.2.2.2.2.2.2.2.1
  have y8 := g4.2.2.2.2.2.2.2.2.1
  have y9 := g4.2.2.2.2.2.2.2.2.2.1
  have y10 := g4.2.2.2.2.2.2.2.2.2.2.1
  have y11 := g4.2.2.2.2.2.2.2.2.2.2.2.1
  have y12 := g4.2.2.2.2.2.2.2.2.2.2.2.2.1
  have y13 := g4.2.2.2.2.2.2.2.2.2.2.2.2.2.1
  have y14 := g4.2.2.2.2.2.2.2.2.2.2.2.2.2.2.1
  have y15 := g4.2.2.2.2.2.2.2.2.2.2.2.2.2.2.2
  have p0 := g3.1
  have p1 := g3.2.1
  have p2 := g3.2.2.1
  have p3 := g3.2.2.2.1
  have p4 := g3.2.2.2.2.1
  have p5 := g3.2.2.2.2.2.1
  have p6 := g3.2.2.2.2.2.2.1
  have p7 := g3.2.2.2.2.2.2.2
  have r0_0 := f6.2.1
  have r0_1 := f6.2.2.1
  have r0_2 := f6.2.2.2.1
  have r0_3 := f6.2.2.2.2.1
  try simp only [RR] at y0
  try simp only [RR] at p0
  try simp only [e11, e12] at y0
  try simp only [e12] at y6
  try simp only [e12] at y7
  try simp only [e12] at y8
  try simp only [e12] at y9
  try simp only [e12] at y10
  try simp only [e12] at y11
  try simp only [e12] at y14
  clear g3
  clear g4
  clear f9 f12 f15 f18 f21 f24 e11 e12
  clear f4 f6
  subst e0
  subst e2
  subst e6
  subst e9
  first
  | (have ix0 : n11 = hV H1 306 (hV H0 285 35).toNat + 1 := Eq.trans f26 (w32_iv (Iad (Iat f23 f22) (IC 1)) (by decide)); subst ix0; clear f26)
  | (have ix0 : n11 = hV H1 306 (hV H0 285 35).toNat + 1 := Eq.trans f26 (w32_id (by omega) (by omega)); subst ix0; clear f26)
  | (unfold w32 at f26; have ix0 : n11 = hV H1 306 (hV H0 285 35).toNat + 1 := (by omega); subst ix0)
  | skip
  try unfold w32 at f26
  subst y10
  omega
def g_232_255_1 : vG := ([(1, [11, 9, 10], [], 0), (0, [10], [], 1), (22, [9, 7, 8], [3], 0), (90, [9], [], 0), (91, [9], [], 12), (20, [8, 1], [3], 35), (90, [8], [], 0), (91, [8], [], 1), (20, [7, 1], [3], 36), (0, [7], [], 306), (80, [5, 2, 6], [3, 2], 0), (20, [6, 1], [2], 44), (90, [6], [], 0), (91, [6], [], 400), (20, [5, 1], [2], 41), (0, [5], [], 311), (35, [4], [], 0), (20, [4, 1], [2], 13), (90, [4], [], 0), (91, [4], [], 2), (1220, [1, 3], [1, 2], 0), (0, [3], [], 4), (5000, [0, 1, 2], [0, 1], 255), (0, [0], [], 285), (0, [1], [], 285), (90, [2], [], 0), (91, [2], [], 23)], (91, [11], [], 12))
theorem c_232_255_1 {q0 : Nat} : vOkm T0 (eP e_232 L_232 A_232 mu_232 (some q0)) 1 g_232_255_1 := vOk_inI fun ρ η f0 f1 f2 f3 f4 f5 f6 f7 f8 f9 f10 f11 f12 f13 f14 f15 f16 f17 f18 f19 f20 f21 f22 f23 f24 f25 f26 => q_232_37 (q0 := q0) (n0 := ρ 2) (n1 := ρ 1) (n2 := ρ 0) (n3 := ρ 3) (n4 := ρ 4) (n5 := ρ 5) (n6 := ρ 6) (n7 := ρ 7) (n8 := ρ 8) (n9 := ρ 9) (n10 := ρ 10) (n11 := ρ 11) (H0 := η 0) (H1 := η 1) (H2 := η 2) (H3 := η 3) f26 f25 f24 f23 f22 f21 f20 f19 f18 f17 f16 f15 f14 f13 f12 f11 f10 f9 f8 f7 f6 f5 f4 f3 f2 f1 f0
set_option maxHeartbeats 20000000 in
theorem kR_220_307 : vFreeR s_220.2.2.2.2 307 = true := by decide +kernel
theorem kR_220_311 : vFreeR s_220.2.2.2.2 311 = true := by decide +kernel
theorem kR_220_317 : vFreeR s_220.2.2.2.2 317 = true := by decide +kernel
theorem kR_220_318 : vFreeR s_220.2.2.2.2 318 = true := by decide +kernel
theorem kR_220_319 : vFreeR s_220.2.2.2.2 319 = true := by decide +kernel
theorem kF_220_285_34 : vFree s_220.2.2.2.2 285 34 = true := by decide +kernel
theorem q_232_38 {q0 : Nat} {n0 n1 n2 n3 n4 n5 n6 n7 n8 n9 n10 n11 : Int} {H0 H1 H2 H3 H4 : gH} (f0 : n0 ≤ 23) (f1 : 0 ≤ n0) (f2 : n1 = 285) (f3 : n2 = 285) (f4 : (hLe T0 H0 H1 ∧ hFr s_232.2.2.2.2 H0 H1 ∧ hWt T0 H1) ∧ (Ab_232_255 n2 n1 n0 H0 H1 ∧ preb_232 n2 H0) ∧ some q0 = some (mub_232_255 n2 n1 n0 H0 H1)) (f5 : n3 = 4) (f6 : (hLe T0 H1 H2 ∧ hFr s_220.2.2.2.2 H1 H2 ∧ ((0 : Int) = 0 → H2.length = H1.length) ∧ hWt T0 H2) ∧ postb_220 n1 n3 H1 H2) (f7 : n4 ≤ 2) (f8 : 0 ≤ n4) (f9 : n4 = hV H2 (n1).toNat 13) (f10 : n4 ≤ 0) (f11 : n5 = 311) (f12 : n5 = hV H2 (n1).toNat 41) (f13 : n6 ≤ 400) (f14 : 0 ≤ n6) (f15 : n6 = hV H2 (n1).toNat 44) (f16 : hUpd H3 H2 n5 n0 n6) (f17 : n7 = 306) (f18 : n7 = hV H3 (n1).toNat 36) (f19 : n8 ≤ 1) (f20 : 0 ≤ n8) (f21 : n8 = hV H3 (n1).toNat 35) (f22 : n9 ≤ 12) (f23 : 0 ≤ n9) (f24 : n9 = hV H3 (n7).toNat (n8).toNat) (f25 : n10 = 1) (f26 : n11 = w32 (n9 + n10)) (f27 : hUpd H4 H3 n7 n8 n11) : postb_232 n2 H0 H4 := by
  have g4 := f4.2.1.1
  unfold Ab_232_255 at g4
  have g3 := f4.2.1.2
  unfold preb_232 at g3
  unfold postb_220 at f6
  unfold postb_232
  have e0 : n4 = hV H2 285 13 := (by rw [f2] at f9; exact f9 : n4 = hV H2 285 13)
  have e2 : n6 = hV H1 285 44 := (by rw [f2] at f15; exact f15 : n6 = hV H2 285 44).trans ((f6.1.2.1.1 285 44 kF_220_285_44))
  have e6 : n8 = hV H0 285 35 := (by rw [f2] at f21; exact f21 : n8 = hV H3 285 35).trans (((uPlace f16 285 35 (iS (show n5 = ((311 : Nat) : Int) from f11) rfl))).trans (((f6.1.2.1.1 285 35 kF_220_285_35)).trans (f4.1.2.1.1 285 35 kF_232_285_35)))
  have e9 : n9 = hV H1 306 (n8).toNat := (by rw [f17] at f24; exact f24 : n9 = hV H3 306 (n8).toNat).trans (((congrFun (uRowNe f16 306 (iS (show n5 = ((311 : Nat) : Int) from f11) rfl)) _)).trans ((congrFun (fRow f6.1.2.1 306 kR_220_306) _)))
  have e11 : hV H1 285 34 = hV H0 285 34 := (f4.1.2.1.1 285 34 kF_232_285_34)
  have e12 : hV H1 285 35 = hV H0 285 35 := (f4.1.2.1.1 285 35 kF_232_285_35)
  have e18 : hV H4 285 11 = hV H2 285 11 := ((uPlace f27 285 11 (iS (show n7 = ((306 : Nat) : Int) from f17) rfl))).trans (uPlace f16 285 11 (iS (show n5 = ((311 : Nat) : Int) from f11) rfl))
  have e22 : hV H4 285 12 = hV H1 285 12 := ((uPlace f27 285 12 (iS (show n7 = ((306 : Nat) : Int) from f17) rfl))).trans (((uPlace f16 285 12 (iS (show n5 = ((311 : Nat) : Int) from f11) rfl))).trans (f6.1.2.1.1 285 12 kF_220_285_12))
  have e25 : hV H4 285 13 = hV H2 285 13 := ((uPlace f27 285 13 (iS (show n7 = ((306 : Nat) : Int) from f17) rfl))).trans (uPlace f16 285 13 (iS (show n5 = ((311 : Nat) : Int) from f11) rfl))
  have e29 : hV H4 285 34 = hV H0 285 34 := ((uPlace f27 285 34 (iS (show n7 = ((306 : Nat) : Int) from f17) rfl))).trans (((uPlace f16 285 34 (iS (show n5 = ((311 : Nat) : Int) from f11) rfl))).trans (((f6.1.2.1.1 285 34 kF_220_285_34)).trans (f4.1.2.1.1 285 34 kF_232_285_34)))
  have e31 : hV H4 285 35 = hV H0 285 35 := ((uPlace f27 285 35 (iS (show n7 = ((306 : Nat) : Int) from f17) rfl))).trans (((uPlace f16 285 35 (iS (show n5 = ((311 : Nat) : Int) from f11) rfl))).trans (((f6.1.2.1.1 285 35 kF_220_285_35)).trans (f4.1.2.1.1 285 35 kF_232_285_35)))
  have e34 : hV H4 285 44 = hV H1 285 44 := ((uPlace f27 285 44 (iS (show n7 = ((306 : Nat) : Int) from f17) rfl))).trans (((uPlace f16 285 44 (iS (show n5 = ((311 : Nat) : Int) from f11) rfl))).trans (f6.1.2.1.1 285 44 kF_220_285_44))
  have e38 : hV H4 285 51 = hV H1 285 51 := ((uPlace f27 285 51 (iS (show n7 = ((306 : Nat) : Int) from f17) rfl))).trans (((uPlace f16 285 51 (iS (show n5 = ((311 : Nat) : Int) from f11) rfl))).trans (f6.1.2.1.1 285 51 kF_220_285_51))
  have e41 : hV H4 306 = (uF (hV H1 306) n8 n11) := (uRow f27 306 f17.symm).trans (congrArg (fun z => uF z n8 n11) ((uRowNe f16 306 (iS (show n5 = ((311 : Nat) : Int) from f11) rfl)).trans (fRow f6.1.2.1 306 kR_220_306)))
  have e46 : hV H4 307 = hV H1 307 := (uRowNe f27 307 (iS (show n7 = ((306 : Nat) : Int) from f17) rfl)).trans ((uRowNe f16 307 (iS (show n5 = ((311 : Nat) : Int) from f11) rfl)).trans (fRow f6.1.2.1 307 kR_220_307))
  have e51 : hV H4 308 = hV H1 308 := (uRowNe f27 308 (iS (show n7 = ((306 : Nat) : Int) from f17) rfl)).trans ((uRowNe f16 308 (iS (show n5 = ((311 : Nat) : Int) from f11) rfl)).trans (fRow f6.1.2.1 308 kR_220_308))
  have e56 : hV H4 309 = hV H1 309 := (uRowNe f27 309 (iS (show n7 = ((306 : Nat) : Int) from f17) rfl)).trans ((uRowNe f16 309 (iS (show n5 = ((311 : Nat) : Int) from f11) rfl)).trans (fRow f6.1.2.1 309 kR_220_309))
  have e61 : hV H4 310 = hV H1 310 := (uRowNe f27 310 (iS (show n7 = ((306 : Nat) : Int) from f17) rfl)).trans ((uRowNe f16 310 (iS (show n5 = ((311 : Nat) : Int) from f11) rfl)).trans (fRow f6.1.2.1 310 kR_220_310))
  have e66 : hV H4 311 = (uF (hV H1 311) n0 n6) := (uRowNe f27 311 (iS (show n7 = ((306 : Nat) : Int) from f17) rfl)).trans ((uRow f16 311 f11.symm).trans (congrArg (fun z => uF z n0 n6) (fRow f6.1.2.1 311 kR_220_311)))
  have e71 : hV H4 317 = hV H1 317 := (uRowNe f27 317 (iS (show n7 = ((306 : Nat) : Int) from f17) rfl)).trans ((uRowNe f16 317 (iS (show n5 = ((311 : Nat) : Int) from f11) rfl)).trans (fRow f6.1.2.1 317 kR_220_317))
  have e76 : hV H4 318 = hV H1 318 := (uRowNe f27 318 (iS (show n7 = ((306 : Nat) : Int) from f17) rfl)).trans ((uRowNe f16 318 (iS (show n5 = ((311 : Nat) : Int) from f11) rfl)).trans (fRow f6.1.2.1 318 kR_220_318))
  have e81 : hV H4 319 = hV H1 319 := (uRowNe f27 319 (iS (show n7 = ((306 : Nat) : Int) from f17) rfl)).trans ((uRowNe f16 319 (iS (show n5 = ((311 : Nat) : Int) from f11) rfl)).trans (fRow f6.1.2.1 319 kR_220_319))
  have e86 : hV H4 320 = hV H1 320 := (uRowNe f27 320 (iS (show n7 = ((306 : Nat) : Int) from f17) rfl)).trans ((uRowNe f16 320 (iS (show n5 = ((311 : Nat) : Int) from f11) rfl)).trans (fRow f6.1.2.1 320 kR_220_320))
  have e91 : hV H4 321 = hV H1 321 := (uRowNe f27 321 (iS (show n7 = ((306 : Nat) : Int) from f17) rfl)).trans ((uRowNe f16 321 (iS (show n5 = ((311 : Nat) : Int) from f11) rfl)).trans (fRow f6.1.2.1 321 kR_220_321))
  have e92 : (0 : Int) ≤ hV H1 285 11 ∧ hV H1 285 11 ≤ 500 := f4.1.2.2 285 11 _ _ kW_285_11
  have e93 : (0 : Int) ≤ hV H1 285 12 ∧ hV H1 285 12 ≤ 7 := f4.1.2.2 285 12 _ _ kW_285_12
  have e94 : (0 : Int) ≤ hV H1 285 13 ∧ hV H1 285 13 ≤ 2 := f4.1.2.2 285 13 _ _ kW_285_13
  have e95 : (0 : Int) ≤ hV H0 285 34 ∧ hV H0 285 34 ≤ 1 := bTo e11 (f4.1.2.2 285 34 _ _ kW_285_34)
  have e96 : (0 : Int) ≤ hV H0 285 35 ∧ hV H0 285 35 ≤ 1 := bTo e12 (f4.1.2.2 285 35 _ _ kW_285_35)
  have e97 : (0 : Int) ≤ hV H1 285 44 ∧ hV H1 285 44 ≤ 400 := f4.1.2.2 285 44 _ _ kW_285_44
  have e98 : (0 : Int) ≤ hV H1 285 51 ∧ hV H1 285 51 ≤ 1200 := f4.1.2.2 285 51 _ _ kW_285_51
  have e99 : (0 : Int) ≤ hV H2 285 11 ∧ hV H2 285 11 ≤ 500 := f6.1.2.2.2 285 11 _ _ kW_285_11
  have e100 : (0 : Int) ≤ hV H2 285 13 ∧ hV H2 285 13 ≤ 2 := f6.1.2.2.2 285 13 _ _ kW_285_13
  try simp only [RR, RN]
  try simp only [e18, e22, e25, e29, e31, e34, e38, e41, e46, e51, e56, e61, e66, e71, e76, e81, e86, e91]
  have y0 := g4.1
  have y1 := g4.2.1
  have y2 := g4.2.2.1
  have y3 := g4.2.2.2.1
  have y4 := g4.2.2.2.2.1
  have y5 := g4.2.2.2.2.2.1
  have y6 := g4.2.2.2.2.2.2.1
  have y7 := g4.2.2.2.2.2.2.2.1
  have y8 := g4.2.2.2.2.2.2.2.2.1
  have y9 := g4.2.2.2.2.2.2.2.2.2.1
  have y10 := g4.2.2.2.2.2.2.2.2.2.2.1
  have y11 := g4.2.2.2.2.2.2.2.2.2.2.2.1
  have y12 := g4.2.2.2.2.2.2.2.2.2.2.2.2.1
  have y13 := g4.2.2.2.2.2.2.2.2.2.2.2.2.2.1
  have y14 := g4.2.2.2.2.2.2.2.2.2.2.2.2.2.2.1
  have y15 := g4.2.2.2.2.2.2.2.2.2.2.2.2.2.2.2
  have p0 := g3.1
  have p1 := g3.2.1
  have p2 := g3.2.2.1
  have p3 := g3.2.2.2.1
  have p4 := g3.2.2.2.2.1
  have p5 := g3.2.2.2.2.2.1
  have p6 := g3.2.2.2.2.2.2.1
  have p7 := g3.2.2.2.2.2.2.2
  have r0_0 := f6.2.1
  have r0_1 := f6.2.2.1
  have r0_2 := f6.2.2.2.1
  have r0_3 := f6.2.2.2.2.1
  try simp only [RR] at y0
  try simp only [RN] at y15
  try simp only [RR] at p0
  try simp only [RN] at p7
  try simp only [e11, e12] at y0
  try simp only [e12] at y6
  try simp only [e12] at y7
  try simp only [e12] at y8
  try simp only [e12] at y9
  try simp only [e12] at y10
  try simp only [e12] at y11
  try simp only [e12] at y14
  clear g3
  clear g4
  clear f9 f12 f15 f18 f21 f24 e11 e12 e18 e22 e25 e29 e31 e34 e38 e41 e46 e51 e56 e61 e66 e71 e76 e81 e86 e91
  clear f4 f6
  subst e0
  subst e2
  subst e6
  subst e9
  first
  | (have ix0 : n11 = hV H1 306 (hV H0 285 35).toNat + 1 := Eq.trans f26 (w32_iv (Iad (Iat f23 f22) (IC 1)) (by decide)); subst ix0; clear f26)
  | (have ix0 : n11 = hV H1 306 (hV H0 285 35).toNat + 1 := Eq.trans f26 (w32_id (by omega) (by omega)); subst ix0; clear f26)
  | (unfold w32 at f26; have ix0 : n11 = hV H1 306 (hV H0 285 35).toNat + 1 := (by omega); subst ix0)
  | skip
  try unfold w32 at f26

  have w_rules := fun x : Nat => y15 x
  refine ⟨?_, ?_, ?_, ?_, ?_, ?_, ?_, ?_, ?_, ?_⟩
  · refine RR_more (q := n0) (RR_keep y0 (by omega) (by omega) (by omega) w_rules (by omega) (q := n0) (by omega) (fun x hx => by refine ⟨?_, ?_, ?_, ?_, ?_⟩ <;> first | rfl | exact uF_ne (by omega) | exact (uF_ne (by omega)).trans (uF_ne (by omega)))) (by omega) (by omega) (by omega) (by omega) (by omega) w_rules (by omega) (y13 (by omega)) (by omega) (by omega) (by omega) (by simp only [uF_at]; omega)
  · first | trivial | omega
  · first | trivial | omega
  · first | trivial | omega
  · first | trivial | omega
  · first | trivial | omega
  · first | trivial | omega
  · first | trivial | omega
  · first | trivial | omega
  · exact RN_up y15 (by omega) (by omega)
def g_232_255_2 : vG := ([(80, [7, 8, 11], [4, 3], 0), (1, [11, 9, 10], [], 0), (0, [10], [], 1), (22, [9, 7, 8], [3], 0), (90, [9], [], 0), (91, [9], [], 12), (20, [8, 1], [3], 35), (90, [8], [], 0), (91, [8], [], 1), (20, [7, 1], [3], 36), (0, [7], [], 306), (80, [5, 2, 6], [3, 2], 0), (20, [6, 1], [2], 44), (90, [6], [], 0), (91, [6], [], 400), (20, [5, 1], [2], 41), (0, [5], [], 311), (35, [4], [], 0), (20, [4, 1], [2], 13), (90, [4], [], 0), (91, [4], [], 2), (1220, [1, 3], [1, 2], 0), (0, [3], [], 4), (5000, [0, 1, 2], [0, 1], 255), (0, [0], [], 285), (0, [1], [], 285), (90, [2], [], 0), (91, [2], [], 23)], (3000, [], [4], 291))
theorem c_232_255_2 {q0 : Nat} : vOkm T0 (eP e_232 L_232 A_232 mu_232 (some q0)) 1 g_232_255_2 := vOk_inI fun ρ η f0 f1 f2 f3 f4 f5 f6 f7 f8 f9 f10 f11 f12 f13 f14 f15 f16 f17 f18 f19 f20 f21 f22 f23 f24 f25 f26 f27 => q_232_38 (q0 := q0) (n0 := ρ 2) (n1 := ρ 1) (n2 := ρ 0) (n3 := ρ 3) (n4 := ρ 4) (n5 := ρ 5) (n6 := ρ 6) (n7 := ρ 7) (n8 := ρ 8) (n9 := ρ 9) (n10 := ρ 10) (n11 := ρ 11) (H0 := η 0) (H1 := η 1) (H2 := η 2) (H3 := η 3) (H4 := η 4) f27 f26 f25 f24 f23 f22 f21 f20 f19 f18 f17 f16 f15 f14 f13 f12 f11 f10 f9 f8 f7 f6 f5 f4 f3 f2 f1 f0
set_option maxHeartbeats 20000000 in
theorem q_232_39 {q0 : Nat} {n0 n1 n2 n3 n4 : Int} {H0 H1 H2 : gH} (f0 : n0 ≤ 23) (f1 : 0 ≤ n0) (f2 : n1 = 285) (f3 : n2 = 285) (f4 : (hLe T0 H0 H1 ∧ hFr s_232.2.2.2.2 H0 H1 ∧ hWt T0 H1) ∧ (Ab_232_255 n2 n1 n0 H0 H1 ∧ preb_232 n2 H0) ∧ some q0 = some (mub_232_255 n2 n1 n0 H0 H1)) (f5 : n3 = 4) (f6 : (hLe T0 H1 H2 ∧ hFr s_220.2.2.2.2 H1 H2 ∧ ((0 : Int) = 0 → H2.length = H1.length) ∧ hWt T0 H2) ∧ postb_220 n1 n3 H1 H2) (f7 : n4 ≤ 2) (f8 : 0 ≤ n4) (f9 : n4 = hV H2 (n1).toNat 13) (f10 : 0 < n4) : postb_232 n2 H0 H2 := by
  have g4 := f4.2.1.1
  unfold Ab_232_255 at g4
  have g3 := f4.2.1.2
  unfold preb_232 at g3
  unfold postb_220 at f6
  unfold postb_232
  have e0 : n4 = hV H2 285 13 := (by rw [f2] at f9; exact f9 : n4 = hV H2 285 13)
  have e4 : hV H1 285 35 = hV H0 285 35 := (f4.1.2.1.1 285 35 kF_232_285_35)
  have e6 : hV H2 285 12 = hV H1 285 12 := (f6.1.2.1.1 285 12 kF_220_285_12)
  have e8 : hV H2 285 35 = hV H0 285 35 := ((f6.1.2.1.1 285 35 kF_220_285_35)).trans (f4.1.2.1.1 285 35 kF_232_285_35)
  have e10 : hV H2 285 44 = hV H1 285 44 := (f6.1.2.1.1 285 44 kF_220_285_44)
  have e12 : hV H2 285 51 = hV H1 285 51 := (f6.1.2.1.1 285 51 kF_220_285_51)
  have e16 : RN H2 = RN H1 := RN_fr f6.1.2.1 (by decide +kernel)
  have e17 : RR H2 = RR H1 := RR_fr f6.1.2.1 (by decide +kernel)
  have e18 : (0 : Int) ≤ hV H1 285 11 ∧ hV H1 285 11 ≤ 500 := f4.1.2.2 285 11 _ _ kW_285_11
  have e19 : (0 : Int) ≤ hV H1 285 12 ∧ hV H1 285 12 ≤ 7 := f4.1.2.2 285 12 _ _ kW_285_12
  have e20 : (0 : Int) ≤ hV H1 285 13 ∧ hV H1 285 13 ≤ 2 := f4.1.2.2 285 13 _ _ kW_285_13
  have e21 : (0 : Int) ≤ hV H0 285 34 ∧ hV H0 285 34 ≤ 1 := bTo ((f4.1.2.1.1 285 34 kF_232_285_34)) (f4.1.2.2 285 34 _ _ kW_285_34)
  have e22 : (0 : Int) ≤ hV H0 285 35 ∧ hV H0 285 35 ≤ 1 := bTo e4 (f4.1.2.2 285 35 _ _ kW_285_35)
  have e23 : (0 : Int) ≤ hV H1 285 44 ∧ hV H1 285 44 ≤ 400 := f4.1.2.2 285 44 _ _ kW_285_44
  have e24 : (0 : Int) ≤ hV H1 285 51 ∧ hV H1 285 51 ≤ 1200 := f4.1.2.2 285 51 _ _ kW_285_51
  have e25 : (0 : Int) ≤ hV H2 285 11 ∧ hV H2 285 11 ≤ 500 := f6.1.2.2.2 285 11 _ _ kW_285_11
  have e27 : (0 : Int) ≤ hV H2 285 13 ∧ hV H2 285 13 ≤ 2 := f6.1.2.2.2 285 13 _ _ kW_285_13
  try simp only [e6, e8, e10, e12, e16, e17]
  have y0 := g4.1
  have y1 := g4.2.1
  have y2 := g4.2.2.1
  have y3 := g4.2.2.2.1
  have y4 := g4.2.2.2.2.1
  have y5 := g4.2.2.2.2.2.1
  have y6 := g4.2.2.2.2.2.2.1
  have y7 := g4.2.2.2.2.2.2.2.1
  have y8 := g4.2.2.2.2.2.2.2.2.1
  have y9 := g4.2.2.2.2.2.2.2.2.2.1
  have y10 := g4.2.2.2.2.2.2.2.2.2.2.1
  have y11 := g4.2.2.2.2.2.2.2.2.2.2.2.1
  have y12 := g4.2.2.2.2.2.2.2.2.2.2.2.2.1
  have y13 := g4.2.2.2.2.2.2.2.2.2.2.2.2.2.1
  have y14 := g4.2.2.2.2.2.2.2.2.2.2.2.2.2.2.1
  have y15 := g4.2.2.2.2.2.2.2.2.2.2.2.2.2.2.2
  have p0 := g3.1
  have p1 := g3.2.1
  have p2 := g3.2.2.1
  have p3 := g3.2.2.2.1
  have p4 := g3.2.2.2.2.1
  have p5 := g3.2.2.2.2.2.1
  have p6 := g3.2.2.2.2.2.2.1
  have p7 := g3.2.2.2.2.2.2.2
  have r0_0 := f6.2.1
  have r0_1 := f6.2.2.1
  have r0_2 := f6.2.2.2.1
  have r0_3 := f6.2.2.2.2.1
  try simp only [e4] at y6
  try simp only [e4] at y7
  try simp only [e4] at y8
  try simp only [e4] at y9
  try simp only [e4] at y10
  try simp only [e4] at y11
  try simp only [e4] at y14
  clear g3
  clear g4
  clear f9 e4 e6 e8 e10 e12 e16 e17
  clear f4 f6
  subst e0

  have w_rules := fun x : Nat => y15 x
  refine ⟨y0, ?_, ?_, ?_, ?_, ?_, ?_, ?_, ?_, y15⟩ <;> first | trivial | omega
def g_232_255_3 : vG := ([(34, [4], [], 0), (20, [4, 1], [2], 13), (90, [4], [], 0), (91, [4], [], 2), (1220, [1, 3], [1, 2], 0), (0, [3], [], 4), (5000, [0, 1, 2], [0, 1], 255), (0, [0], [], 285), (0, [1], [], 285), (90, [2], [], 0), (91, [2], [], 23)], (3000, [], [2], 267))
theorem c_232_255_3 {q0 : Nat} : vOkm T0 (eP e_232 L_232 A_232 mu_232 (some q0)) 1 g_232_255_3 := vOk_inI fun ρ η f0 f1 f2 f3 f4 f5 f6 f7 f8 f9 f10 => q_232_39 (q0 := q0) (n0 := ρ 2) (n1 := ρ 1) (n2 := ρ 0) (n3 := ρ 3) (n4 := ρ 4) (H0 := η 0) (H1 := η 1) (H2 := η 2) f10 f9 f8 f7 f6 f5 f4 f3 f2 f1 f0
def p_232_255 : List vG := [g_232_255_0,
  g_232_255_1,
  g_232_255_2,
  g_232_255_3]
theorem r_232_255 : vCovO false (eRc e_232 L_232 cs_232 2000 (255, [(0, (3, 12, 285, 0)), (1, (0, 0, 23, 0))])) p_232_255 = true := by decide +kernel
theorem m_232 (d : Nat) : eC e_232 (d + 6) := eC_ok (e := e_232) (L := L_232) (cs := cs_232) (n := 2000) (d := d + 5) (A := A_232) (μ := mu_232) (tp := false) (p0 := p_232_s) rfl ⟨m_216 (d + 4), ⟨m_217 (d + 4), ⟨m_219 (d + 3), ⟨m_220 (d + 2), ⟨m_223 (d + 1), ⟨m_233 d, ⟨m_236 (d + 1), trivial⟩⟩⟩⟩⟩⟩⟩ rfl (.inl rfl) (by decide +kernel) (fun z => nomatch z) r_232_s (allC c_232_s_0 (allC c_232_s_1 (allC c_232_s_2 (allC c_232_s_3 (allC c_232_s_4 (allC c_232_s_5 (allC c_232_s_6 (allC c_232_s_7 (allC c_232_s_8 (allC c_232_s_9 allN)))))))))) (allC (.inl ⟨p_232_53, r_232_53, fun q0 => (allC c_232_53_0 (allC c_232_53_1 (allC c_232_53_2 (allC c_232_53_3 (allC c_232_53_4 (allC c_232_53_5 (allC c_232_53_6 (allC c_232_53_7 (allC c_232_53_8 (allC c_232_53_9 (allC c_232_53_10 (allC c_232_53_11 (allC c_232_53_12 (allC c_232_53_13 allN))))))))))))))⟩) (allC (.inl ⟨p_232_125, r_232_125, fun q0 => (allC c_232_125_0 (allC c_232_125_1 (allC c_232_125_2 (allC c_232_125_3 allN))))⟩) (allC (.inl ⟨p_232_202, r_232_202, fun q0 => (allC c_232_202_0 (allC c_232_202_1 (allC c_232_202_2 (allC c_232_202_3 (allC c_232_202_4 (allC c_232_202_5 (allC c_232_202_6 (allC c_232_202_7 (allC c_232_202_8 allN)))))))))⟩) (allC (.inl ⟨p_232_255, r_232_255, fun q0 => (allC c_232_255_0 (allC c_232_255_1 (allC c_232_255_2 (allC c_232_255_3 allN))))⟩) allN))))
/- MixStageModel.tellRules ()V -/
noncomputable def s_231 : vM := ([(3, 12, 285, 0)], (9, 0, 0, 0), 1, 0, [(12, 11), (12, 12), (12, 13), (12, 14), (12, 15), (12, 16), (12, 44), (12, 51), (12, 55), (276, 0), (284, 0), (292, 0), (300, 0), (308, 0), (316, 0), (324, 0), (332, 0), (340, 0), (351, 0), (359, 0), (364, 0), (372, 0), (380, 0), (388, 0), (396, 0), (404, 0)])
def preb_231 (a0 : Int) (h : gH) : Prop := RV h ∧ hV h 285 35 = 1 - hV h 285 34 ∧ hV h 285 12 = 0 ∧ hV h 285 11 = 0 ∧ RN h
def pre_231 : List Int → gH → Prop := fun xs h => match xs with
  | [a0] => preb_231 a0 h
  | _ => False
def postb_231 (a0 : Int) (h0 h : gH) : Prop := RR h ∧ RN h ∧ 600 * hV h 285 35 ≤ hV h 285 51 ∧ hV h 285 51 ≤ 600 * hV h 285 35 + hV h 285 11 + hV h 285 13 ∧ 3 * (hV h 285 44 - 200 * hV h 285 35) ≤ hV h 285 11 ∧ 200 * hV h 285 35 ≤ hV h 285 44
def post_231 : List Int → gH → gH → Prop := fun xs h0 h => match xs with
  | [a0] => postb_231 a0 h0 h
  | _ => True
noncomputable def e_231 : vE := (231, s_231, pre_231, post_231)
noncomputable def L_231 : List vE := [e_216, e_219, e_220, e_232]
def cs_231 : List vC := [(38, [(0, (3, 12, 285, 0))])]
def Ab_231_38 (a0 x0 : Int) (h0 h : gH) : Prop := RR h ∧ RN h ∧ 600 * hV h 285 35 ≤ hV h 285 51 ∧ hV h 285 51 ≤ 600 * hV h 285 35 + hV h 285 11 + hV h 285 13 ∧ hV h 285 12 ≤ 7 * hV h 285 13 ∧ 3 * (hV h 285 44 - 200 * hV h 285 35) ≤ hV h 285 11 ∧ 200 * hV h 285 35 ≤ hV h 285 44
def mub_231_38 (a0 x0 : Int) (h0 h : gH) : Nat := (1002 - 2 * hV h 285 11 - hV h 285 13).toNat * 8 + 7
def A_231 : Int → List Int → gH → gH → Prop := fun c xs h0 h => match c.toNat with
  | 38 => RR h ∧ RN h ∧ 600 * hV h 285 35 ≤ hV h 285 51 ∧ hV h 285 51 ≤ 600 * hV h 285 35 + hV h 285 11 + hV h 285 13 ∧ hV h 285 12 ≤ 7 * hV h 285 13 ∧ 3 * (hV h 285 44 - 200 * hV h 285 35) ≤ hV h 285 11 ∧ 200 * hV h 285 35 ≤ hV h 285 44
  | _ => True
def mu_231 : Int → List Int → gH → gH → Nat := fun c xs h0 h => match c.toNat with
  | 38 => (match xs with
    | [a0, x0] => mub_231_38 a0 x0 h0 h
    | _ => 0)
  | _ => 0
set_option maxHeartbeats 20000000 in
theorem q_231_0 {n0 n1 n2 n3 n4 n5 n6 : Int} {H0 H1 : gH} (f0 : n0 = 285) (f1 : hWt T0 H0 ∧ preb_231 n0 H0) (f2 : n1 = 306) (f3 : n1 = hV H0 (n0).toNat 36) (f4 : n2 ≤ 1) (f5 : 0 ≤ n2) (f6 : n2 = hV H0 (n0).toNat 35) (f7 : n3 = 0) (f8 : hUpd H1 H0 n1 n2 n3) (f9 : n4 = 200) (f10 : n5 ≤ 1) (f11 : 0 ≤ n5) (f12 : n5 = hV H1 (n0).toNat 35) (f13 : n6 = w32 (n4 * n5)) : 0 ≤ n6 := by
  unfold preb_231 at f1
  have e0 : n2 = hV H0 285 35 := (by rw [f0] at f6; exact f6 : n2 = hV H0 285 35)
  have e2 : n5 = hV H0 285 35 := (by rw [f0] at f12; exact f12 : n5 = hV H1 285 35).trans ((uPlace f8 285 35 (iS (show n1 = ((306 : Nat) : Int) from f2) rfl)))
  have e3 : (0 : Int) ≤ hV H0 285 11 ∧ hV H0 285 11 ≤ 500 := f1.1 285 11 _ _ kW_285_11
  have e4 : (0 : Int) ≤ hV H0 285 12 ∧ hV H0 285 12 ≤ 7 := f1.1 285 12 _ _ kW_285_12
  have e5 : (0 : Int) ≤ hV H0 285 34 ∧ hV H0 285 34 ≤ 1 := f1.1 285 34 _ _ kW_285_34
  have e6 : (0 : Int) ≤ hV H0 285 35 ∧ hV H0 285 35 ≤ 1 := f1.1 285 35 _ _ kW_285_35
  try simp only [RR, RV, RN]
  have p0 := f1.2.1
  have p1 := f1.2.2.1
  have p2 := f1.2.2.2.1
  have p3 := f1.2.2.2.2.1
  have p4 := f1.2.2.2.2.2
  try simp only [RV] at p0
  try simp only [RN] at p4
  clear f3 f6 f12
  clear f1
  subst e0
  subst e2
  rw [f9] at f13
  first
  | (have ix0 : n6 = 200 * (hV H0 285 35) := Eq.trans f13 (w32_iv (Iml 200 rfl (Iat f5 f4)) (by decide)); subst ix0; clear f13)
  | (have ix0 : n6 = 200 * (hV H0 285 35) := Eq.trans f13 (w32_id (by omega) (by omega)); subst ix0; clear f13)
  | (unfold w32 at f13; have ix0 : n6 = 200 * (hV H0 285 35) := (by omega); subst ix0)
  | skip
  try unfold w32 at f13
  omega
def g_231_s_0 : vG := ([(3, [6, 4, 5], [], 0), (20, [5, 0], [1], 35), (90, [5], [], 0), (91, [5], [], 1), (0, [4], [], 200), (80, [1, 2, 3], [1, 0], 0), (0, [3], [], 0), (20, [2, 0], [0], 35), (90, [2], [], 0), (91, [2], [], 1), (20, [1, 0], [0], 36), (0, [1], [], 306), (6000, [0], [0], 0), (0, [0], [], 285)], (90, [6], [], 0))
theorem c_231_s_0 : vOkm T0 (eP e_231 L_231 A_231 mu_231 none) 1 g_231_s_0 := vOk_inI fun ρ η f0 f1 f2 f3 f4 f5 f6 f7 f8 f9 f10 f11 f12 f13 => q_231_0 (n0 := ρ 0) (n1 := ρ 1) (n2 := ρ 2) (n3 := ρ 3) (n4 := ρ 4) (n5 := ρ 5) (n6 := ρ 6) (H0 := η 0) (H1 := η 1) f13 f12 f11 f10 f9 f8 f7 f6 f5 f4 f3 f2 f1 f0
set_option maxHeartbeats 20000000 in
theorem q_231_1 {n0 n1 n2 n3 n4 n5 n6 : Int} {H0 H1 : gH} (f0 : n0 = 285) (f1 : hWt T0 H0 ∧ preb_231 n0 H0) (f2 : n1 = 306) (f3 : n1 = hV H0 (n0).toNat 36) (f4 : n2 ≤ 1) (f5 : 0 ≤ n2) (f6 : n2 = hV H0 (n0).toNat 35) (f7 : n3 = 0) (f8 : hUpd H1 H0 n1 n2 n3) (f9 : n4 = 200) (f10 : n5 ≤ 1) (f11 : 0 ≤ n5) (f12 : n5 = hV H1 (n0).toNat 35) (f13 : n6 = w32 (n4 * n5)) : n6 ≤ 400 := by
  unfold preb_231 at f1
  have e0 : n2 = hV H0 285 35 := (by rw [f0] at f6; exact f6 : n2 = hV H0 285 35)
  have e2 : n5 = hV H0 285 35 := (by rw [f0] at f12; exact f12 : n5 = hV H1 285 35).trans ((uPlace f8 285 35 (iS (show n1 = ((306 : Nat) : Int) from f2) rfl)))
  have e3 : (0 : Int) ≤ hV H0 285 11 ∧ hV H0 285 11 ≤ 500 := f1.1 285 11 _ _ kW_285_11
  have e4 : (0 : Int) ≤ hV H0 285 12 ∧ hV H0 285 12 ≤ 7 := f1.1 285 12 _ _ kW_285_12
  have e5 : (0 : Int) ≤ hV H0 285 34 ∧ hV H0 285 34 ≤ 1 := f1.1 285 34 _ _ kW_285_34
  have e6 : (0 : Int) ≤ hV H0 285 35 ∧ hV H0 285 35 ≤ 1 := f1.1 285 35 _ _ kW_285_35
  try simp only [RR, RV, RN]
  have p0 := f1.2.1
  have p1 := f1.2.2.1
  have p2 := f1.2.2.2.1
  have p3 := f1.2.2.2.2.1
  have p4 := f1.2.2.2.2.2
  try simp only [RV] at p0
  try simp only [RN] at p4
  clear f3 f6 f12
  clear f1
  subst e0
  subst e2
  rw [f9] at f13
  first
  | (have ix0 : n6 = 200 * (hV H0 285 35) := Eq.trans f13 (w32_iv (Iml 200 rfl (Iat f5 f4)) (by decide)); subst ix0; clear f13)
  | (have ix0 : n6 = 200 * (hV H0 285 35) := Eq.trans f13 (w32_id (by omega) (by omega)); subst ix0; clear f13)
  | (unfold w32 at f13; have ix0 : n6 = 200 * (hV H0 285 35) := (by omega); subst ix0)
  | skip
  try unfold w32 at f13
  omega
def g_231_s_1 : vG := ([(3, [6, 4, 5], [], 0), (20, [5, 0], [1], 35), (90, [5], [], 0), (91, [5], [], 1), (0, [4], [], 200), (80, [1, 2, 3], [1, 0], 0), (0, [3], [], 0), (20, [2, 0], [0], 35), (90, [2], [], 0), (91, [2], [], 1), (20, [1, 0], [0], 36), (0, [1], [], 306), (6000, [0], [0], 0), (0, [0], [], 285)], (91, [6], [], 400))
theorem c_231_s_1 : vOkm T0 (eP e_231 L_231 A_231 mu_231 none) 1 g_231_s_1 := vOk_inI fun ρ η f0 f1 f2 f3 f4 f5 f6 f7 f8 f9 f10 f11 f12 f13 => q_231_1 (n0 := ρ 0) (n1 := ρ 1) (n2 := ρ 2) (n3 := ρ 3) (n4 := ρ 4) (n5 := ρ 5) (n6 := ρ 6) (H0 := η 0) (H1 := η 1) f13 f12 f11 f10 f9 f8 f7 f6 f5 f4 f3 f2 f1 f0
set_option maxHeartbeats 20000000 in
theorem q_231_2 {n0 n1 n2 n3 n4 n5 n6 n7 n8 n9 n10 : Int} {H0 H1 H2 : gH} (f0 : n0 = 285) (f1 : hWt T0 H0 ∧ preb_231 n0 H0) (f2 : n1 = 306) (f3 : n1 = hV H0 (n0).toNat 36) (f4 : n2 ≤ 1) (f5 : 0 ≤ n2) (f6 : n2 = hV H0 (n0).toNat 35) (f7 : n3 = 0) (f8 : hUpd H1 H0 n1 n2 n3) (f9 : n4 = 200) (f10 : n5 ≤ 1) (f11 : 0 ≤ n5) (f12 : n5 = hV H1 (n0).toNat 35) (f13 : n6 = w32 (n4 * n5)) (f14 : n7 = 44) (f15 : hUpd H2 H1 n0 n7 n6) (f16 : n8 = 600) (f17 : n9 ≤ 1) (f18 : 0 ≤ n9) (f19 : n9 = hV H2 (n0).toNat 35) (f20 : n10 = w32 (n8 * n9)) : 0 ≤ n10 := by
  unfold preb_231 at f1
  have e0 : n2 = hV H0 285 35 := (by rw [f0] at f6; exact f6 : n2 = hV H0 285 35)
  have e2 : n5 = hV H0 285 35 := (by rw [f0] at f12; exact f12 : n5 = hV H1 285 35).trans ((uPlace f8 285 35 (iS (show n1 = ((306 : Nat) : Int) from f2) rfl)))
  have e4 : n9 = hV H0 285 35 := (by rw [f0] at f19; exact f19 : n9 = hV H2 285 35).trans (((uSlot f15 285 35 (iS (show n7 = ((44 : Nat) : Int) from f14) rfl))).trans (uPlace f8 285 35 (iS (show n1 = ((306 : Nat) : Int) from f2) rfl)))
  have e5 : (0 : Int) ≤ hV H0 285 11 ∧ hV H0 285 11 ≤ 500 := f1.1 285 11 _ _ kW_285_11
  have e6 : (0 : Int) ≤ hV H0 285 12 ∧ hV H0 285 12 ≤ 7 := f1.1 285 12 _ _ kW_285_12
  have e7 : (0 : Int) ≤ hV H0 285 34 ∧ hV H0 285 34 ≤ 1 := f1.1 285 34 _ _ kW_285_34
  have e8 : (0 : Int) ≤ hV H0 285 35 ∧ hV H0 285 35 ≤ 1 := f1.1 285 35 _ _ kW_285_35
  try simp only [RR, RV, RN]
  have p0 := f1.2.1
  have p1 := f1.2.2.1
  have p2 := f1.2.2.2.1
  have p3 := f1.2.2.2.2.1
  have p4 := f1.2.2.2.2.2
  try simp only [RV] at p0
  try simp only [RN] at p4
  clear f3 f6 f12 f19
  clear f1
  subst e0
  subst e2
  subst e4
  rw [f9] at f13
  rw [f16] at f20
  first
  | (have ix0 : n6 = 200 * (hV H0 285 35) := Eq.trans f13 (w32_iv (Iml 200 rfl (Iat f5 f4)) (by decide)); subst ix0; clear f13)
  | (have ix0 : n6 = 200 * (hV H0 285 35) := Eq.trans f13 (w32_id (by omega) (by omega)); subst ix0; clear f13)
  | (unfold w32 at f13; have ix0 : n6 = 200 * (hV H0 285 35) := (by omega); subst ix0)
  | skip
  first
  | (have ix1 : n10 = 600 * (hV H0 285 35) := Eq.trans f20 (w32_iv (Iml 600 rfl (Iat f5 f4)) (by decide)); subst ix1; clear f20)
  | (have ix1 : n10 = 600 * (hV H0 285 35) := Eq.trans f20 (w32_id (by omega) (by omega)); subst ix1; clear f20)
  | (unfold w32 at f20; have ix1 : n10 = 600 * (hV H0 285 35) := (by omega); subst ix1)
  | skip
  try unfold w32 at f13
  try unfold w32 at f20
  omega
def g_231_s_2 : vG := ([(3, [10, 8, 9], [], 0), (20, [9, 0], [2], 35), (90, [9], [], 0), (91, [9], [], 1), (0, [8], [], 600), (80, [0, 7, 6], [2, 1], 0), (0, [7], [], 44), (3, [6, 4, 5], [], 0), (20, [5, 0], [1], 35), (90, [5], [], 0), (91, [5], [], 1), (0, [4], [], 200), (80, [1, 2, 3], [1, 0], 0), (0, [3], [], 0), (20, [2, 0], [0], 35), (90, [2], [], 0), (91, [2], [], 1), (20, [1, 0], [0], 36), (0, [1], [], 306), (6000, [0], [0], 0), (0, [0], [], 285)], (90, [10], [], 0))
theorem c_231_s_2 : vOkm T0 (eP e_231 L_231 A_231 mu_231 none) 1 g_231_s_2 := vOk_inI fun ρ η f0 f1 f2 f3 f4 f5 f6 f7 f8 f9 f10 f11 f12 f13 f14 f15 f16 f17 f18 f19 f20 => q_231_2 (n0 := ρ 0) (n1 := ρ 1) (n2 := ρ 2) (n3 := ρ 3) (n4 := ρ 4) (n5 := ρ 5) (n6 := ρ 6) (n7 := ρ 7) (n8 := ρ 8) (n9 := ρ 9) (n10 := ρ 10) (H0 := η 0) (H1 := η 1) (H2 := η 2) f20 f19 f18 f17 f16 f15 f14 f13 f12 f11 f10 f9 f8 f7 f6 f5 f4 f3 f2 f1 f0
set_option maxHeartbeats 20000000 in
theorem q_231_3 {n0 n1 n2 n3 n4 n5 n6 n7 n8 n9 n10 : Int} {H0 H1 H2 : gH} (f0 : n0 = 285) (f1 : hWt T0 H0 ∧ preb_231 n0 H0) (f2 : n1 = 306) (f3 : n1 = hV H0 (n0).toNat 36) (f4 : n2 ≤ 1) (f5 : 0 ≤ n2) (f6 : n2 = hV H0 (n0).toNat 35) (f7 : n3 = 0) (f8 : hUpd H1 H0 n1 n2 n3) (f9 : n4 = 200) (f10 : n5 ≤ 1) (f11 : 0 ≤ n5) (f12 : n5 = hV H1 (n0).toNat 35) (f13 : n6 = w32 (n4 * n5)) (f14 : n7 = 44) (f15 : hUpd H2 H1 n0 n7 n6) (f16 : n8 = 600) (f17 : n9 ≤ 1) (f18 : 0 ≤ n9) (f19 : n9 = hV H2 (n0).toNat 35) (f20 : n10 = w32 (n8 * n9)) : n10 ≤ 1200 := by
  unfold preb_231 at f1
  have e0 : n2 = hV H0 285 35 := (by rw [f0] at f6; exact f6 : n2 = hV H0 285 35)
  have e2 : n5 = hV H0 285 35 := (by rw [f0] at f12; exact f12 : n5 = hV H1 285 35).trans ((uPlace f8 285 35 (iS (show n1 = ((306 : Nat) : Int) from f2) rfl)))
  have e4 : n9 = hV H0 285 35 := (by rw [f0] at f19; exact f19 : n9 = hV H2 285 35).trans (((uSlot f15 285 35 (iS (show n7 = ((44 : Nat) : Int) from f14) rfl))).trans (uPlace f8 285 35 (iS (show n1 = ((306 : Nat) : Int) from f2) rfl)))
  have e5 : (0 : Int) ≤ hV H0 285 11 ∧ hV H0 285 11 ≤ 500 := f1.1 285 11 _ _ kW_285_11
  have e6 : (0 : Int) ≤ hV H0 285 12 ∧ hV H0 285 12 ≤ 7 := f1.1 285 12 _ _ kW_285_12
  have e7 : (0 : Int) ≤ hV H0 285 34 ∧ hV H0 285 34 ≤ 1 := f1.1 285 34 _ _ kW_285_34
  have e8 : (0 : Int) ≤ hV H0 285 35 ∧ hV H0 285 35 ≤ 1 := f1.1 285 35 _ _ kW_285_35
  try simp only [RR, RV, RN]
  have p0 := f1.2.1
  have p1 := f1.2.2.1
  have p2 := f1.2.2.2.1
  have p3 := f1.2.2.2.2.1
  have p4 := f1.2.2.2.2.2
  try simp only [RV] at p0
  try simp only [RN] at p4
  clear f3 f6 f12 f19
  clear f1
  subst e0
  subst e2
  subst e4
  rw [f9] at f13
  rw [f16] at f20
  first
  | (have ix0 : n6 = 200 * (hV H0 285 35) := Eq.trans f13 (w32_iv (Iml 200 rfl (Iat f5 f4)) (by decide)); subst ix0; clear f13)
  | (have ix0 : n6 = 200 * (hV H0 285 35) := Eq.trans f13 (w32_id (by omega) (by omega)); subst ix0; clear f13)
  | (unfold w32 at f13; have ix0 : n6 = 200 * (hV H0 285 35) := (by omega); subst ix0)
  | skip
  first
  | (have ix1 : n10 = 600 * (hV H0 285 35) := Eq.trans f20 (w32_iv (Iml 600 rfl (Iat f5 f4)) (by decide)); subst ix1; clear f20)
  | (have ix1 : n10 = 600 * (hV H0 285 35) := Eq.trans f20 (w32_id (by omega) (by omega)); subst ix1; clear f20)
  | (unfold w32 at f20; have ix1 : n10 = 600 * (hV H0 285 35) := (by omega); subst ix1)
  | skip
  try unfold w32 at f13
  try unfold w32 at f20
  omega
def g_231_s_3 : vG := ([(3, [10, 8, 9], [], 0), (20, [9, 0], [2], 35), (90, [9], [], 0), (91, [9], [], 1), (0, [8], [], 600), (80, [0, 7, 6], [2, 1], 0), (0, [7], [], 44), (3, [6, 4, 5], [], 0), (20, [5, 0], [1], 35), (90, [5], [], 0), (91, [5], [], 1), (0, [4], [], 200), (80, [1, 2, 3], [1, 0], 0), (0, [3], [], 0), (20, [2, 0], [0], 35), (90, [2], [], 0), (91, [2], [], 1), (20, [1, 0], [0], 36), (0, [1], [], 306), (6000, [0], [0], 0), (0, [0], [], 285)], (91, [10], [], 1200))
theorem c_231_s_3 : vOkm T0 (eP e_231 L_231 A_231 mu_231 none) 1 g_231_s_3 := vOk_inI fun ρ η f0 f1 f2 f3 f4 f5 f6 f7 f8 f9 f10 f11 f12 f13 f14 f15 f16 f17 f18 f19 f20 => q_231_3 (n0 := ρ 0) (n1 := ρ 1) (n2 := ρ 2) (n3 := ρ 3) (n4 := ρ 4) (n5 := ρ 5) (n6 := ρ 6) (n7 := ρ 7) (n8 := ρ 8) (n9 := ρ 9) (n10 := ρ 10) (H0 := η 0) (H1 := η 1) (H2 := η 2) f20 f19 f18 f17 f16 f15 f14 f13 f12 f11 f10 f9 f8 f7 f6 f5 f4 f3 f2 f1 f0
set_option maxHeartbeats 20000000 in
theorem q_231_4 {n0 n1 n2 n3 n4 n5 n6 n7 n8 n9 n10 n11 : Int} {H0 H1 H2 H3 H4 : gH} (f0 : n0 = 285) (f1 : hWt T0 H0 ∧ preb_231 n0 H0) (f2 : n1 = 306) (f3 : n1 = hV H0 (n0).toNat 36) (f4 : n2 ≤ 1) (f5 : 0 ≤ n2) (f6 : n2 = hV H0 (n0).toNat 35) (f7 : n3 = 0) (f8 : hUpd H1 H0 n1 n2 n3) (f9 : n4 = 200) (f10 : n5 ≤ 1) (f11 : 0 ≤ n5) (f12 : n5 = hV H1 (n0).toNat 35) (f13 : n6 = w32 (n4 * n5)) (f14 : n7 = 44) (f15 : hUpd H2 H1 n0 n7 n6) (f16 : n8 = 600) (f17 : n9 ≤ 1) (f18 : 0 ≤ n9) (f19 : n9 = hV H2 (n0).toNat 35) (f20 : n10 = w32 (n8 * n9)) (f21 : n11 = 51) (f22 : hUpd H3 H2 n0 n11 n10) (f23 : (hLe T0 H3 H4 ∧ hFr s_219.2.2.2.2 H3 H4 ∧ ((0 : Int) = 0 → H4.length = H3.length) ∧ hWt T0 H4) ∧ postb_219 n0 H3 H4) : Ab_231_38 n0 n0 H0 H4 ∧ ∀ q, none = some q → mub_231_38 n0 n0 H0 H4 < q := by
  unfold preb_231 at f1
  unfold postb_219 at f23
  unfold Ab_231_38
  have e0 : n2 = hV H0 285 35 := (by rw [f0] at f6; exact f6 : n2 = hV H0 285 35)
  have e2 : n5 = hV H0 285 35 := (by rw [f0] at f12; exact f12 : n5 = hV H1 285 35).trans ((uPlace f8 285 35 (iS (show n1 = ((306 : Nat) : Int) from f2) rfl)))
  have e4 : n9 = hV H0 285 35 := (by rw [f0] at f19; exact f19 : n9 = hV H2 285 35).trans (((uSlot f15 285 35 (iS (show n7 = ((44 : Nat) : Int) from f14) rfl))).trans (uPlace f8 285 35 (iS (show n1 = ((306 : Nat) : Int) from f2) rfl)))
  have e8 : hV H3 285 11 = hV H0 285 11 := ((uSlot f22 285 11 (iS (show n11 = ((51 : Nat) : Int) from f21) rfl))).trans (((uSlot f15 285 11 (iS (show n7 = ((44 : Nat) : Int) from f14) rfl))).trans (uPlace f8 285 11 (iS (show n1 = ((306 : Nat) : Int) from f2) rfl)))
  have e12 : hV H3 285 13 = hV H0 285 13 := ((uSlot f22 285 13 (iS (show n11 = ((51 : Nat) : Int) from f21) rfl))).trans (((uSlot f15 285 13 (iS (show n7 = ((44 : Nat) : Int) from f14) rfl))).trans (uPlace f8 285 13 (iS (show n1 = ((306 : Nat) : Int) from f2) rfl)))
  have e17 : hV H4 285 12 = hV H0 285 12 := ((f23.1.2.1.1 285 12 kF_219_285_12)).trans (((uSlot f22 285 12 (iS (show n11 = ((51 : Nat) : Int) from f21) rfl))).trans (((uSlot f15 285 12 (iS (show n7 = ((44 : Nat) : Int) from f14) rfl))).trans (uPlace f8 285 12 (iS (show n1 = ((306 : Nat) : Int) from f2) rfl))))
  have e22 : hV H4 285 34 = hV H0 285 34 := ((f23.1.2.1.1 285 34 kF_219_285_34)).trans (((uSlot f22 285 34 (iS (show n11 = ((51 : Nat) : Int) from f21) rfl))).trans (((uSlot f15 285 34 (iS (show n7 = ((44 : Nat) : Int) from f14) rfl))).trans (uPlace f8 285 34 (iS (show n1 = ((306 : Nat) : Int) from f2) rfl))))
  have e25 : hV H4 285 35 = hV H0 285 35 := ((f23.1.2.1.1 285 35 kF_219_285_35)).trans (((uSlot f22 285 35 (iS (show n11 = ((51 : Nat) : Int) from f21) rfl))).trans (((uSlot f15 285 35 (iS (show n7 = ((44 : Nat) : Int) from f14) rfl))).trans (uPlace f8 285 35 (iS (show n1 = ((306 : Nat) : Int) from f2) rfl))))
  have e29 : hV H4 285 44 = n6 := ((f23.1.2.1.1 285 44 kF_219_285_44)).trans (((uSlot f22 285 44 (iS (show n11 = ((51 : Nat) : Int) from f21) rfl))).trans (uSame f15 285 44 f0.symm f14.symm))
  have e32 : hV H4 285 51 = n10 := ((f23.1.2.1.1 285 51 kF_219_285_51)).trans (uSame f22 285 51 f0.symm f21.symm)
  have e39 : hV H4 306 = (uF (hV H0 306) n2 n3) := (fRow f23.1.2.1 306 kR_219_306).trans ((uRowNe f22 306 (iS (show n0 = ((285 : Nat) : Int) from f0) rfl)).trans ((uRowNe f15 306 (iS (show n0 = ((285 : Nat) : Int) from f0) rfl)).trans (uRow f8 306 f2.symm)))
  have e46 : hV H4 307 = hV H0 307 := (fRow f23.1.2.1 307 kR_219_307).trans ((uRowNe f22 307 (iS (show n0 = ((285 : Nat) : Int) from f0) rfl)).trans ((uRowNe f15 307 (iS (show n0 = ((285 : Nat) : Int) from f0) rfl)).trans (uRowNe f8 307 (iS (show n1 = ((306 : Nat) : Int) from f2) rfl))))
  have e53 : hV H4 308 = hV H0 308 := (fRow f23.1.2.1 308 kR_219_308).trans ((uRowNe f22 308 (iS (show n0 = ((285 : Nat) : Int) from f0) rfl)).trans ((uRowNe f15 308 (iS (show n0 = ((285 : Nat) : Int) from f0) rfl)).trans (uRowNe f8 308 (iS (show n1 = ((306 : Nat) : Int) from f2) rfl))))
  have e60 : hV H4 309 = hV H0 309 := (fRow f23.1.2.1 309 kR_219_309).trans ((uRowNe f22 309 (iS (show n0 = ((285 : Nat) : Int) from f0) rfl)).trans ((uRowNe f15 309 (iS (show n0 = ((285 : Nat) : Int) from f0) rfl)).trans (uRowNe f8 309 (iS (show n1 = ((306 : Nat) : Int) from f2) rfl))))
  have e67 : hV H4 310 = hV H0 310 := (fRow f23.1.2.1 310 kR_219_310).trans ((uRowNe f22 310 (iS (show n0 = ((285 : Nat) : Int) from f0) rfl)).trans ((uRowNe f15 310 (iS (show n0 = ((285 : Nat) : Int) from f0) rfl)).trans (uRowNe f8 310 (iS (show n1 = ((306 : Nat) : Int) from f2) rfl))))
  have e74 : hV H4 311 = hV H0 311 := (fRow f23.1.2.1 311 kR_219_311).trans ((uRowNe f22 311 (iS (show n0 = ((285 : Nat) : Int) from f0) rfl)).trans ((uRowNe f15 311 (iS (show n0 = ((285 : Nat) : Int) from f0) rfl)).trans (uRowNe f8 311 (iS (show n1 = ((306 : Nat) : Int) from f2) rfl))))
  have e81 : hV H4 317 = hV H0 317 := (fRow f23.1.2.1 317 kR_219_317).trans ((uRowNe f22 317 (iS (show n0 = ((285 : Nat) : Int) from f0) rfl)).trans ((uRowNe f15 317 (iS (show n0 = ((285 : Nat) : Int) from f0) rfl)).trans (uRowNe f8 317 (iS (show n1 = ((306 : Nat) : Int) from f2) rfl))))
  have e88 : hV H4 318 = hV H0 318 := (fRow f23.1.2.1 318 kR_219_318).trans ((uRowNe f22 318 (iS (show n0 = ((285 : Nat) : Int) from f0) rfl)).trans ((uRowNe f15 318 (iS (show n0 = ((285 : Nat) : Int) from f0) rfl)).trans (uRowNe f8 318 (iS (show n1 = ((306 : Nat) : Int) from f2) rfl))))
  have e95 : hV H4 319 = hV H0 319 := (fRow f23.1.2.1 319 kR_219_319).trans ((uRowNe f22 319 (iS (show n0 = ((285 : Nat) : Int) from f0) rfl)).trans ((uRowNe f15 319 (iS (show n0 = ((285 : Nat) : Int) from f0) rfl)).trans (uRowNe f8 319 (iS (show n1 = ((306 : Nat) : Int) from f2) rfl))))
  have e102 : hV H4 320 = hV H0 320 := (fRow f23.1.2.1 320 kR_219_320).trans ((uRowNe f22 320 (iS (show n0 = ((285 : Nat) : Int) from f0) rfl)).trans ((uRowNe f15 320 (iS (show n0 = ((285 : Nat) : Int) from f0) rfl)).trans (uRowNe f8 320 (iS (show n1 = ((306 : Nat) : Int) from f2) rfl))))
  have e109 : hV H4 321 = hV H0 321 := (fRow f23.1.2.1 321 kR_219_321).trans ((uRowNe f22 321 (iS (show n0 = ((285 : Nat) : Int) from f0) rfl)).trans ((uRowNe f15 321 (iS (show n0 = ((285 : Nat) : Int) from f0) rfl)).trans (uRowNe f8 321 (iS (show n1 = ((306 : Nat) : Int) from f2) rfl))))
  have e110 : (0 : Int) ≤ hV H0 285 11 ∧ hV H0 285 11 ≤ 500 := f1.1 285 11 _ _ kW_285_11
  have e111 : (0 : Int) ≤ hV H0 285 12 ∧ hV H0 285 12 ≤ 7 := f1.1 285 12 _ _ kW_285_12
  have e112 : (0 : Int) ≤ hV H0 285 34 ∧ hV H0 285 34 ≤ 1 := f1.1 285 34 _ _ kW_285_34
  have e113 : (0 : Int) ≤ hV H0 285 35 ∧ hV H0 285 35 ≤ 1 := f1.1 285 35 _ _ kW_285_35
  have e114 : (0 : Int) ≤ hV H0 285 13 ∧ hV H0 285 13 ≤ 2 := f1.1 285 13 _ _ kW_285_13
  have e115 : (0 : Int) ≤ hV H4 285 11 ∧ hV H4 285 11 ≤ 500 := f23.1.2.2.2 285 11 _ _ kW_285_11
  have e117 : (0 : Int) ≤ hV H4 285 13 ∧ hV H4 285 13 ≤ 2 := f23.1.2.2.2 285 13 _ _ kW_285_13
  have e120 : (0 : Int) ≤ hV H4 285 44 ∧ hV H4 285 44 ≤ 400 := f23.1.2.2.2 285 44 _ _ kW_285_44
  have e121 : (0 : Int) ≤ hV H4 285 51 ∧ hV H4 285 51 ≤ 1200 := f23.1.2.2.2 285 51 _ _ kW_285_51
  try simp only [RR, RV, RN]
  try simp only [e29] at e120
  try simp only [e32] at e121
  try simp only [e17, e22, e25, e29, e32, e39, e46, e53, e60, e67, e74, e81, e88, e95, e102, e109]
  have p0 := f1.2.1
  have p1 := f1.2.2.1
  have p2 := f1.2.2.2.1
  have p3 := f1.2.2.2.2.1
  have p4 := f1.2.2.2.2.2
  have r0_0 := f23.2.1
  have r0_1 := f23.2.2.1
  have r0_2 := f23.2.2.2.1
  have r0_3 := f23.2.2.2.2
  try simp only [RV] at p0
  try simp only [RN] at p4
  try simp only [e8] at r0_0
  try simp only [e8] at r0_1
  try simp only [e12] at r0_2
  try simp only [e8] at r0_3
  clear f3 f6 f12 f19 e8 e12 e17 e22 e25 e39 e46 e53 e60 e67 e74 e81 e88 e95 e102 e109
  clear f1 f23
  subst e0
  subst e2
  subst e4
  rw [f9] at f13
  rw [f16] at f20
  first
  | (have ix0 : n6 = 200 * (hV H0 285 35) := Eq.trans f13 (w32_iv (Iml 200 rfl (Iat f5 f4)) (by decide)); subst ix0; clear f13)
  | (have ix0 : n6 = 200 * (hV H0 285 35) := Eq.trans f13 (w32_id (by omega) (by omega)); subst ix0; clear f13)
  | (unfold w32 at f13; have ix0 : n6 = 200 * (hV H0 285 35) := (by omega); subst ix0)
  | skip
  first
  | (have ix1 : n10 = 600 * (hV H0 285 35) := Eq.trans f20 (w32_iv (Iml 600 rfl (Iat f5 f4)) (by decide)); subst ix1; clear f20)
  | (have ix1 : n10 = 600 * (hV H0 285 35) := Eq.trans f20 (w32_id (by omega) (by omega)); subst ix1; clear f20)
  | (unfold w32 at f20; have ix1 : n10 = 600 * (hV H0 285 35) := (by omega); subst ix1)
  | skip
  try unfold w32 at f13
  try unfold w32 at f20

  refine ⟨⟨?_, ?_, ?_, ?_, ?_, ?_, ?_⟩, fun q hq => ?_⟩
  · exact RR_first p0 (by omega) (by omega) (by omega) (by omega) (by omega) (by omega)
  · exact RN_up p4 (by omega) (by omega)
  · first | trivial | omega | (simp only [uF_at]; omega)
  · first | trivial | omega | (simp only [uF_at]; omega)
  · first | trivial | omega | (simp only [uF_at]; omega)
  · first | trivial | omega | (simp only [uF_at]; omega)
  · first | trivial | omega | (simp only [uF_at]; omega)
  · exact nomatch hq
def g_231_s_4 : vG := ([(1219, [0], [3, 4], 0), (80, [0, 11, 10], [3, 2], 0), (0, [11], [], 51), (3, [10, 8, 9], [], 0), (20, [9, 0], [2], 35), (90, [9], [], 0), (91, [9], [], 1), (0, [8], [], 600), (80, [0, 7, 6], [2, 1], 0), (0, [7], [], 44), (3, [6, 4, 5], [], 0), (20, [5, 0], [1], 35), (90, [5], [], 0), (91, [5], [], 1), (0, [4], [], 200), (80, [1, 2, 3], [1, 0], 0), (0, [3], [], 0), (20, [2, 0], [0], 35), (90, [2], [], 0), (91, [2], [], 1), (20, [1, 0], [0], 36), (0, [1], [], 306), (6000, [0], [0], 0), (0, [0], [], 285)], (4000, [0], [4], 38))
theorem c_231_s_4 : vOkm T0 (eP e_231 L_231 A_231 mu_231 none) 1 g_231_s_4 := vOk_inI fun ρ η f0 f1 f2 f3 f4 f5 f6 f7 f8 f9 f10 f11 f12 f13 f14 f15 f16 f17 f18 f19 f20 f21 f22 f23 => q_231_4 (n0 := ρ 0) (n1 := ρ 1) (n2 := ρ 2) (n3 := ρ 3) (n4 := ρ 4) (n5 := ρ 5) (n6 := ρ 6) (n7 := ρ 7) (n8 := ρ 8) (n9 := ρ 9) (n10 := ρ 10) (n11 := ρ 11) (H0 := η 0) (H1 := η 1) (H2 := η 2) (H3 := η 3) (H4 := η 4) f23 f22 f21 f20 f19 f18 f17 f16 f15 f14 f13 f12 f11 f10 f9 f8 f7 f6 f5 f4 f3 f2 f1 f0
def p_231_s : List vG := [g_231_s_0,
  g_231_s_1,
  g_231_s_2,
  g_231_s_3,
  g_231_s_4]
theorem r_231_s : vCovO false (eR0 e_231 L_231 cs_231 2000) p_231_s = true := by decide +kernel
set_option maxHeartbeats 20000000 in
theorem kF_231_285_34 : vFree s_231.2.2.2.2 285 34 = true := by decide +kernel
theorem kF_231_285_35 : vFree s_231.2.2.2.2 285 35 = true := by decide +kernel
theorem q_231_5 {q0 : Nat} {n0 n1 n2 n3 : Int} {H0 H1 H2 : gH} (f0 : n0 = 285) (f1 : n1 = 285) (f2 : (hLe T0 H0 H1 ∧ hFr s_231.2.2.2.2 H0 H1 ∧ hWt T0 H1) ∧ (Ab_231_38 n1 n0 H0 H1 ∧ preb_231 n1 H0) ∧ some q0 = some (mub_231_38 n1 n0 H0 H1)) (f3 : n2 ≤ 2) (f4 : 0 ≤ n2) (f5 : n2 = hV H1 (n0).toNat 13) (f6 : n2 ≠ 0) (f7 : n3 = 21) (f8 : (hLe T0 H1 H2 ∧ hFr s_220.2.2.2.2 H1 H2 ∧ ((0 : Int) = 0 → H2.length = H1.length) ∧ hWt T0 H2) ∧ postb_220 n0 n3 H1 H2) : postb_231 n1 H0 H2 := by
  have g4 := f2.2.1.1
  unfold Ab_231_38 at g4
  have g3 := f2.2.1.2
  unfold preb_231 at g3
  unfold postb_220 at f8
  unfold postb_231
  have e0 : n2 = hV H1 285 13 := (by rw [f0] at f5; exact f5 : n2 = hV H1 285 13)
  have e4 : hV H1 285 35 = hV H0 285 35 := (f2.1.2.1.1 285 35 kF_231_285_35)
  have e6 : hV H2 285 35 = hV H0 285 35 := ((f8.1.2.1.1 285 35 kF_220_285_35)).trans (f2.1.2.1.1 285 35 kF_231_285_35)
  have e8 : hV H2 285 44 = hV H1 285 44 := (f8.1.2.1.1 285 44 kF_220_285_44)
  have e10 : hV H2 285 51 = hV H1 285 51 := (f8.1.2.1.1 285 51 kF_220_285_51)
  have e14 : RN H2 = RN H1 := RN_fr f8.1.2.1 (by decide +kernel)
  have e15 : RR H2 = RR H1 := RR_fr f8.1.2.1 (by decide +kernel)
  have e16 : (0 : Int) ≤ hV H1 285 11 ∧ hV H1 285 11 ≤ 500 := f2.1.2.2 285 11 _ _ kW_285_11
  have e17 : (0 : Int) ≤ hV H1 285 12 ∧ hV H1 285 12 ≤ 7 := f2.1.2.2 285 12 _ _ kW_285_12
  have e18 : (0 : Int) ≤ hV H1 285 13 ∧ hV H1 285 13 ≤ 2 := f2.1.2.2 285 13 _ _ kW_285_13
  have e19 : (0 : Int) ≤ hV H0 285 34 ∧ hV H0 285 34 ≤ 1 := bTo ((f2.1.2.1.1 285 34 kF_231_285_34)) (f2.1.2.2 285 34 _ _ kW_285_34)
  have e20 : (0 : Int) ≤ hV H0 285 35 ∧ hV H0 285 35 ≤ 1 := bTo e4 (f2.1.2.2 285 35 _ _ kW_285_35)
  have e21 : (0 : Int) ≤ hV H1 285 44 ∧ hV H1 285 44 ≤ 400 := f2.1.2.2 285 44 _ _ kW_285_44
  have e22 : (0 : Int) ≤ hV H1 285 51 ∧ hV H1 285 51 ≤ 1200 := f2.1.2.2 285 51 _ _ kW_285_51
  have e23 : (0 : Int) ≤ hV H2 285 11 ∧ hV H2 285 11 ≤ 500 := f8.1.2.2.2 285 11 _ _ kW_285_11
  have e24 : (0 : Int) ≤ hV H2 285 13 ∧ hV H2 285 13 ≤ 2 := f8.1.2.2.2 285 13 _ _ kW_285_13
  try simp only [e6, e8, e10, e14, e15]
  have y0 := g4.1
  have y1 := g4.2.1
  have y2 := g4.2.2.1
  have y3 := g4.2.2.2.1
  have y4 := g4.2.2.2.2.1
  have y5 := g4.2.2.2.2.2.1
  have y6 := g4.2.2.2.2.2.2
  have p0 := g3.1
  have p1 := g3.2.1
  have p2 := g3.2.2.1
  have p3 := g3.2.2.2.1
  have p4 := g3.2.2.2.2
  have r0_0 := f8.2.1
  have r0_1 := f8.2.2.1
  have r0_2 := f8.2.2.2.1
  have r0_3 := f8.2.2.2.2.1
  try simp only [e4] at y2
  try simp only [e4] at y3
  try simp only [e4] at y5
  try simp only [e4] at y6
  clear g3
  clear g4
  clear f5 e4 e6 e8 e10 e14 e15
  clear f2 f8
  subst e0

  refine ⟨y0, y1, ?_, ?_, ?_, ?_⟩ <;> first | trivial | omega
def g_231_38_0 : vG := ([(1220, [1, 3], [1, 2], 0), (0, [3], [], 21), (31, [2], [], 0), (20, [2, 1], [1], 13), (90, [2], [], 0), (91, [2], [], 2), (5000, [0, 1], [0, 1], 38), (0, [0], [], 285), (0, [1], [], 285)], (3000, [], [2], 67))
theorem c_231_38_0 {q0 : Nat} : vOkm T0 (eP e_231 L_231 A_231 mu_231 (some q0)) 1 g_231_38_0 := vOk_inI fun ρ η f0 f1 f2 f3 f4 f5 f6 f7 f8 => q_231_5 (q0 := q0) (n0 := ρ 1) (n1 := ρ 0) (n2 := ρ 2) (n3 := ρ 3) (H0 := η 0) (H1 := η 1) (H2 := η 2) f8 f7 f6 f5 f4 f3 f2 f1 f0
set_option maxHeartbeats 20000000 in
theorem kR_231_288 : vFreeR s_231.2.2.2.2 288 = true := by decide +kernel
theorem q_231_6 {q0 : Nat} {n0 n1 n2 n3 n4 n5 : Int} {H0 H1 H2 H3 : gH} (f0 : n0 = 285) (f1 : n1 = 285) (f2 : (hLe T0 H0 H1 ∧ hFr s_231.2.2.2.2 H0 H1 ∧ hWt T0 H1) ∧ (Ab_231_38 n1 n0 H0 H1 ∧ preb_231 n1 H0) ∧ some q0 = some (mub_231_38 n1 n0 H0 H1)) (f3 : n2 ≤ 2) (f4 : 0 ≤ n2) (f5 : n2 = hV H1 (n0).toNat 13) (f6 : n2 = 0) (f7 : n3 = 21) (f8 : n4 ≤ 1) (f9 : 0 ≤ n4) (f10 : (hLe T0 H1 H2 ∧ hFr s_216.2.2.2.2 H1 H2 ∧ ((0 : Int) = 0 → H2.length = H1.length) ∧ hWt T0 H2) ∧ postb_216 n4 n0 n3 H1 H2) (f11 : n4 ≠ 0) (f12 : n5 = 21) (f13 : (hLe T0 H2 H3 ∧ hFr s_220.2.2.2.2 H2 H3 ∧ ((0 : Int) = 0 → H3.length = H2.length) ∧ hWt T0 H3) ∧ postb_220 n0 n5 H2 H3) : postb_231 n1 H0 H3 := by
  have g4 := f2.2.1.1
  unfold Ab_231_38 at g4
  have g3 := f2.2.1.2
  unfold preb_231 at g3
  unfold postb_216 at f10
  unfold postb_220 at f13
  unfold postb_231
  have e0 : n2 = hV H1 285 13 := (by rw [f0] at f5; exact f5 : n2 = hV H1 285 13)
  have e2 : hV H1 285 34 = hV H0 285 34 := (f2.1.2.1.1 285 34 kF_231_285_34)
  have e4 : hV H1 285 35 = hV H0 285 35 := (f2.1.2.1.1 285 35 kF_231_285_35)
  have e6 : hV H2 285 11 = hV H1 285 11 := (f10.1.2.1.1 285 11 kF_216_285_11)
  have e8 : hV H2 285 13 = hV H1 285 13 := (f10.1.2.1.1 285 13 kF_216_285_13)
  have e11 : hV H2 288 = hV H0 288 := (fRow f10.1.2.1 288 kR_216_288).trans (fRow f2.1.2.1 288 kR_231_288)
  have e14 : hV H3 285 35 = hV H0 285 35 := ((f13.1.2.1.1 285 35 kF_220_285_35)).trans (((f10.1.2.1.1 285 35 kF_216_285_35)).trans (f2.1.2.1.1 285 35 kF_231_285_35))
  have e17 : hV H3 285 44 = hV H1 285 44 := ((f13.1.2.1.1 285 44 kF_220_285_44)).trans (f10.1.2.1.1 285 44 kF_216_285_44)
  have e20 : hV H3 285 51 = hV H1 285 51 := ((f13.1.2.1.1 285 51 kF_220_285_51)).trans (f10.1.2.1.1 285 51 kF_216_285_51)
  have e23 : RN H2 = RN H1 := RN_fr f10.1.2.1 (by decide +kernel)
  have e24 : RN H3 = RN H2 := RN_fr f13.1.2.1 (by decide +kernel)
  have e25 : RN H3 = RN H1 := e24.trans e23
  have e26 : RR H2 = RR H1 := RR_fr f10.1.2.1 (by decide +kernel)
  have e27 : RR H3 = RR H2 := RR_fr f13.1.2.1 (by decide +kernel)
  have e28 : RR H3 = RR H1 := e27.trans e26
  have e29 : (0 : Int) ≤ hV H1 285 11 ∧ hV H1 285 11 ≤ 500 := f2.1.2.2 285 11 _ _ kW_285_11
  have e30 : (0 : Int) ≤ hV H1 285 12 ∧ hV H1 285 12 ≤ 7 := f2.1.2.2 285 12 _ _ kW_285_12
  have e31 : (0 : Int) ≤ hV H1 285 13 ∧ hV H1 285 13 ≤ 2 := f2.1.2.2 285 13 _ _ kW_285_13
  have e32 : (0 : Int) ≤ hV H0 285 34 ∧ hV H0 285 34 ≤ 1 := bTo e2 (f2.1.2.2 285 34 _ _ kW_285_34)
  have e33 : (0 : Int) ≤ hV H0 285 35 ∧ hV H0 285 35 ≤ 1 := bTo e4 (f2.1.2.2 285 35 _ _ kW_285_35)
  have e34 : (0 : Int) ≤ hV H1 285 44 ∧ hV H1 285 44 ≤ 400 := f2.1.2.2 285 44 _ _ kW_285_44
  have e35 : (0 : Int) ≤ hV H1 285 51 ∧ hV H1 285 51 ≤ 1200 := f2.1.2.2 285 51 _ _ kW_285_51
  have e38 : (0 : Int) ≤ hV H3 285 11 ∧ hV H3 285 11 ≤ 500 := f13.1.2.2.2 285 11 _ _ kW_285_11
  have e39 : (0 : Int) ≤ hV H3 285 13 ∧ hV H3 285 13 ≤ 2 := f13.1.2.2.2 285 13 _ _ kW_285_13
  try simp only [e14, e17, e20, e25, e28]
  have y0 := g4.1
  have y1 := g4.2.1
  have y2 := g4.2.2.1
  have y3 := g4.2.2.2.1
  have y4 := g4.2.2.2.2.1
  have y5 := g4.2.2.2.2.2.1
  have y6 := g4.2.2.2.2.2.2
  have p0 := g3.1
  have p1 := g3.2.1
  have p2 := g3.2.2.1
  have p3 := g3.2.2.2.1
  have p4 := g3.2.2.2.2
  have r0_0 := f10.2.1
  have r0_1 := f10.2.2.resolve_right (fun z => f11 z.1)
  have r1_0 := f13.2.1
  have r1_1 := f13.2.2.1
  have r1_2 := f13.2.2.2.1
  have r1_3 := f13.2.2.2.2.1
  try simp only [e4] at y2
  try simp only [e4] at y3
  try simp only [e4] at y5
  try simp only [e4] at y6
  try simp only [e8] at r0_0
  try simp only [e2, e4, e6, e8, e11] at r0_1
  try simp only [e6] at r1_0
  try simp only [e6] at r1_1
  try simp only [e8] at r1_2
  try simp only [e6] at r1_3
  clear g3
  clear g4
  clear f5 e2 e4 e6 e8 e11 e14 e17 e20 e23 e24 e25 e26 e27 e28
  clear f2 f10 f13
  subst e0

  refine ⟨y0, y1, ?_, ?_, ?_, ?_⟩ <;> first | trivial | omega
def g_231_38_1 : vG := ([(1220, [1, 5], [2, 3], 0), (0, [5], [], 21), (31, [4], [], 0), (1216, [4, 1, 3], [1, 2], 0), (90, [4], [], 0), (91, [4], [], 1), (0, [3], [], 21), (30, [2], [], 0), (20, [2, 1], [1], 13), (90, [2], [], 0), (91, [2], [], 2), (5000, [0, 1], [0, 1], 38), (0, [0], [], 285), (0, [1], [], 285)], (3000, [], [3], 67))
theorem c_231_38_1 {q0 : Nat} : vOkm T0 (eP e_231 L_231 A_231 mu_231 (some q0)) 1 g_231_38_1 := vOk_inI fun ρ η f0 f1 f2 f3 f4 f5 f6 f7 f8 f9 f10 f11 f12 f13 => q_231_6 (q0 := q0) (n0 := ρ 1) (n1 := ρ 0) (n2 := ρ 2) (n3 := ρ 3) (n4 := ρ 4) (n5 := ρ 5) (H0 := η 0) (H1 := η 1) (H2 := η 2) (H3 := η 3) f13 f12 f11 f10 f9 f8 f7 f6 f5 f4 f3 f2 f1 f0
set_option maxHeartbeats 20000000 in
theorem q_231_7 {q0 : Nat} {n0 n1 n2 n3 n4 : Int} {H0 H1 H2 : gH} (f0 : n0 = 285) (f1 : n1 = 285) (f2 : (hLe T0 H0 H1 ∧ hFr s_231.2.2.2.2 H0 H1 ∧ hWt T0 H1) ∧ (Ab_231_38 n1 n0 H0 H1 ∧ preb_231 n1 H0) ∧ some q0 = some (mub_231_38 n1 n0 H0 H1)) (f3 : n2 ≤ 2) (f4 : 0 ≤ n2) (f5 : n2 = hV H1 (n0).toNat 13) (f6 : n2 = 0) (f7 : n3 = 21) (f8 : n4 ≤ 1) (f9 : 0 ≤ n4) (f10 : (hLe T0 H1 H2 ∧ hFr s_216.2.2.2.2 H1 H2 ∧ ((0 : Int) = 0 → H2.length = H1.length) ∧ hWt T0 H2) ∧ postb_216 n4 n0 n3 H1 H2) (f11 : n4 = 0) : preb_232 n0 H2 := by
  have g4 := f2.2.1.1
  unfold Ab_231_38 at g4
  have g3 := f2.2.1.2
  unfold preb_231 at g3
  unfold postb_216 at f10
  unfold preb_232
  have e0 : n2 = hV H1 285 13 := (by rw [f0] at f5; exact f5 : n2 = hV H1 285 13)
  have e4 : hV H1 285 35 = hV H0 285 35 := (f2.1.2.1.1 285 35 kF_231_285_35)
  have e6 : hV H2 285 11 = hV H1 285 11 := (f10.1.2.1.1 285 11 kF_216_285_11)
  have e8 : hV H2 285 12 = hV H1 285 12 := (f10.1.2.1.1 285 12 kF_216_285_12)
  have e10 : hV H2 285 13 = hV H1 285 13 := (f10.1.2.1.1 285 13 kF_216_285_13)
  have e12 : hV H2 285 34 = hV H0 285 34 := ((f10.1.2.1.1 285 34 kF_216_285_34)).trans (f2.1.2.1.1 285 34 kF_231_285_34)
  have e14 : hV H2 285 35 = hV H0 285 35 := ((f10.1.2.1.1 285 35 kF_216_285_35)).trans (f2.1.2.1.1 285 35 kF_231_285_35)
  have e16 : hV H2 285 44 = hV H1 285 44 := (f10.1.2.1.1 285 44 kF_216_285_44)
  have e18 : hV H2 285 51 = hV H1 285 51 := (f10.1.2.1.1 285 51 kF_216_285_51)
  have e22 : RN H2 = RN H1 := RN_fr f10.1.2.1 (by decide +kernel)
  have e23 : RR H2 = RR H1 := RR_fr f10.1.2.1 (by decide +kernel)
  have e24 : (0 : Int) ≤ hV H1 285 11 ∧ hV H1 285 11 ≤ 500 := f2.1.2.2 285 11 _ _ kW_285_11
  have e25 : (0 : Int) ≤ hV H1 285 12 ∧ hV H1 285 12 ≤ 7 := f2.1.2.2 285 12 _ _ kW_285_12
  have e26 : (0 : Int) ≤ hV H1 285 13 ∧ hV H1 285 13 ≤ 2 := f2.1.2.2 285 13 _ _ kW_285_13
  have e27 : (0 : Int) ≤ hV H0 285 34 ∧ hV H0 285 34 ≤ 1 := bTo ((f2.1.2.1.1 285 34 kF_231_285_34)) (f2.1.2.2 285 34 _ _ kW_285_34)
  have e28 : (0 : Int) ≤ hV H0 285 35 ∧ hV H0 285 35 ≤ 1 := bTo e4 (f2.1.2.2 285 35 _ _ kW_285_35)
  have e29 : (0 : Int) ≤ hV H1 285 44 ∧ hV H1 285 44 ≤ 400 := f2.1.2.2 285 44 _ _ kW_285_44
  have e30 : (0 : Int) ≤ hV H1 285 51 ∧ hV H1 285 51 ≤ 1200 := f2.1.2.2 285 51 _ _ kW_285_51
  try simp only [e6, e8, e10, e12, e14, e16, e18, e22, e23]
  have y0 := g4.1
  have y1 := g4.2.1
  have y2 := g4.2.2.1
  have y3 := g4.2.2.2.1
  have y4 := g4.2.2.2.2.1
  have y5 := g4.2.2.2.2.2.1
  have y6 := g4.2.2.2.2.2.2
  have p0 := g3.1
  have p1 := g3.2.1
  have p2 := g3.2.2.1
  have p3 := g3.2.2.2.1
  have p4 := g3.2.2.2.2
  have r0_0 := f10.2.1
  try simp only [e4] at y2
  try simp only [e4] at y3
  try simp only [e4] at y5
  try simp only [e4] at y6
  try simp only [e10] at r0_0
  clear g3
  clear g4
  clear f5 e4 e6 e8 e10 e12 e14 e16 e18 e22 e23
  clear f2 f10
  subst e0
  refine ⟨?_, ?_, ?_, ?_, ?_, ?_, ?_, ?_⟩ <;> first | assumption | omega | trivial
def g_231_38_2 : vG := ([(30, [4], [], 0), (1216, [4, 1, 3], [1, 2], 0), (90, [4], [], 0), (91, [4], [], 1), (0, [3], [], 21), (30, [2], [], 0), (20, [2, 1], [1], 13), (90, [2], [], 0), (91, [2], [], 2), (5000, [0, 1], [0, 1], 38), (0, [0], [], 285), (0, [1], [], 285)], (2232, [1], [2], 0))
theorem c_231_38_2 {q0 : Nat} : vOkm T0 (eP e_231 L_231 A_231 mu_231 (some q0)) 1 g_231_38_2 := vOk_inI fun ρ η f0 f1 f2 f3 f4 f5 f6 f7 f8 f9 f10 f11 => q_231_7 (q0 := q0) (n0 := ρ 1) (n1 := ρ 0) (n2 := ρ 2) (n3 := ρ 3) (n4 := ρ 4) (H0 := η 0) (H1 := η 1) (H2 := η 2) f11 f10 f9 f8 f7 f6 f5 f4 f3 f2 f1 f0
set_option maxHeartbeats 20000000 in
theorem q_231_8 {q0 : Nat} {n0 n1 n2 n3 n4 : Int} {H0 H1 H2 H3 : gH} (f0 : n0 = 285) (f1 : n1 = 285) (f2 : (hLe T0 H0 H1 ∧ hFr s_231.2.2.2.2 H0 H1 ∧ hWt T0 H1) ∧ (Ab_231_38 n1 n0 H0 H1 ∧ preb_231 n1 H0) ∧ some q0 = some (mub_231_38 n1 n0 H0 H1)) (f3 : n2 ≤ 2) (f4 : 0 ≤ n2) (f5 : n2 = hV H1 (n0).toNat 13) (f6 : n2 = 0) (f7 : n3 = 21) (f8 : n4 ≤ 1) (f9 : 0 ≤ n4) (f10 : (hLe T0 H1 H2 ∧ hFr s_216.2.2.2.2 H1 H2 ∧ ((0 : Int) = 0 → H2.length = H1.length) ∧ hWt T0 H2) ∧ postb_216 n4 n0 n3 H1 H2) (f11 : n4 = 0) (f12 : (hLe T0 H2 H3 ∧ hFr s_232.2.2.2.2 H2 H3 ∧ ((0 : Int) = 0 → H3.length = H2.length) ∧ hWt T0 H3) ∧ postb_232 n0 H2 H3) : Ab_231_38 n1 n0 H0 H3 ∧ ∀ q, some q0 = some q → mub_231_38 n1 n0 H0 H3 < q := by
  have g4 := f2.2.1.1
  unfold Ab_231_38 at g4
  have g3 := f2.2.1.2
  unfold preb_231 at g3
  have g5 := Option.some.inj f2.2.2
  unfold mub_231_38 at g5
  unfold postb_216 at f10
  unfold postb_232 at f12
  unfold Ab_231_38
  unfold mub_231_38
  have e0 : n2 = hV H1 285 13 := (by rw [f0] at f5; exact f5 : n2 = hV H1 285 13)
  have e4 : hV H1 285 35 = hV H0 285 35 := (f2.1.2.1.1 285 35 kF_231_285_35)
  have e6 : hV H2 285 11 = hV H1 285 11 := (f10.1.2.1.1 285 11 kF_216_285_11)
  have e8 : hV H2 285 13 = hV H1 285 13 := (f10.1.2.1.1 285 13 kF_216_285_13)
  have e10 : hV H2 285 51 = hV H1 285 51 := (f10.1.2.1.1 285 51 kF_216_285_51)
  have e16 : hV H3 285 35 = hV H0 285 35 := ((f12.1.2.1.1 285 35 kF_232_285_35)).trans (((f10.1.2.1.1 285 35 kF_216_285_35)).trans (f2.1.2.1.1 285 35 kF_231_285_35))
  have e17 : (0 : Int) ≤ hV H1 285 11 ∧ hV H1 285 11 ≤ 500 := f2.1.2.2 285 11 _ _ kW_285_11
  have e18 : (0 : Int) ≤ hV H1 285 12 ∧ hV H1 285 12 ≤ 7 := f2.1.2.2 285 12 _ _ kW_285_12
  have e19 : (0 : Int) ≤ hV H1 285 13 ∧ hV H1 285 13 ≤ 2 := f2.1.2.2 285 13 _ _ kW_285_13
  have e20 : (0 : Int) ≤ hV H0 285 34 ∧ hV H0 285 34 ≤ 1 := bTo ((f2.1.2.1.1 285 34 kF_231_285_34)) (f2.1.2.2 285 34 _ _ kW_285_34)
  have e21 : (0 : Int) ≤ hV H0 285 35 ∧ hV H0 285 35 ≤ 1 := bTo e4 (f2.1.2.2 285 35 _ _ kW_285_35)
  have e22 : (0 : Int) ≤ hV H1 285 44 ∧ hV H1 285 44 ≤ 400 := f2.1.2.2 285 44 _ _ kW_285_44
  have e23 : (0 : Int) ≤ hV H1 285 51 ∧ hV H1 285 51 ≤ 1200 := f2.1.2.2 285 51 _ _ kW_285_51
  have e27 : (0 : Int) ≤ hV H3 285 11 ∧ hV H3 285 11 ≤ 500 := f12.1.2.2.2 285 11 _ _ kW_285_11
  have e28 : (0 : Int) ≤ hV H3 285 12 ∧ hV H3 285 12 ≤ 7 := f12.1.2.2.2 285 12 _ _ kW_285_12
  have e29 : (0 : Int) ≤ hV H3 285 13 ∧ hV H3 285 13 ≤ 2 := f12.1.2.2.2 285 13 _ _ kW_285_13
  have e31 : (0 : Int) ≤ hV H3 285 44 ∧ hV H3 285 44 ≤ 400 := f12.1.2.2.2 285 44 _ _ kW_285_44
  have e32 : (0 : Int) ≤ hV H3 285 51 ∧ hV H3 285 51 ≤ 1200 := f12.1.2.2.2 285 51 _ _ kW_285_51
  try simp only [RV]
  try simp only [e16]
  have y0 := g4.1
  have y1 := g4.2.1
  have y2 := g4.2.2.1
  have y3 := g4.2.2.2.1
  have y4 := g4.2.2.2.2.1
  have y5 := g4.2.2.2.2.2.1
  have y6 := g4.2.2.2.2.2.2
  have p0 := g3.1
  have p1 := g3.2.1
  have p2 := g3.2.2.1
  have p3 := g3.2.2.2.1
  have p4 := g3.2.2.2.2
  have r0_0 := f10.2.1
  have r1_0 := f12.2.1
  have r1_1 := f12.2.2.1
  have r1_2 := f12.2.2.2.1
  have r1_3 := f12.2.2.2.2.1
  have r1_4 := f12.2.2.2.2.2.1
  have r1_5 := f12.2.2.2.2.2.2.1
  have r1_6 := f12.2.2.2.2.2.2.2.1
  have r1_7 := f12.2.2.2.2.2.2.2.2.1
  have r1_8 := f12.2.2.2.2.2.2.2.2.2.1
  have r1_9 := f12.2.2.2.2.2.2.2.2.2.2
  try simp only [RV] at p0
  try simp only [e4] at y2
  try simp only [e4] at y3
  try simp only [e4] at y5
  try simp only [e4] at y6
  try simp only [e8] at r0_0
  try simp only [e6] at r1_1
  try simp only [e6] at r1_2
  try simp only [e8] at r1_3
  try simp only [e10] at r1_5
  try simp only [e16] at r1_6
  try simp only [e16] at r1_7
  try simp only [e16] at r1_8
  clear g3
  clear g4
  clear f5 e4 e6 e8 e10 e16
  clear f2 f10 f12
  subst e0

  refine ⟨⟨?_, ?_, ?_, ?_, ?_, ?_, ?_⟩, fun q hq => ?_⟩
  · exact r1_0
  · exact r1_9
  · first | trivial | omega | (simp only [uF_at]; omega)
  · first | trivial | omega | (simp only [uF_at]; omega)
  · first | trivial | omega | (simp only [uF_at]; omega)
  · first | trivial | omega | (simp only [uF_at]; omega)
  · first | trivial | omega | (simp only [uF_at]; omega)
  · have g6 := Option.some.inj hq
    subst g6
    omega
def g_231_38_3 : vG := ([(1232, [1], [2, 3], 0), (30, [4], [], 0), (1216, [4, 1, 3], [1, 2], 0), (90, [4], [], 0), (91, [4], [], 1), (0, [3], [], 21), (30, [2], [], 0), (20, [2, 1], [1], 13), (90, [2], [], 0), (91, [2], [], 2), (5000, [0, 1], [0, 1], 38), (0, [0], [], 285), (0, [1], [], 285)], (4000, [1], [3], 38))
theorem c_231_38_3 {q0 : Nat} : vOkm T0 (eP e_231 L_231 A_231 mu_231 (some q0)) 1 g_231_38_3 := vOk_inI fun ρ η f0 f1 f2 f3 f4 f5 f6 f7 f8 f9 f10 f11 f12 => q_231_8 (q0 := q0) (n0 := ρ 1) (n1 := ρ 0) (n2 := ρ 2) (n3 := ρ 3) (n4 := ρ 4) (H0 := η 0) (H1 := η 1) (H2 := η 2) (H3 := η 3) f12 f11 f10 f9 f8 f7 f6 f5 f4 f3 f2 f1 f0
def p_231_38 : List vG := [g_231_38_0,
  g_231_38_1,
  g_231_38_2,
  g_231_38_3]
theorem r_231_38 : vCovO false (eRc e_231 L_231 cs_231 2000 (38, [(0, (3, 12, 285, 0))])) p_231_38 = true := by decide +kernel
theorem m_231 (d : Nat) : eC e_231 (d + 7) := eC_ok (e := e_231) (L := L_231) (cs := cs_231) (n := 2000) (d := d + 6) (A := A_231) (μ := mu_231) (tp := false) (p0 := p_231_s) rfl ⟨m_216 (d + 5), ⟨m_219 (d + 4), ⟨m_220 (d + 3), ⟨m_232 d, trivial⟩⟩⟩⟩ rfl (.inl rfl) (by decide +kernel) (fun z => nomatch z) r_231_s (allC c_231_s_0 (allC c_231_s_1 (allC c_231_s_2 (allC c_231_s_3 (allC c_231_s_4 allN))))) (allC (.inl ⟨p_231_38, r_231_38, fun q0 => (allC c_231_38_0 (allC c_231_38_1 (allC c_231_38_2 (allC c_231_38_3 allN))))⟩) allN)
