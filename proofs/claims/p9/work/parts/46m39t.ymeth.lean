/-! CONTRACTS of methods (printed by wip/gen/emit.py). -/
/- MixStageModel.literal (Z)V -/
noncomputable def s_233 : vM := ([(3, 12, 285, 0), (0, 0, 1, 0)], (9, 0, 0, 0), 1, 0, [(12, 11), (12, 12), (12, 13), (12, 14), (12, 44), (12, 51), (12, 55), (340, 0), (351, 0), (359, 0), (364, 0), (372, 0), (380, 0), (388, 0), (396, 0), (404, 0)])
def preb_233 (a0 a1 : Int) (h : gH) : Prop := RR h ∧ hV h 285 35 = 1 - hV h 285 34 ∧ 600 * hV h 285 35 ≤ hV h 285 51 ∧ hV h 285 51 ≤ 600 * hV h 285 35 + hV h 285 11 + hV h 285 13 ∧ hV h 285 12 ≤ 7 * hV h 285 13 ∧ 3 * (hV h 285 44 - 200 * hV h 285 35) ≤ hV h 285 11 ∧ 200 * hV h 285 35 ≤ hV h 285 44
def pre_233 : List Int → gH → Prop := fun xs h => match xs with
  | [a0, a1] => preb_233 a0 a1 h
  | _ => False
def postb_233 (a0 a1 : Int) (h0 h : gH) : Prop := RR h ∧ hV h0 285 11 ≤ hV h 285 11 ∧ hV h0 285 11 + 1 ≤ hV h 285 11 + hV h 285 13 ∧ hV h0 285 13 ≤ hV h 285 13 ∧ hV h 285 12 ≤ 7 * hV h 285 13 ∧ hV h0 285 51 ≤ hV h 285 51 ∧ hV h 285 51 ≤ 600 * hV h 285 35 + hV h 285 11 + hV h 285 13 ∧ (hV h 285 13 = 0 → SCp (hV h0 320) (hV h0 321) (hV h 320) (hV h 321) (hV h0 285 51)) ∧ 3 * (hV h 285 44 - 200 * hV h 285 35) ≤ hV h 285 11 ∧ 200 * hV h 285 35 ≤ hV h 285 44 ∧ hV h0 285 44 ≤ hV h 285 44
def post_233 : List Int → gH → gH → Prop := fun xs h0 h => match xs with
  | [a0, a1] => postb_233 a0 a1 h0 h
  | _ => True
noncomputable def e_233 : vE := (233, s_233, pre_233, post_233)
noncomputable def L_233 : List vE := [e_216, e_217, e_219, e_236]
def cs_233 : List vC := [(2, [(0, (3, 12, 285, 0)), (1, (0, 0, 1, 0)), (2, (0, 0, 1, 0))]), (85, [(0, (3, 12, 285, 0)), (1, (0, 0, 1, 0)), (2, (0, 0, 1, 0)), (3, (0, 0, 1200, 0)), (4, (0, -2147483648, 2147483647, 0))])]
def Ab_233_2 (a0 a1 x0 x1 x2 : Int) (h0 h : gH) : Prop := x1 = a1 ∧ RR h ∧ hV h0 285 11 ≤ hV h 285 11 ∧ hV h0 285 13 ≤ hV h 285 13 ∧ hV h 285 12 ≤ 7 * hV h 285 13 ∧ hV h 285 51 = hV h0 285 51 ∧ hV h 285 44 = hV h0 285 44 ∧ SCp (hV h0 320) (hV h0 321) (hV h 320) (hV h 321) (hV h0 285 51)
def mub_233_2 (a0 a1 x0 x1 x2 : Int) (h0 h : gH) : Nat := (1002 - 2 * hV h 285 11 - hV h 285 13).toNat * 8 + 7
def Ab_233_85 (a0 a1 x0 x1 x2 x3 x4 : Int) (h0 h : gH) : Prop := x1 = a1 ∧ RR h ∧ hV h0 285 11 ≤ hV h 285 11 ∧ hV h0 285 11 + 1 ≤ hV h 285 11 + hV h 285 13 ∧ hV h0 285 13 ≤ hV h 285 13 ∧ hV h 285 12 ≤ 7 * hV h 285 13 ∧ hV h0 285 51 ≤ hV h 285 51 ∧ hV h 285 51 ≤ 600 * hV h 285 35 + hV h 285 11 + hV h 285 13 ∧ (hV h 285 13 = 0 → SCp (hV h0 320) (hV h0 321) (hV h 320) (hV h 321) (hV h0 285 51)) ∧ (hV h 285 13 = 0 → CGp (hV h 320) (hV h 321) x3 (hV h 285 51)) ∧ (hV h 285 13 = 0 → 0 ≤ x4 ∧ x4 ≤ 3) ∧ hV h 285 44 = hV h0 285 44 ∧ hV h0 285 51 ≤ x3 ∧ x3 ≤ hV h 285 51
def mub_233_85 (a0 a1 x0 x1 x2 x3 x4 : Int) (h0 h : gH) : Nat := 0
def A_233 : Int → List Int → gH → gH → Prop := fun c xs h0 h => match c.toNat with
  | 2 => (match xs with
    | [a0, a1, x0, x1, x2] => Ab_233_2 a0 a1 x0 x1 x2 h0 h
    | _ => False)
  | 85 => (match xs with
    | [a0, a1, x0, x1, x2, x3, x4] => Ab_233_85 a0 a1 x0 x1 x2 x3 x4 h0 h
    | _ => False)
  | _ => True
def mu_233 : Int → List Int → gH → gH → Nat := fun c xs h0 h => match c.toNat with
  | 2 => (match xs with
    | [a0, a1, x0, x1, x2] => mub_233_2 a0 a1 x0 x1 x2 h0 h
    | _ => 0)
  | 85 => 0
  | _ => 0
set_option maxHeartbeats 20000000 in
theorem q_233_0 {n0 n1 n2 : Int} {H0 : gH} (f0 : n0 ≤ 1) (f1 : 0 ≤ n0) (f2 : n1 = 285) (f3 : hWt T0 H0 ∧ preb_233 n1 n0 H0) (f4 : n2 = 0) : Ab_233_2 n1 n0 n1 n0 n2 H0 H0 ∧ ∀ q, none = some q → mub_233_2 n1 n0 n1 n0 n2 H0 H0 < q := by
  unfold preb_233 at f3
  unfold Ab_233_2
  have e0 : (0 : Int) ≤ hV H0 285 11 ∧ hV H0 285 11 ≤ 500 := f3.1 285 11 _ _ kW_285_11
  have e1 : (0 : Int) ≤ hV H0 285 12 ∧ hV H0 285 12 ≤ 7 := f3.1 285 12 _ _ kW_285_12
  have e2 : (0 : Int) ≤ hV H0 285 13 ∧ hV H0 285 13 ≤ 2 := f3.1 285 13 _ _ kW_285_13
  have e3 : (0 : Int) ≤ hV H0 285 34 ∧ hV H0 285 34 ≤ 1 := f3.1 285 34 _ _ kW_285_34
  have e4 : (0 : Int) ≤ hV H0 285 35 ∧ hV H0 285 35 ≤ 1 := f3.1 285 35 _ _ kW_285_35
  have e5 : (0 : Int) ≤ hV H0 285 44 ∧ hV H0 285 44 ≤ 400 := f3.1 285 44 _ _ kW_285_44
  have e6 : (0 : Int) ≤ hV H0 285 51 ∧ hV H0 285 51 ≤ 1200 := f3.1 285 51 _ _ kW_285_51
  have p0 := f3.2.1
  have p1 := f3.2.2.1
  have p2 := f3.2.2.2.1
  have p3 := f3.2.2.2.2.1
  have p4 := f3.2.2.2.2.2.1
  have p5 := f3.2.2.2.2.2.2.1
  have p6 := f3.2.2.2.2.2.2.2
  clear f3

  refine ⟨⟨?_, ?_, ?_, ?_, ?_, ?_, ?_, ?_⟩, fun q hq => ?_⟩
  · omega
  · exact p0
  · omega
  · omega
  · omega
  · omega
  · omega
  · exact SC_refl
  · exact nomatch hq
def g_233_s_0 : vG := ([(0, [2], [], 0), (6000, [0, 1], [0], 0), (0, [0], [], 285), (90, [1], [], 0), (91, [1], [], 1)], (4000, [0, 1, 2], [0], 2))
theorem c_233_s_0 : vOkm T0 (eP e_233 L_233 A_233 mu_233 none) 2 g_233_s_0 := vOk_inI fun ρ η f0 f1 f2 f3 f4 => q_233_0 (n0 := ρ 1) (n1 := ρ 0) (n2 := ρ 2) (H0 := η 0) f4 f3 f2 f1 f0
def p_233_s : List vG := [g_233_s_0]
theorem r_233_s : vCovO false (eR0 e_233 L_233 cs_233 2000) p_233_s = true := by decide +kernel
set_option maxHeartbeats 20000000 in
theorem kF_233_285_34 : vFree s_233.2.2.2.2 285 34 = true := by decide +kernel
theorem kF_233_285_35 : vFree s_233.2.2.2.2 285 35 = true := by decide +kernel
theorem q_233_1 {q0 : Nat} {n0 n1 n2 n3 n4 n5 n6 n7 : Int} {H0 H1 H2 : gH} (f0 : n0 ≤ 1) (f1 : 0 ≤ n0) (f2 : n1 ≤ 1) (f3 : 0 ≤ n1) (f4 : n2 = 285) (f5 : n3 ≤ 1) (f6 : 0 ≤ n3) (f7 : n4 = 285) (f8 : (hLe T0 H0 H1 ∧ hFr s_233.2.2.2.2 H0 H1 ∧ hWt T0 H1) ∧ (Ab_233_2 n4 n3 n2 n1 n0 H0 H1 ∧ preb_233 n4 n3 H0) ∧ some q0 = some (mub_233_2 n4 n3 n2 n1 n0 H0 H1)) (f9 : n5 = 48) (f10 : n6 ≤ 1) (f11 : 0 ≤ n6) (f12 : (hLe T0 H1 H2 ∧ hFr s_216.2.2.2.2 H1 H2 ∧ ((0 : Int) = 0 → H2.length = H1.length) ∧ hWt T0 H2) ∧ postb_216 n6 n2 n5 H1 H2) (f13 : n6 = 0) (f14 : n7 ≤ 1200) (f15 : 0 ≤ n7) (f16 : n7 = hV H2 (n2).toNat 51) : preb_236 n2 H2 := by
  have g4 := f8.2.1.1
  unfold Ab_233_2 at g4
  have g3 := f8.2.1.2
  unfold preb_233 at g3
  unfold postb_216 at f12
  unfold preb_236
  have e1 : n7 = hV H1 285 51 := (by rw [f4] at f16; exact f16 : n7 = hV H2 285 51).trans ((f12.1.2.1.1 285 51 kF_216_285_51))
  have e7 : hV H2 285 11 = hV H1 285 11 := (f12.1.2.1.1 285 11 kF_216_285_11)
  have e9 : hV H2 285 12 = hV H1 285 12 := (f12.1.2.1.1 285 12 kF_216_285_12)
  have e11 : hV H2 285 13 = hV H1 285 13 := (f12.1.2.1.1 285 13 kF_216_285_13)
  have e13 : hV H2 285 34 = hV H0 285 34 := ((f12.1.2.1.1 285 34 kF_216_285_34)).trans (f8.1.2.1.1 285 34 kF_233_285_34)
  have e15 : hV H2 285 35 = hV H0 285 35 := ((f12.1.2.1.1 285 35 kF_216_285_35)).trans (f8.1.2.1.1 285 35 kF_233_285_35)
  have e16 : hV H2 285 51 = hV H1 285 51 := (f12.1.2.1.1 285 51 kF_216_285_51)
  have e20 : RR H2 = RR H1 := RR_fr f12.1.2.1 (by decide +kernel)
  have e21 : (0 : Int) ≤ hV H1 285 11 ∧ hV H1 285 11 ≤ 500 := f8.1.2.2 285 11 _ _ kW_285_11
  have e22 : (0 : Int) ≤ hV H1 285 12 ∧ hV H1 285 12 ≤ 7 := f8.1.2.2 285 12 _ _ kW_285_12
  have e23 : (0 : Int) ≤ hV H1 285 13 ∧ hV H1 285 13 ≤ 2 := f8.1.2.2 285 13 _ _ kW_285_13
  have e24 : (0 : Int) ≤ hV H0 285 34 ∧ hV H0 285 34 ≤ 1 := bTo ((f8.1.2.1.1 285 34 kF_233_285_34)) (f8.1.2.2 285 34 _ _ kW_285_34)
  have e25 : (0 : Int) ≤ hV H0 285 35 ∧ hV H0 285 35 ≤ 1 := bTo ((f8.1.2.1.1 285 35 kF_233_285_35)) (f8.1.2.2 285 35 _ _ kW_285_35)
  have e26 : (0 : Int) ≤ hV H1 285 44 ∧ hV H1 285 44 ≤ 400 := f8.1.2.2 285 44 _ _ kW_285_44
  have e27 : (0 : Int) ≤ hV H1 285 51 ∧ hV H1 285 51 ≤ 1200 := f8.1.2.2 285 51 _ _ kW_285_51
  try simp only [e7, e9, e11, e13, e15, e16, e20]
  have k0 := g4.1
  have y0 := g4.2.1
  have y1 := g4.2.2.1
  have y2 := g4.2.2.2.1
  have y3 := g4.2.2.2.2.1
  have y4 := g4.2.2.2.2.2.1
  have y5 := g4.2.2.2.2.2.2.1
  have y6 := g4.2.2.2.2.2.2.2
  have p0 := g3.1
  have p1 := g3.2.1
  have p2 := g3.2.2.1
  have p3 := g3.2.2.2.1
  have p4 := g3.2.2.2.2.1
  have p5 := g3.2.2.2.2.2.1
  have p6 := g3.2.2.2.2.2.2
  have r0_0 := f12.2.1
  try simp only [e11] at r0_0
  clear g3
  clear g4
  clear f16 e7 e9 e11 e13 e15 e16 e20
  clear f8 f12
  subst e1
  try subst k0
  refine ⟨?_, ?_, ?_, ?_, ?_⟩ <;> first | assumption | omega | trivial
def g_233_2_0 : vG := ([(20, [7, 2], [2], 51), (90, [7], [], 0), (91, [7], [], 1200), (30, [6], [], 0), (1216, [6, 2, 5], [1, 2], 0), (90, [6], [], 0), (91, [6], [], 1), (0, [5], [], 48), (5000, [0, 1, 2, 3, 4], [0, 1], 2), (0, [0], [], 285), (90, [1], [], 0), (91, [1], [], 1), (0, [2], [], 285), (90, [3], [], 0), (91, [3], [], 1), (90, [4], [], 0), (91, [4], [], 1)], (2236, [2], [2], 0))
theorem c_233_2_0 {q0 : Nat} : vOkm T0 (eP e_233 L_233 A_233 mu_233 (some q0)) 2 g_233_2_0 := vOk_inI fun ρ η f0 f1 f2 f3 f4 f5 f6 f7 f8 f9 f10 f11 f12 f13 f14 f15 f16 => q_233_1 (q0 := q0) (n0 := ρ 4) (n1 := ρ 3) (n2 := ρ 2) (n3 := ρ 1) (n4 := ρ 0) (n5 := ρ 5) (n6 := ρ 6) (n7 := ρ 7) (H0 := η 0) (H1 := η 1) (H2 := η 2) f16 f15 f14 f13 f12 f11 f10 f9 f8 f7 f6 f5 f4 f3 f2 f1 f0
set_option maxHeartbeats 20000000 in
theorem kR_233_288 : vFreeR s_233.2.2.2.2 288 = true := by decide +kernel
theorem kF_236_285_44 : vFree s_236.2.2.2.2 285 44 = true := by decide +kernel
theorem q_233_2 {q0 : Nat} {n0 n1 n2 n3 n4 n5 n6 n7 n8 n9 n10 n11 n12 n13 n14 : Int} {H0 H1 H2 H3 : gH} (f0 : n0 ≤ 1) (f1 : 0 ≤ n0) (f2 : n1 ≤ 1) (f3 : 0 ≤ n1) (f4 : n2 = 285) (f5 : n3 ≤ 1) (f6 : 0 ≤ n3) (f7 : n4 = 285) (f8 : (hLe T0 H0 H1 ∧ hFr s_233.2.2.2.2 H0 H1 ∧ hWt T0 H1) ∧ (Ab_233_2 n4 n3 n2 n1 n0 H0 H1 ∧ preb_233 n4 n3 H0) ∧ some q0 = some (mub_233_2 n4 n3 n2 n1 n0 H0 H1)) (f9 : n5 = 48) (f10 : n6 ≤ 1) (f11 : 0 ≤ n6) (f12 : (hLe T0 H1 H2 ∧ hFr s_216.2.2.2.2 H1 H2 ∧ ((0 : Int) = 0 → H2.length = H1.length) ∧ hWt T0 H2) ∧ postb_216 n6 n2 n5 H1 H2) (f13 : n6 = 0) (f14 : n7 ≤ 1200) (f15 : 0 ≤ n7) (f16 : n7 = hV H2 (n2).toNat 51) (f17 : (hLe T0 H2 H3 ∧ hFr s_236.2.2.2.2 H2 H3 ∧ ((0 : Int) = 0 → H3.length = H2.length) ∧ hWt T0 H3) ∧ postb_236 n2 H2 H3) (f18 : n8 ≤ 2) (f19 : 0 ≤ n8) (f20 : n8 = hV H3 (n2).toNat 13) (f21 : n8 ≤ 0) (f22 : n9 = 288) (f23 : n9 = hV H3 (n2).toNat 5) (f24 : n10 ≤ 500) (f25 : 0 ≤ n10) (f26 : n10 = hV H3 (n2).toNat 11) (f27 : n11 ≤ 53) (f28 : 0 ≤ n11) (f29 : n11 = hV H3 (n9).toNat (n10).toNat) (f30 : n12 = 11) (f31 : n13 = w32 (n11 - n12)) (f32 : n14 ≤ 2) (f33 : 0 ≤ n14) (f34 : n14 = hV H3 (n2).toNat 13) (f35 : n14 ≠ 0) : Ab_233_85 n4 n3 n2 n1 n0 n7 n13 H0 H3 ∧ ∀ q, some q0 = some q → mub_233_85 n4 n3 n2 n1 n0 n7 n13 H0 H3 < q := by
  have g4 := f8.2.1.1
  unfold Ab_233_2 at g4
  have g3 := f8.2.1.2
  unfold preb_233 at g3
  have g5 := Option.some.inj f8.2.2
  unfold mub_233_2 at g5
  unfold postb_216 at f12
  unfold postb_236 at f17
  unfold Ab_233_85
  unfold mub_233_85
  have e1 : n7 = hV H1 285 51 := (by rw [f4] at f16; exact f16 : n7 = hV H2 285 51).trans ((f12.1.2.1.1 285 51 kF_216_285_51))
  have e2 : n8 = hV H3 285 13 := (by rw [f4] at f20; exact f20 : n8 = hV H3 285 13)
  have e3 : n10 = hV H3 285 11 := (by rw [f4] at f26; exact f26 : n10 = hV H3 285 11)
  have e7 : n11 = hV H0 288 (n10).toNat := (by rw [f22] at f29; exact f29 : n11 = hV H3 288 (n10).toNat).trans (((congrFun (fRow f17.1.2.1 288 kR_236_288) _)).trans (((congrFun (fRow f12.1.2.1 288 kR_216_288) _)).trans ((congrFun (fRow f8.1.2.1 288 kR_233_288) _))))
  have e8 : n14 = hV H3 285 13 := (by rw [f4] at f34; exact f34 : n14 = hV H3 285 13)
  have e14 : hV H2 285 11 = hV H1 285 11 := (f12.1.2.1.1 285 11 kF_216_285_11)
  have e16 : hV H2 285 13 = hV H1 285 13 := (f12.1.2.1.1 285 13 kF_216_285_13)
  have e17 : hV H2 285 51 = hV H1 285 51 := (f12.1.2.1.1 285 51 kF_216_285_51)
  have e19 : hV H2 320 = hV H1 320 := fRow f12.1.2.1 320 kR_216_320
  have e20 : hV H2 321 = hV H1 321 := fRow f12.1.2.1 321 kR_216_321
  have e23 : hV H3 285 35 = hV H0 285 35 := ((f17.1.2.1.1 285 35 kF_236_285_35)).trans (((f12.1.2.1.1 285 35 kF_216_285_35)).trans (f8.1.2.1.1 285 35 kF_233_285_35))
  have e26 : hV H3 285 44 = hV H1 285 44 := ((f17.1.2.1.1 285 44 kF_236_285_44)).trans (f12.1.2.1.1 285 44 kF_216_285_44)
  have e27 : (0 : Int) ≤ hV H1 285 11 ∧ hV H1 285 11 ≤ 500 := f8.1.2.2 285 11 _ _ kW_285_11
  have e28 : (0 : Int) ≤ hV H1 285 12 ∧ hV H1 285 12 ≤ 7 := f8.1.2.2 285 12 _ _ kW_285_12
  have e29 : (0 : Int) ≤ hV H1 285 13 ∧ hV H1 285 13 ≤ 2 := f8.1.2.2 285 13 _ _ kW_285_13
  have e30 : (0 : Int) ≤ hV H0 285 34 ∧ hV H0 285 34 ≤ 1 := bTo ((f8.1.2.1.1 285 34 kF_233_285_34)) (f8.1.2.2 285 34 _ _ kW_285_34)
  have e31 : (0 : Int) ≤ hV H0 285 35 ∧ hV H0 285 35 ≤ 1 := bTo ((f8.1.2.1.1 285 35 kF_233_285_35)) (f8.1.2.2 285 35 _ _ kW_285_35)
  have e32 : (0 : Int) ≤ hV H1 285 44 ∧ hV H1 285 44 ≤ 400 := f8.1.2.2 285 44 _ _ kW_285_44
  have e33 : (0 : Int) ≤ hV H1 285 51 ∧ hV H1 285 51 ≤ 1200 := f8.1.2.2 285 51 _ _ kW_285_51
  have e37 : (0 : Int) ≤ hV H3 285 11 ∧ hV H3 285 11 ≤ 500 := f17.1.2.2.2 285 11 _ _ kW_285_11
  have e38 : (0 : Int) ≤ hV H3 285 12 ∧ hV H3 285 12 ≤ 7 := f17.1.2.2.2 285 12 _ _ kW_285_12
  have e39 : (0 : Int) ≤ hV H3 285 13 ∧ hV H3 285 13 ≤ 2 := f17.1.2.2.2 285 13 _ _ kW_285_13
  have e42 : (0 : Int) ≤ hV H3 285 51 ∧ hV H3 285 51 ≤ 1200 := f17.1.2.2.2 285 51 _ _ kW_285_51
  try simp only [e23, e26]
  have k0 := g4.1
  have y0 := g4.2.1
  have y1 := g4.2.2.1
  have y2 := g4.2.2.2.1
  have y3 := g4.2.2.2.2.1
  have y4 := g4.2.2.2.2.2.1
  have y5 := g4.2.2.2.2.2.2.1
  have y6 := g4.2.2.2.2.2.2.2
  have p0 := g3.1
  have p1 := g3.2.1
  have p2 := g3.2.2.1
  have p3 := g3.2.2.2.1
  have p4 := g3.2.2.2.2.1
  have p5 := g3.2.2.2.2.2.1
  have p6 := g3.2.2.2.2.2.2
  have r0_0 := f12.2.1
  have r1_0 := f17.2.1
  have r1_1 := f17.2.2.1
  have r1_2 := f17.2.2.2.1
  have r1_3 := f17.2.2.2.2.1
  have r1_4 := f17.2.2.2.2.2.1
  have r1_5 := f17.2.2.2.2.2.2.1
  have r1_6 := f17.2.2.2.2.2.2.2.1
  have r1_7 := f17.2.2.2.2.2.2.2.2
  try simp only [e16] at r0_0
  try simp only [e17, e19, e20] at r1_1
  try simp only [e14] at r1_2
  try simp only [e14] at r1_3
  try simp only [e16] at r1_4
  try simp only [e17] at r1_6
  try simp only [e23] at r1_7
  clear g3
  clear g4
  clear f16 f20 f23 f26 f29 f34 e14 e16 e17 e19 e20 e23 e26
  clear f8 f12 f17
  subst e1
  subst e2
  subst e3
  subst e7
  subst e8
  first
  | (have ix0 : n13 = hV H0 288 (hV H3 285 11).toNat - 11 := Eq.trans f31 (w32_iv (Isu (Iat f28 f27) (IC 11)) (by decide)); subst ix0; clear f31)
  | (have ix0 : n13 = hV H0 288 (hV H3 285 11).toNat - 11 := Eq.trans f31 (w32_id (by omega) (by omega)); subst ix0; clear f31)
  | (unfold w32 at f31; have ix0 : n13 = hV H0 288 (hV H3 285 11).toNat - 11 := (by omega); subst ix0)
  | skip
  try unfold w32 at f31

  refine ⟨⟨?_, ?_, ?_, ?_, ?_, ?_, ?_, ?_, ?_, ?_, ?_⟩, fun q hq => ?_⟩
  · omega
  · exact r1_0
  · omega
  · omega
  · omega
  · omega
  · omega
  · omega
  · intro z
    exact SC_trans y6 (SC_of (r1_1 (by omega))) (by omega)
  · intro z
    exact CO_end (r1_1 (by omega)) (by omega)
  · first
    | omega
    | (refine ⟨?_, ?_, ?_, ?_⟩ <;> first | exact True.intro | omega)
  · have g6 := Option.some.inj hq
    subst g6
    omega
def g_233_2_1 : vG := ([(31, [14], [], 0), (20, [14, 2], [3], 13), (90, [14], [], 0), (91, [14], [], 2), (2, [13, 11, 12], [], 0), (0, [12], [], 11), (22, [11, 9, 10], [3], 0), (90, [11], [], 0), (91, [11], [], 53), (20, [10, 2], [3], 11), (90, [10], [], 0), (91, [10], [], 500), (20, [9, 2], [3], 5), (0, [9], [], 288), (35, [8], [], 0), (20, [8, 2], [3], 13), (90, [8], [], 0), (91, [8], [], 2), (1236, [2], [2, 3], 0), (20, [7, 2], [2], 51), (90, [7], [], 0), (91, [7], [], 1200), (30, [6], [], 0), (1216, [6, 2, 5], [1, 2], 0), (90, [6], [], 0), (91, [6], [], 1), (0, [5], [], 48), (5000, [0, 1, 2, 3, 4], [0, 1], 2), (0, [0], [], 285), (90, [1], [], 0), (91, [1], [], 1), (0, [2], [], 285), (90, [3], [], 0), (91, [3], [], 1), (90, [4], [], 0), (91, [4], [], 1)], (4000, [2, 3, 4, 7, 13], [3], 85))
theorem c_233_2_1 {q0 : Nat} : vOkm T0 (eP e_233 L_233 A_233 mu_233 (some q0)) 2 g_233_2_1 := vOk_inI fun ρ η f0 f1 f2 f3 f4 f5 f6 f7 f8 f9 f10 f11 f12 f13 f14 f15 f16 f17 f18 f19 f20 f21 f22 f23 f24 f25 f26 f27 f28 f29 f30 f31 f32 f33 f34 f35 => q_233_2 (q0 := q0) (n0 := ρ 4) (n1 := ρ 3) (n2 := ρ 2) (n3 := ρ 1) (n4 := ρ 0) (n5 := ρ 5) (n6 := ρ 6) (n7 := ρ 7) (n8 := ρ 8) (n9 := ρ 9) (n10 := ρ 10) (n11 := ρ 11) (n12 := ρ 12) (n13 := ρ 13) (n14 := ρ 14) (H0 := η 0) (H1 := η 1) (H2 := η 2) (H3 := η 3) f35 f34 f33 f32 f31 f30 f29 f28 f27 f26 f25 f24 f23 f22 f21 f20 f19 f18 f17 f16 f15 f14 f13 f12 f11 f10 f9 f8 f7 f6 f5 f4 f3 f2 f1 f0
set_option maxHeartbeats 20000000 in
theorem kF_217_285_44 : vFree s_217.2.2.2.2 285 44 = true := by decide +kernel
theorem q_233_3 {q0 : Nat} {n0 n1 n2 n3 n4 n5 n6 n7 n8 n9 n10 n11 n12 n13 n14 n15 : Int} {H0 H1 H2 H3 H4 : gH} (f0 : n0 ≤ 1) (f1 : 0 ≤ n0) (f2 : n1 ≤ 1) (f3 : 0 ≤ n1) (f4 : n2 = 285) (f5 : n3 ≤ 1) (f6 : 0 ≤ n3) (f7 : n4 = 285) (f8 : (hLe T0 H0 H1 ∧ hFr s_233.2.2.2.2 H0 H1 ∧ hWt T0 H1) ∧ (Ab_233_2 n4 n3 n2 n1 n0 H0 H1 ∧ preb_233 n4 n3 H0) ∧ some q0 = some (mub_233_2 n4 n3 n2 n1 n0 H0 H1)) (f9 : n5 = 48) (f10 : n6 ≤ 1) (f11 : 0 ≤ n6) (f12 : (hLe T0 H1 H2 ∧ hFr s_216.2.2.2.2 H1 H2 ∧ ((0 : Int) = 0 → H2.length = H1.length) ∧ hWt T0 H2) ∧ postb_216 n6 n2 n5 H1 H2) (f13 : n6 = 0) (f14 : n7 ≤ 1200) (f15 : 0 ≤ n7) (f16 : n7 = hV H2 (n2).toNat 51) (f17 : (hLe T0 H2 H3 ∧ hFr s_236.2.2.2.2 H2 H3 ∧ ((0 : Int) = 0 → H3.length = H2.length) ∧ hWt T0 H3) ∧ postb_236 n2 H2 H3) (f18 : n8 ≤ 2) (f19 : 0 ≤ n8) (f20 : n8 = hV H3 (n2).toNat 13) (f21 : n8 ≤ 0) (f22 : n9 = 288) (f23 : n9 = hV H3 (n2).toNat 5) (f24 : n10 ≤ 500) (f25 : 0 ≤ n10) (f26 : n10 = hV H3 (n2).toNat 11) (f27 : n11 ≤ 53) (f28 : 0 ≤ n11) (f29 : n11 = hV H3 (n9).toNat (n10).toNat) (f30 : n12 = 11) (f31 : n13 = w32 (n11 - n12)) (f32 : n14 ≤ 2) (f33 : 0 ≤ n14) (f34 : n14 = hV H3 (n2).toNat 13) (f35 : n14 = 0) (f36 : n13 < 0) (f37 : n15 = 1) (f38 : (hLe T0 H3 H4 ∧ hFr s_217.2.2.2.2 H3 H4 ∧ ((0 : Int) = 0 → H4.length = H3.length) ∧ hWt T0 H4) ∧ postb_217 n2 n15 H3 H4) : Ab_233_85 n4 n3 n2 n1 n0 n7 n13 H0 H4 ∧ ∀ q, some q0 = some q → mub_233_85 n4 n3 n2 n1 n0 n7 n13 H0 H4 < q := by
  have g4 := f8.2.1.1
  unfold Ab_233_2 at g4
  have g3 := f8.2.1.2
  unfold preb_233 at g3
  have g5 := Option.some.inj f8.2.2
  unfold mub_233_2 at g5
  unfold postb_216 at f12
  unfold postb_236 at f17
  unfold postb_217 at f38
  unfold Ab_233_85
  unfold mub_233_85
  have e1 : n7 = hV H1 285 51 := (by rw [f4] at f16; exact f16 : n7 = hV H2 285 51).trans ((f12.1.2.1.1 285 51 kF_216_285_51))
  have e2 : n8 = hV H3 285 13 := (by rw [f4] at f20; exact f20 : n8 = hV H3 285 13)
  have e3 : n10 = hV H3 285 11 := (by rw [f4] at f26; exact f26 : n10 = hV H3 285 11)
  have e7 : n11 = hV H0 288 (n10).toNat := (by rw [f22] at f29; exact f29 : n11 = hV H3 288 (n10).toNat).trans (((congrFun (fRow f17.1.2.1 288 kR_236_288) _)).trans (((congrFun (fRow f12.1.2.1 288 kR_216_288) _)).trans ((congrFun (fRow f8.1.2.1 288 kR_233_288) _))))
  have e8 : n14 = hV H3 285 13 := (by rw [f4] at f34; exact f34 : n14 = hV H3 285 13)
  have e14 : hV H2 285 11 = hV H1 285 11 := (f12.1.2.1.1 285 11 kF_216_285_11)
  have e16 : hV H2 285 13 = hV H1 285 13 := (f12.1.2.1.1 285 13 kF_216_285_13)
  have e17 : hV H2 285 51 = hV H1 285 51 := (f12.1.2.1.1 285 51 kF_216_285_51)
  have e19 : hV H2 320 = hV H1 320 := fRow f12.1.2.1 320 kR_216_320
  have e20 : hV H2 321 = hV H1 321 := fRow f12.1.2.1 321 kR_216_321
  have e23 : hV H3 285 35 = hV H0 285 35 := ((f17.1.2.1.1 285 35 kF_236_285_35)).trans (((f12.1.2.1.1 285 35 kF_216_285_35)).trans (f8.1.2.1.1 285 35 kF_233_285_35))
  have e25 : hV H4 285 11 = hV H3 285 11 := (f38.1.2.1.1 285 11 kF_217_285_11)
  have e27 : hV H4 285 12 = hV H3 285 12 := (f38.1.2.1.1 285 12 kF_217_285_12)
  have e29 : hV H4 285 35 = hV H0 285 35 := ((f38.1.2.1.1 285 35 kF_217_285_35)).trans (((f17.1.2.1.1 285 35 kF_236_285_35)).trans (((f12.1.2.1.1 285 35 kF_216_285_35)).trans (f8.1.2.1.1 285 35 kF_233_285_35)))
  have e33 : hV H4 285 44 = hV H1 285 44 := ((f38.1.2.1.1 285 44 kF_217_285_44)).trans (((f17.1.2.1.1 285 44 kF_236_285_44)).trans (f12.1.2.1.1 285 44 kF_216_285_44))
  have e35 : hV H4 285 51 = hV H3 285 51 := (f38.1.2.1.1 285 51 kF_217_285_51)
  have e36 : hV H4 320 = hV H3 320 := fRow f38.1.2.1 320 kR_217_320
  have e37 : hV H4 321 = hV H3 321 := fRow f38.1.2.1 321 kR_217_321
  have e38 : RR H4 = RR H3 := RR_fr f38.1.2.1 (by decide +kernel)
  have e39 : (0 : Int) ≤ hV H1 285 11 ∧ hV H1 285 11 ≤ 500 := f8.1.2.2 285 11 _ _ kW_285_11
  have e40 : (0 : Int) ≤ hV H1 285 12 ∧ hV H1 285 12 ≤ 7 := f8.1.2.2 285 12 _ _ kW_285_12
  have e41 : (0 : Int) ≤ hV H1 285 13 ∧ hV H1 285 13 ≤ 2 := f8.1.2.2 285 13 _ _ kW_285_13
  have e42 : (0 : Int) ≤ hV H0 285 34 ∧ hV H0 285 34 ≤ 1 := bTo ((f8.1.2.1.1 285 34 kF_233_285_34)) (f8.1.2.2 285 34 _ _ kW_285_34)
  have e43 : (0 : Int) ≤ hV H0 285 35 ∧ hV H0 285 35 ≤ 1 := bTo ((f8.1.2.1.1 285 35 kF_233_285_35)) (f8.1.2.2 285 35 _ _ kW_285_35)
  have e44 : (0 : Int) ≤ hV H1 285 44 ∧ hV H1 285 44 ≤ 400 := f8.1.2.2 285 44 _ _ kW_285_44
  have e45 : (0 : Int) ≤ hV H1 285 51 ∧ hV H1 285 51 ≤ 1200 := f8.1.2.2 285 51 _ _ kW_285_51
  have e49 : (0 : Int) ≤ hV H3 285 11 ∧ hV H3 285 11 ≤ 500 := f17.1.2.2.2 285 11 _ _ kW_285_11
  have e50 : (0 : Int) ≤ hV H3 285 12 ∧ hV H3 285 12 ≤ 7 := f17.1.2.2.2 285 12 _ _ kW_285_12
  have e51 : (0 : Int) ≤ hV H3 285 13 ∧ hV H3 285 13 ≤ 2 := f17.1.2.2.2 285 13 _ _ kW_285_13
  have e53 : (0 : Int) ≤ hV H3 285 51 ∧ hV H3 285 51 ≤ 1200 := f17.1.2.2.2 285 51 _ _ kW_285_51
  have e56 : (0 : Int) ≤ hV H4 285 13 ∧ hV H4 285 13 ≤ 2 := f38.1.2.2.2 285 13 _ _ kW_285_13
  try simp only [e25, e27, e29, e33, e35, e36, e37, e38]
  have k0 := g4.1
  have y0 := g4.2.1
  have y1 := g4.2.2.1
  have y2 := g4.2.2.2.1
  have y3 := g4.2.2.2.2.1
  have y4 := g4.2.2.2.2.2.1
  have y5 := g4.2.2.2.2.2.2.1
  have y6 := g4.2.2.2.2.2.2.2
  have p0 := g3.1
  have p1 := g3.2.1
  have p2 := g3.2.2.1
  have p3 := g3.2.2.2.1
  have p4 := g3.2.2.2.2.1
  have p5 := g3.2.2.2.2.2.1
  have p6 := g3.2.2.2.2.2.2
  have r0_0 := f12.2.1
  have r1_0 := f17.2.1
  have r1_1 := f17.2.2.1
  have r1_2 := f17.2.2.2.1
  have r1_3 := f17.2.2.2.2.1
  have r1_4 := f17.2.2.2.2.2.1
  have r1_5 := f17.2.2.2.2.2.2.1
  have r1_6 := f17.2.2.2.2.2.2.2.1
  have r1_7 := f17.2.2.2.2.2.2.2.2
  have r2_0 := f38.2.1
  have r2_1 := f38.2.2
  try simp only [e16] at r0_0
  try simp only [e17, e19, e20] at r1_1
  try simp only [e14] at r1_2
  try simp only [e14] at r1_3
  try simp only [e16] at r1_4
  try simp only [e17] at r1_6
  try simp only [e23] at r1_7
  clear g3
  clear g4
  clear f16 f20 f23 f26 f29 f34 e14 e16 e17 e19 e20 e23 e25 e27 e29 e33 e35 e36 e37 e38
  clear f8 f12 f17 f38
  subst e1
  subst e2
  subst e3
  subst e7
  subst e8
  first
  | (have ix0 : n13 = hV H0 288 (hV H3 285 11).toNat - 11 := Eq.trans f31 (w32_iv (Isu (Iat f28 f27) (IC 11)) (by decide)); subst ix0; clear f31)
  | (have ix0 : n13 = hV H0 288 (hV H3 285 11).toNat - 11 := Eq.trans f31 (w32_id (by omega) (by omega)); subst ix0; clear f31)
  | (unfold w32 at f31; have ix0 : n13 = hV H0 288 (hV H3 285 11).toNat - 11 := (by omega); subst ix0)
  | skip
  try unfold w32 at f31

  refine ⟨⟨?_, ?_, ?_, ?_, ?_, ?_, ?_, ?_, ?_, ?_, ?_⟩, fun q hq => ?_⟩
  · omega
  · exact r1_0
  · omega
  · omega
  · omega
  · omega
  · omega
  · omega
  · intro z
    exact SC_trans y6 (SC_of (r1_1 (by omega))) (by omega)
  · intro z
    exact CO_end (r1_1 (by omega)) (by omega)
  · first
    | omega
    | (refine ⟨?_, ?_, ?_, ?_⟩ <;> first | exact True.intro | omega)
  · have g6 := Option.some.inj hq
    subst g6
    omega
def g_233_2_2 : vG := ([(1217, [2, 15], [3, 4], 0), (0, [15], [], 1), (32, [13], [], 0), (30, [14], [], 0), (20, [14, 2], [3], 13), (90, [14], [], 0), (91, [14], [], 2), (2, [13, 11, 12], [], 0), (0, [12], [], 11), (22, [11, 9, 10], [3], 0), (90, [11], [], 0), (91, [11], [], 53), (20, [10, 2], [3], 11), (90, [10], [], 0), (91, [10], [], 500), (20, [9, 2], [3], 5), (0, [9], [], 288), (35, [8], [], 0), (20, [8, 2], [3], 13), (90, [8], [], 0), (91, [8], [], 2), (1236, [2], [2, 3], 0), (20, [7, 2], [2], 51), (90, [7], [], 0), (91, [7], [], 1200), (30, [6], [], 0), (1216, [6, 2, 5], [1, 2], 0), (90, [6], [], 0), (91, [6], [], 1), (0, [5], [], 48), (5000, [0, 1, 2, 3, 4], [0, 1], 2), (0, [0], [], 285), (90, [1], [], 0), (91, [1], [], 1), (0, [2], [], 285), (90, [3], [], 0), (91, [3], [], 1), (90, [4], [], 0), (91, [4], [], 1)], (4000, [2, 3, 4, 7, 13], [4], 85))
theorem c_233_2_2 {q0 : Nat} : vOkm T0 (eP e_233 L_233 A_233 mu_233 (some q0)) 2 g_233_2_2 := vOk_inI fun ρ η f0 f1 f2 f3 f4 f5 f6 f7 f8 f9 f10 f11 f12 f13 f14 f15 f16 f17 f18 f19 f20 f21 f22 f23 f24 f25 f26 f27 f28 f29 f30 f31 f32 f33 f34 f35 f36 f37 f38 => q_233_3 (q0 := q0) (n0 := ρ 4) (n1 := ρ 3) (n2 := ρ 2) (n3 := ρ 1) (n4 := ρ 0) (n5 := ρ 5) (n6 := ρ 6) (n7 := ρ 7) (n8 := ρ 8) (n9 := ρ 9) (n10 := ρ 10) (n11 := ρ 11) (n12 := ρ 12) (n13 := ρ 13) (n14 := ρ 14) (n15 := ρ 15) (H0 := η 0) (H1 := η 1) (H2 := η 2) (H3 := η 3) (H4 := η 4) f38 f37 f36 f35 f34 f33 f32 f31 f30 f29 f28 f27 f26 f25 f24 f23 f22 f21 f20 f19 f18 f17 f16 f15 f14 f13 f12 f11 f10 f9 f8 f7 f6 f5 f4 f3 f2 f1 f0
set_option maxHeartbeats 20000000 in
theorem q_233_4 {q0 : Nat} {n0 n1 n2 n3 n4 n5 n6 n7 n8 n9 n10 n11 n12 n13 n14 n15 : Int} {H0 H1 H2 H3 : gH} (f0 : n0 ≤ 1) (f1 : 0 ≤ n0) (f2 : n1 ≤ 1) (f3 : 0 ≤ n1) (f4 : n2 = 285) (f5 : n3 ≤ 1) (f6 : 0 ≤ n3) (f7 : n4 = 285) (f8 : (hLe T0 H0 H1 ∧ hFr s_233.2.2.2.2 H0 H1 ∧ hWt T0 H1) ∧ (Ab_233_2 n4 n3 n2 n1 n0 H0 H1 ∧ preb_233 n4 n3 H0) ∧ some q0 = some (mub_233_2 n4 n3 n2 n1 n0 H0 H1)) (f9 : n5 = 48) (f10 : n6 ≤ 1) (f11 : 0 ≤ n6) (f12 : (hLe T0 H1 H2 ∧ hFr s_216.2.2.2.2 H1 H2 ∧ ((0 : Int) = 0 → H2.length = H1.length) ∧ hWt T0 H2) ∧ postb_216 n6 n2 n5 H1 H2) (f13 : n6 = 0) (f14 : n7 ≤ 1200) (f15 : 0 ≤ n7) (f16 : n7 = hV H2 (n2).toNat 51) (f17 : (hLe T0 H2 H3 ∧ hFr s_236.2.2.2.2 H2 H3 ∧ ((0 : Int) = 0 → H3.length = H2.length) ∧ hWt T0 H3) ∧ postb_236 n2 H2 H3) (f18 : n8 ≤ 2) (f19 : 0 ≤ n8) (f20 : n8 = hV H3 (n2).toNat 13) (f21 : n8 ≤ 0) (f22 : n9 = 288) (f23 : n9 = hV H3 (n2).toNat 5) (f24 : n10 ≤ 500) (f25 : 0 ≤ n10) (f26 : n10 = hV H3 (n2).toNat 11) (f27 : n11 ≤ 53) (f28 : 0 ≤ n11) (f29 : n11 = hV H3 (n9).toNat (n10).toNat) (f30 : n12 = 11) (f31 : n13 = w32 (n11 - n12)) (f32 : n14 ≤ 2) (f33 : 0 ≤ n14) (f34 : n14 = hV H3 (n2).toNat 13) (f35 : n14 = 0) (f36 : 0 ≤ n13) (f37 : n15 = 3) (f38 : n13 ≤ n15) : Ab_233_85 n4 n3 n2 n1 n0 n7 n13 H0 H3 ∧ ∀ q, some q0 = some q → mub_233_85 n4 n3 n2 n1 n0 n7 n13 H0 H3 < q := by
  have g4 := f8.2.1.1
  unfold Ab_233_2 at g4
  have g3 := f8.2.1.2
  unfold preb_233 at g3
  have g5 := Option.some.inj f8.2.2
  unfold mub_233_2 at g5
  unfold postb_216 at f12
  unfold postb_236 at f17
  unfold Ab_233_85
  unfold mub_233_85
  have e1 : n7 = hV H1 285 51 := (by rw [f4] at f16; exact f16 : n7 = hV H2 285 51).trans ((f12.1.2.1.1 285 51 kF_216_285_51))
  have e2 : n8 = hV H3 285 13 := (by rw [f4] at f20; exact f20 : n8 = hV H3 285 13)
  have e3 : n10 = hV H3 285 11 := (by rw [f4] at f26; exact f26 : n10 = hV H3 285 11)
  have e7 : n11 = hV H0 288 (n10).toNat := (by rw [f22] at f29; exact f29 : n11 = hV H3 288 (n10).toNat).trans (((congrFun (fRow f17.1.2.1 288 kR_236_288) _)).trans (((congrFun (fRow f12.1.2.1 288 kR_216_288) _)).trans ((congrFun (fRow f8.1.2.1 288 kR_233_288) _))))
  have e8 : n14 = hV H3 285 13 := (by rw [f4] at f34; exact f34 : n14 = hV H3 285 13)
  have e14 : hV H2 285 11 = hV H1 285 11 := (f12.1.2.1.1 285 11 kF_216_285_11)
  have e16 : hV H2 285 13 = hV H1 285 13 := (f12.1.2.1.1 285 13 kF_216_285_13)
  have e17 : hV H2 285 51 = hV H1 285 51 := (f12.1.2.1.1 285 51 kF_216_285_51)
  have e19 : hV H2 320 = hV H1 320 := fRow f12.1.2.1 320 kR_216_320
  have e20 : hV H2 321 = hV H1 321 := fRow f12.1.2.1 321 kR_216_321
  have e23 : hV H3 285 35 = hV H0 285 35 := ((f17.1.2.1.1 285 35 kF_236_285_35)).trans (((f12.1.2.1.1 285 35 kF_216_285_35)).trans (f8.1.2.1.1 285 35 kF_233_285_35))
  have e26 : hV H3 285 44 = hV H1 285 44 := ((f17.1.2.1.1 285 44 kF_236_285_44)).trans (f12.1.2.1.1 285 44 kF_216_285_44)
  have e27 : (0 : Int) ≤ hV H1 285 11 ∧ hV H1 285 11 ≤ 500 := f8.1.2.2 285 11 _ _ kW_285_11
  have e28 : (0 : Int) ≤ hV H1 285 12 ∧ hV H1 285 12 ≤ 7 := f8.1.2.2 285 12 _ _ kW_285_12
  have e29 : (0 : Int) ≤ hV H1 285 13 ∧ hV H1 285 13 ≤ 2 := f8.1.2.2 285 13 _ _ kW_285_13
  have e30 : (0 : Int) ≤ hV H0 285 34 ∧ hV H0 285 34 ≤ 1 := bTo ((f8.1.2.1.1 285 34 kF_233_285_34)) (f8.1.2.2 285 34 _ _ kW_285_34)
  have e31 : (0 : Int) ≤ hV H0 285 35 ∧ hV H0 285 35 ≤ 1 := bTo ((f8.1.2.1.1 285 35 kF_233_285_35)) (f8.1.2.2 285 35 _ _ kW_285_35)
  have e32 : (0 : Int) ≤ hV H1 285 44 ∧ hV H1 285 44 ≤ 400 := f8.1.2.2 285 44 _ _ kW_285_44
  have e33 : (0 : Int) ≤ hV H1 285 51 ∧ hV H1 285 51 ≤ 1200 := f8.1.2.2 285 51 _ _ kW_285_51
  have e37 : (0 : Int) ≤ hV H3 285 11 ∧ hV H3 285 11 ≤ 500 := f17.1.2.2.2 285 11 _ _ kW_285_11
  have e38 : (0 : Int) ≤ hV H3 285 12 ∧ hV H3 285 12 ≤ 7 := f17.1.2.2.2 285 12 _ _ kW_285_12
  have e39 : (0 : Int) ≤ hV H3 285 13 ∧ hV H3 285 13 ≤ 2 := f17.1.2.2.2 285 13 _ _ kW_285_13
  have e42 : (0 : Int) ≤ hV H3 285 51 ∧ hV H3 285 51 ≤ 1200 := f17.1.2.2.2 285 51 _ _ kW_285_51
  try simp only [e23, e26]
  have k0 := g4.1
  have y0 := g4.2.1
  have y1 := g4.2.2.1
  have y2 := g4.2.2.2.1
  have y3 := g4.2.2.2.2.1
  have y4 := g4.2.2.2.2.2.1
  have y5 := g4.2.2.2.2.2.2.1
  have y6 := g4.2.2.2.2.2.2.2
  have p0 := g3.1
  have p1 := g3.2.1
  have p2 := g3.2.2.1
  have p3 := g3.2.2.2.1
  have p4 := g3.2.2.2.2.1
  have p5 := g3.2.2.2.2.2.1
  have p6 := g3.2.2.2.2.2.2
  have r0_0 := f12.2.1
  have r1_0 := f17.2.1
  have r1_1 := f17.2.2.1
  have r1_2 := f17.2.2.2.1
  have r1_3 := f17.2.2.2.2.1
  have r1_4 := f17.2.2.2.2.2.1
  have r1_5 := f17.2.2.2.2.2.2.1
  have r1_6 := f17.2.2.2.2.2.2.2.1
  have r1_7 := f17.2.2.2.2.2.2.2.2
  try simp only [e16] at r0_0
  try simp only [e17, e19, e20] at r1_1
  try simp only [e14] at r1_2
  try simp only [e14] at r1_3
  try simp only [e16] at r1_4
  try simp only [e17] at r1_6
  try simp only [e23] at r1_7
  clear g3
  clear g4
  clear f16 f20 f23 f26 f29 f34 e14 e16 e17 e19 e20 e23 e26
  clear f8 f12 f17
  subst e1
  subst e2
  subst e3
  subst e7
  subst e8
  first
  | (have ix0 : n13 = hV H0 288 (hV H3 285 11).toNat - 11 := Eq.trans f31 (w32_iv (Isu (Iat f28 f27) (IC 11)) (by decide)); subst ix0; clear f31)
  | (have ix0 : n13 = hV H0 288 (hV H3 285 11).toNat - 11 := Eq.trans f31 (w32_id (by omega) (by omega)); subst ix0; clear f31)
  | (unfold w32 at f31; have ix0 : n13 = hV H0 288 (hV H3 285 11).toNat - 11 := (by omega); subst ix0)
  | skip
  try unfold w32 at f31

  refine ⟨⟨?_, ?_, ?_, ?_, ?_, ?_, ?_, ?_, ?_, ?_, ?_⟩, fun q hq => ?_⟩
  · omega
  · exact r1_0
  · omega
  · omega
  · omega
  · omega
  · omega
  · omega
  · intro z
    exact SC_trans y6 (SC_of (r1_1 (by omega))) (by omega)
  · intro z
    exact CO_end (r1_1 (by omega)) (by omega)
  · first
    | omega
    | (refine ⟨?_, ?_, ?_, ?_⟩ <;> first | exact True.intro | omega)
  · have g6 := Option.some.inj hq
    subst g6
    omega
def g_233_2_3 : vG := ([(45, [13, 15], [], 0), (0, [15], [], 3), (33, [13], [], 0), (30, [14], [], 0), (20, [14, 2], [3], 13), (90, [14], [], 0), (91, [14], [], 2), (2, [13, 11, 12], [], 0), (0, [12], [], 11), (22, [11, 9, 10], [3], 0), (90, [11], [], 0), (91, [11], [], 53), (20, [10, 2], [3], 11), (90, [10], [], 0), (91, [10], [], 500), (20, [9, 2], [3], 5), (0, [9], [], 288), (35, [8], [], 0), (20, [8, 2], [3], 13), (90, [8], [], 0), (91, [8], [], 2), (1236, [2], [2, 3], 0), (20, [7, 2], [2], 51), (90, [7], [], 0), (91, [7], [], 1200), (30, [6], [], 0), (1216, [6, 2, 5], [1, 2], 0), (90, [6], [], 0), (91, [6], [], 1), (0, [5], [], 48), (5000, [0, 1, 2, 3, 4], [0, 1], 2), (0, [0], [], 285), (90, [1], [], 0), (91, [1], [], 1), (0, [2], [], 285), (90, [3], [], 0), (91, [3], [], 1), (90, [4], [], 0), (91, [4], [], 1)], (4000, [2, 3, 4, 7, 13], [3], 85))
theorem c_233_2_3 {q0 : Nat} : vOkm T0 (eP e_233 L_233 A_233 mu_233 (some q0)) 2 g_233_2_3 := vOk_inI fun ρ η f0 f1 f2 f3 f4 f5 f6 f7 f8 f9 f10 f11 f12 f13 f14 f15 f16 f17 f18 f19 f20 f21 f22 f23 f24 f25 f26 f27 f28 f29 f30 f31 f32 f33 f34 f35 f36 f37 f38 => q_233_4 (q0 := q0) (n0 := ρ 4) (n1 := ρ 3) (n2 := ρ 2) (n3 := ρ 1) (n4 := ρ 0) (n5 := ρ 5) (n6 := ρ 6) (n7 := ρ 7) (n8 := ρ 8) (n9 := ρ 9) (n10 := ρ 10) (n11 := ρ 11) (n12 := ρ 12) (n13 := ρ 13) (n14 := ρ 14) (n15 := ρ 15) (H0 := η 0) (H1 := η 1) (H2 := η 2) (H3 := η 3) f38 f37 f36 f35 f34 f33 f32 f31 f30 f29 f28 f27 f26 f25 f24 f23 f22 f21 f20 f19 f18 f17 f16 f15 f14 f13 f12 f11 f10 f9 f8 f7 f6 f5 f4 f3 f2 f1 f0
set_option maxHeartbeats 20000000 in
theorem q_233_5 {q0 : Nat} {n0 n1 n2 n3 n4 n5 n6 n7 n8 n9 n10 n11 n12 n13 n14 n15 n16 : Int} {H0 H1 H2 H3 H4 : gH} (f0 : n0 ≤ 1) (f1 : 0 ≤ n0) (f2 : n1 ≤ 1) (f3 : 0 ≤ n1) (f4 : n2 = 285) (f5 : n3 ≤ 1) (f6 : 0 ≤ n3) (f7 : n4 = 285) (f8 : (hLe T0 H0 H1 ∧ hFr s_233.2.2.2.2 H0 H1 ∧ hWt T0 H1) ∧ (Ab_233_2 n4 n3 n2 n1 n0 H0 H1 ∧ preb_233 n4 n3 H0) ∧ some q0 = some (mub_233_2 n4 n3 n2 n1 n0 H0 H1)) (f9 : n5 = 48) (f10 : n6 ≤ 1) (f11 : 0 ≤ n6) (f12 : (hLe T0 H1 H2 ∧ hFr s_216.2.2.2.2 H1 H2 ∧ ((0 : Int) = 0 → H2.length = H1.length) ∧ hWt T0 H2) ∧ postb_216 n6 n2 n5 H1 H2) (f13 : n6 = 0) (f14 : n7 ≤ 1200) (f15 : 0 ≤ n7) (f16 : n7 = hV H2 (n2).toNat 51) (f17 : (hLe T0 H2 H3 ∧ hFr s_236.2.2.2.2 H2 H3 ∧ ((0 : Int) = 0 → H3.length = H2.length) ∧ hWt T0 H3) ∧ postb_236 n2 H2 H3) (f18 : n8 ≤ 2) (f19 : 0 ≤ n8) (f20 : n8 = hV H3 (n2).toNat 13) (f21 : n8 ≤ 0) (f22 : n9 = 288) (f23 : n9 = hV H3 (n2).toNat 5) (f24 : n10 ≤ 500) (f25 : 0 ≤ n10) (f26 : n10 = hV H3 (n2).toNat 11) (f27 : n11 ≤ 53) (f28 : 0 ≤ n11) (f29 : n11 = hV H3 (n9).toNat (n10).toNat) (f30 : n12 = 11) (f31 : n13 = w32 (n11 - n12)) (f32 : n14 ≤ 2) (f33 : 0 ≤ n14) (f34 : n14 = hV H3 (n2).toNat 13) (f35 : n14 = 0) (f36 : 0 ≤ n13) (f37 : n15 = 3) (f38 : n15 < n13) (f39 : n16 = 1) (f40 : (hLe T0 H3 H4 ∧ hFr s_217.2.2.2.2 H3 H4 ∧ ((0 : Int) = 0 → H4.length = H3.length) ∧ hWt T0 H4) ∧ postb_217 n2 n16 H3 H4) : Ab_233_85 n4 n3 n2 n1 n0 n7 n13 H0 H4 ∧ ∀ q, some q0 = some q → mub_233_85 n4 n3 n2 n1 n0 n7 n13 H0 H4 < q := by
  have g4 := f8.2.1.1
  unfold Ab_233_2 at g4
  have g3 := f8.2.1.2
  unfold preb_233 at g3
  have g5 := Option.some.inj f8.2.2
  unfold mub_233_2 at g5
  unfold postb_216 at f12
  unfold postb_236 at f17
  unfold postb_217 at f40
  unfold Ab_233_85
  unfold mub_233_85
  have e1 : n7 = hV H1 285 51 := (by rw [f4] at f16; exact f16 : n7 = hV H2 285 51).trans ((f12.1.2.1.1 285 51 kF_216_285_51))
  have e2 : n8 = hV H3 285 13 := (by rw [f4] at f20; exact f20 : n8 = hV H3 285 13)
  have e3 : n10 = hV H3 285 11 := (by rw [f4] at f26; exact f26 : n10 = hV H3 285 11)
  have e7 : n11 = hV H0 288 (n10).toNat := (by rw [f22] at f29; exact f29 : n11 = hV H3 288 (n10).toNat).trans (((congrFun (fRow f17.1.2.1 288 kR_236_288) _)).trans (((congrFun (fRow f12.1.2.1 288 kR_216_288) _)).trans ((congrFun (fRow f8.1.2.1 288 kR_233_288) _))))
  have e8 : n14 = hV H3 285 13 := (by rw [f4] at f34; exact f34 : n14 = hV H3 285 13)
  have e14 : hV H2 285 11 = hV H1 285 11 := (f12.1.2.1.1 285 11 kF_216_285_11)
  have e16 : hV H2 285 13 = hV H1 285 13 := (f12.1.2.1.1 285 13 kF_216_285_13)
  have e17 : hV H2 285 51 = hV H1 285 51 := (f12.1.2.1.1 285 51 kF_216_285_51)
  have e19 : hV H2 320 = hV H1 320 := fRow f12.1.2.1 320 kR_216_320
  have e20 : hV H2 321 = hV H1 321 := fRow f12.1.2.1 321 kR_216_321
  have e23 : hV H3 285 35 = hV H0 285 35 := ((f17.1.2.1.1 285 35 kF_236_285_35)).trans (((f12.1.2.1.1 285 35 kF_216_285_35)).trans (f8.1.2.1.1 285 35 kF_233_285_35))
  have e25 : hV H4 285 11 = hV H3 285 11 := (f40.1.2.1.1 285 11 kF_217_285_11)
  have e27 : hV H4 285 12 = hV H3 285 12 := (f40.1.2.1.1 285 12 kF_217_285_12)
  have e29 : hV H4 285 35 = hV H0 285 35 := ((f40.1.2.1.1 285 35 kF_217_285_35)).trans (((f17.1.2.1.1 285 35 kF_236_285_35)).trans (((f12.1.2.1.1 285 35 kF_216_285_35)).trans (f8.1.2.1.1 285 35 kF_233_285_35)))
  have e33 : hV H4 285 44 = hV H1 285 44 := ((f40.1.2.1.1 285 44 kF_217_285_44)).trans (((f17.1.2.1.1 285 44 kF_236_285_44)).trans (f12.1.2.1.1 285 44 kF_216_285_44))
  have e35 : hV H4 285 51 = hV H3 285 51 := (f40.1.2.1.1 285 51 kF_217_285_51)
  have e36 : hV H4 320 = hV H3 320 := fRow f40.1.2.1 320 kR_217_320
  have e37 : hV H4 321 = hV H3 321 := fRow f40.1.2.1 321 kR_217_321
  have e38 : RR H4 = RR H3 := RR_fr f40.1.2.1 (by decide +kernel)
  have e39 : (0 : Int) ≤ hV H1 285 11 ∧ hV H1 285 11 ≤ 500 := f8.1.2.2 285 11 _ _ kW_285_11
  have e40 : (0 : Int) ≤ hV H1 285 12 ∧ hV H1 285 12 ≤ 7 := f8.1.2.2 285 12 _ _ kW_285_12
  have e41 : (0 : Int) ≤ hV H1 285 13 ∧ hV H1 285 13 ≤ 2 := f8.1.2.2 285 13 _ _ kW_285_13
  have e42 : (0 : Int) ≤ hV H0 285 34 ∧ hV H0 285 34 ≤ 1 := bTo ((f8.1.2.1.1 285 34 kF_233_285_34)) (f8.1.2.2 285 34 _ _ kW_285_34)
  have e43 : (0 : Int) ≤ hV H0 285 35 ∧ hV H0 285 35 ≤ 1 := bTo ((f8.1.2.1.1 285 35 kF_233_285_35)) (f8.1.2.2 285 35 _ _ kW_285_35)
  have e44 : (0 : Int) ≤ hV H1 285 44 ∧ hV H1 285 44 ≤ 400 := f8.1.2.2 285 44 _ _ kW_285_44
  have e45 : (0 : Int) ≤ hV H1 285 51 ∧ hV H1 285 51 ≤ 1200 := f8.1.2.2 285 51 _ _ kW_285_51
  have e49 : (0 : Int) ≤ hV H3 285 11 ∧ hV H3 285 11 ≤ 500 := f17.1.2.2.2 285 11 _ _ kW_285_11
  have e50 : (0 : Int) ≤ hV H3 285 12 ∧ hV H3 285 12 ≤ 7 := f17.1.2.2.2 285 12 _ _ kW_285_12
  have e51 : (0 : Int) ≤ hV H3 285 13 ∧ hV H3 285 13 ≤ 2 := f17.1.2.2.2 285 13 _ _ kW_285_13
  have e53 : (0 : Int) ≤ hV H3 285 51 ∧ hV H3 285 51 ≤ 1200 := f17.1.2.2.2 285 51 _ _ kW_285_51
  have e56 : (0 : Int) ≤ hV H4 285 13 ∧ hV H4 285 13 ≤ 2 := f40.1.2.2.2 285 13 _ _ kW_285_13
  try simp only [e25, e27, e29, e33, e35, e36, e37, e38]
  have k0 := g4.1
  have y0 := g4.2.1
  have y1 := g4.2.2.1
  have y2 := g4.2.2.2.1
  have y3 := g4.2.2.2.2.1
  have y4 := g4.2.2.2.2.2.1
  have y5 := g4.2.2.2.2.2.2.1
  have y6 := g4.2.2.2.2.2.2.2
  have p0 := g3.1
  have p1 := g3.2.1
  have p2 := g3.2.2.1
  have p3 := g3.2.2.2.1
  have p4 := g3.2.2.2.2.1
  have p5 := g3.2.2.2.2.2.1
  have p6 := g3.2.2.2.2.2.2
  have r0_0 := f12.2.1
  have r1_0 := f17.2.1
  have r1_1 := f17.2.2.1
  have r1_2 := f17.2.2.2.1
  have r1_3 := f17.2.2.2.2.1
  have r1_4 := f17.2.2.2.2.2.1
  have r1_5 := f17.2.2.2.2.2.2.1
  have r1_6 := f17.2.2.2.2.2.2.2.1
  have r1_7 := f17.2.2.2.2.2.2.2.2
  have r2_0 := f40.2.1
  have r2_1 := f40.2.2
  try simp only [e16] at r0_0
  try simp only [e17, e19, e20] at r1_1
  try simp only [e14] at r1_2
  try simp only [e14] at r1_3
  try simp only [e16] at r1_4
  try simp only [e17] at r1_6
  try simp only [e23] at r1_7
  clear g3
  clear g4
  clear f16 f20 f23 f26 f29 f34 e14 e16 e17 e19 e20 e23 e25 e27 e29 e33 e35 e36 e37 e38
  clear f8 f12 f17 f40
  subst e1
  subst e2
  subst e3
  subst e7
  subst e8
  first
  | (have ix0 : n13 = hV H0 288 (hV H3 285 11).toNat - 11 := Eq.trans f31 (w32_iv (Isu (Iat f28 f27) (IC 11)) (by decide)); subst ix0; clear f31)
  | (have ix0 : n13 = hV H0 288 (hV H3 285 11).toNat - 11 := Eq.trans f31 (w32_id (by omega) (by omega)); subst ix0; clear f31)
  | (unfold w32 at f31; have ix0 : n13 = hV H0 288 (hV H3 285 11).toNat - 11 := (by omega); subst ix0)
  | skip
  try unfold w32 at f31

  refine ⟨⟨?_, ?_, ?_, ?_, ?_, ?_, ?_, ?_, ?_, ?_, ?_⟩, fun q hq => ?_⟩
  · omega
  · exact r1_0
  · omega
  · omega
  · omega
  · omega
  · omega
  · omega
  · intro z
    exact SC_trans y6 (SC_of (r1_1 (by omega))) (by omega)
  · intro z
    exact CO_end (r1_1 (by omega)) (by omega)
  · first
    | omega
    | (refine ⟨?_, ?_, ?_, ?_⟩ <;> first | exact True.intro | omega)
  · have g6 := Option.some.inj hq
    subst g6
    omega
def g_233_2_4 : vG := ([(1217, [2, 16], [3, 4], 0), (0, [16], [], 1), (44, [13, 15], [], 0), (0, [15], [], 3), (33, [13], [], 0), (30, [14], [], 0), (20, [14, 2], [3], 13), (90, [14], [], 0), (91, [14], [], 2), (2, [13, 11, 12], [], 0), (0, [12], [], 11), (22, [11, 9, 10], [3], 0), (90, [11], [], 0), (91, [11], [], 53), (20, [10, 2], [3], 11), (90, [10], [], 0), (91, [10], [], 500), (20, [9, 2], [3], 5), (0, [9], [], 288), (35, [8], [], 0), (20, [8, 2], [3], 13), (90, [8], [], 0), (91, [8], [], 2), (1236, [2], [2, 3], 0), (20, [7, 2], [2], 51), (90, [7], [], 0), (91, [7], [], 1200), (30, [6], [], 0), (1216, [6, 2, 5], [1, 2], 0), (90, [6], [], 0), (91, [6], [], 1), (0, [5], [], 48), (5000, [0, 1, 2, 3, 4], [0, 1], 2), (0, [0], [], 285), (90, [1], [], 0), (91, [1], [], 1), (0, [2], [], 285), (90, [3], [], 0), (91, [3], [], 1), (90, [4], [], 0), (91, [4], [], 1)], (4000, [2, 3, 4, 7, 13], [4], 85))
theorem c_233_2_4 {q0 : Nat} : vOkm T0 (eP e_233 L_233 A_233 mu_233 (some q0)) 2 g_233_2_4 := vOk_inI fun ρ η f0 f1 f2 f3 f4 f5 f6 f7 f8 f9 f10 f11 f12 f13 f14 f15 f16 f17 f18 f19 f20 f21 f22 f23 f24 f25 f26 f27 f28 f29 f30 f31 f32 f33 f34 f35 f36 f37 f38 f39 f40 => q_233_5 (q0 := q0) (n0 := ρ 4) (n1 := ρ 3) (n2 := ρ 2) (n3 := ρ 1) (n4 := ρ 0) (n5 := ρ 5) (n6 := ρ 6) (n7 := ρ 7) (n8 := ρ 8) (n9 := ρ 9) (n10 := ρ 10) (n11 := ρ 11) (n12 := ρ 12) (n13 := ρ 13) (n14 := ρ 14) (n15 := ρ 15) (n16 := ρ 16) (H0 := η 0) (H1 := η 1) (H2 := η 2) (H3 := η 3) (H4 := η 4) f40 f39 f38 f37 f36 f35 f34 f33 f32 f31 f30 f29 f28 f27 f26 f25 f24 f23 f22 f21 f20 f19 f18 f17 f16 f15 f14 f13 f12 f11 f10 f9 f8 f7 f6 f5 f4 f3 f2 f1 f0
set_option maxHeartbeats 20000000 in
theorem q_233_6 {q0 : Nat} {n0 n1 n2 n3 n4 n5 n6 n7 n8 n9 n10 : Int} {H0 H1 H2 H3 : gH} (f0 : n0 ≤ 1) (f1 : 0 ≤ n0) (f2 : n1 ≤ 1) (f3 : 0 ≤ n1) (f4 : n2 = 285) (f5 : n3 ≤ 1) (f6 : 0 ≤ n3) (f7 : n4 = 285) (f8 : (hLe T0 H0 H1 ∧ hFr s_233.2.2.2.2 H0 H1 ∧ hWt T0 H1) ∧ (Ab_233_2 n4 n3 n2 n1 n0 H0 H1 ∧ preb_233 n4 n3 H0) ∧ some q0 = some (mub_233_2 n4 n3 n2 n1 n0 H0 H1)) (f9 : n5 = 48) (f10 : n6 ≤ 1) (f11 : 0 ≤ n6) (f12 : (hLe T0 H1 H2 ∧ hFr s_216.2.2.2.2 H1 H2 ∧ ((0 : Int) = 0 → H2.length = H1.length) ∧ hWt T0 H2) ∧ postb_216 n6 n2 n5 H1 H2) (f13 : n6 = 0) (f14 : n7 ≤ 1200) (f15 : 0 ≤ n7) (f16 : n7 = hV H2 (n2).toNat 51) (f17 : (hLe T0 H2 H3 ∧ hFr s_236.2.2.2.2 H2 H3 ∧ ((0 : Int) = 0 → H3.length = H2.length) ∧ hWt T0 H3) ∧ postb_236 n2 H2 H3) (f18 : n8 ≤ 2) (f19 : 0 ≤ n8) (f20 : n8 = hV H3 (n2).toNat 13) (f21 : 0 < n8) (f22 : n9 = 0) (f23 : n10 ≤ 2) (f24 : 0 ≤ n10) (f25 : n10 = hV H3 (n2).toNat 13) (f26 : n10 ≠ 0) : Ab_233_85 n4 n3 n2 n1 n0 n7 n9 H0 H3 ∧ ∀ q, some q0 = some q → mub_233_85 n4 n3 n2 n1 n0 n7 n9 H0 H3 < q := by
  have g4 := f8.2.1.1
  unfold Ab_233_2 at g4
  have g3 := f8.2.1.2
  unfold preb_233 at g3
  have g5 := Option.some.inj f8.2.2
  unfold mub_233_2 at g5
  unfold postb_216 at f12
  unfold postb_236 at f17
  unfold Ab_233_85
  unfold mub_233_85
  have e1 : n7 = hV H1 285 51 := (by rw [f4] at f16; exact f16 : n7 = hV H2 285 51).trans ((f12.1.2.1.1 285 51 kF_216_285_51))
  have e2 : n8 = hV H3 285 13 := (by rw [f4] at f20; exact f20 : n8 = hV H3 285 13)
  have e3 : n10 = hV H3 285 13 := (by rw [f4] at f25; exact f25 : n10 = hV H3 285 13)
  have e9 : hV H2 285 11 = hV H1 285 11 := (f12.1.2.1.1 285 11 kF_216_285_11)
  have e11 : hV H2 285 13 = hV H1 285 13 := (f12.1.2.1.1 285 13 kF_216_285_13)
  have e12 : hV H2 285 51 = hV H1 285 51 := (f12.1.2.1.1 285 51 kF_216_285_51)
  have e16 : hV H2 320 = hV H1 320 := fRow f12.1.2.1 320 kR_216_320
  have e17 : hV H2 321 = hV H1 321 := fRow f12.1.2.1 321 kR_216_321
  have e20 : hV H3 285 35 = hV H0 285 35 := ((f17.1.2.1.1 285 35 kF_236_285_35)).trans (((f12.1.2.1.1 285 35 kF_216_285_35)).trans (f8.1.2.1.1 285 35 kF_233_285_35))
  have e23 : hV H3 285 44 = hV H1 285 44 := ((f17.1.2.1.1 285 44 kF_236_285_44)).trans (f12.1.2.1.1 285 44 kF_216_285_44)
  have e24 : (0 : Int) ≤ hV H1 285 11 ∧ hV H1 285 11 ≤ 500 := f8.1.2.2 285 11 _ _ kW_285_11
  have e25 : (0 : Int) ≤ hV H1 285 12 ∧ hV H1 285 12 ≤ 7 := f8.1.2.2 285 12 _ _ kW_285_12
  have e26 : (0 : Int) ≤ hV H1 285 13 ∧ hV H1 285 13 ≤ 2 := f8.1.2.2 285 13 _ _ kW_285_13
  have e27 : (0 : Int) ≤ hV H0 285 34 ∧ hV H0 285 34 ≤ 1 := bTo ((f8.1.2.1.1 285 34 kF_233_285_34)) (f8.1.2.2 285 34 _ _ kW_285_34)
  have e28 : (0 : Int) ≤ hV H0 285 35 ∧ hV H0 285 35 ≤ 1 := bTo ((f8.1.2.1.1 285 35 kF_233_285_35)) (f8.1.2.2 285 35 _ _ kW_285_35)
  have e29 : (0 : Int) ≤ hV H1 285 44 ∧ hV H1 285 44 ≤ 400 := f8.1.2.2 285 44 _ _ kW_285_44
  have e30 : (0 : Int) ≤ hV H1 285 51 ∧ hV H1 285 51 ≤ 1200 := f8.1.2.2 285 51 _ _ kW_285_51
  have e34 : (0 : Int) ≤ hV H3 285 11 ∧ hV H3 285 11 ≤ 500 := f17.1.2.2.2 285 11 _ _ kW_285_11
  have e35 : (0 : Int) ≤ hV H3 285 12 ∧ hV H3 285 12 ≤ 7 := f17.1.2.2.2 285 12 _ _ kW_285_12
  have e36 : (0 : Int) ≤ hV H3 285 13 ∧ hV H3 285 13 ≤ 2 := f17.1.2.2.2 285 13 _ _ kW_285_13
  have e39 : (0 : Int) ≤ hV H3 285 51 ∧ hV H3 285 51 ≤ 1200 := f17.1.2.2.2 285 51 _ _ kW_285_51
  try simp only [e20, e23]
  have k0 := g4.1
  have y0 := g4.2.1
  have y1 := g4.2.2.1
  have y2 := g4.2.2.2.1
  have y3 := g4.2.2.2.2.1
  have y4 := g4.2.2.2.2.2.1
  have y5 := g4.2.2.2.2.2.2.1
  have y6 := g4.2.2.2.2.2.2.2
  have p0 := g3.1
  have p1 := g3.2.1
  have p2 := g3.2.2.1
  have p3 := g3.2.2.2.1
  have p4 := g3.2.2.2.2.1
  have p5 := g3.2.2.2.2.2.1
  have p6 := g3.2.2.2.2.2.2
  have r0_0 := f12.2.1
  have r1_0 := f17.2.1
  have r1_1 := f17.2.2.1
  have r1_2 := f17.2.2.2.1
  have r1_3 := f17.2.2.2.2.1
  have r1_4 := f17.2.2.2.2.2.1
  have r1_5 := f17.2.2.2.2.2.2.1
  have r1_6 := f17.2.2.2.2.2.2.2.1
  have r1_7 := f17.2.2.2.2.2.2.2.2
  try simp only [e11] at r0_0
  try simp only [e12, e16, e17] at r1_1
  try simp only [e9] at r1_2
  try simp only [e9] at r1_3
  try simp only [e11] at r1_4
  try simp only [e12] at r1_6
  try simp only [e20] at r1_7
  clear g3
  clear g4
  clear f16 f20 f25 e9 e11 e12 e16 e17 e20 e23
  clear f8 f12 f17
  subst e1
  subst e2
  subst e3

  refine ⟨⟨?_, ?_, ?_, ?_, ?_, ?_, ?_, ?_, ?_, ?_, ?_⟩, fun q hq => ?_⟩
  · omega
  · exact r1_0
  · omega
  · omega
  · omega
  · omega
  · omega
  · omega
  · intro z
    exact SC_trans y6 (SC_of (r1_1 (by omega))) (by omega)
  · intro z
    exact CO_end (r1_1 (by omega)) (by omega)
  · first
    | omega
    | (refine ⟨?_, ?_, ?_, ?_⟩ <;> first | exact True.intro | omega)
  · have g6 := Option.some.inj hq
    subst g6
    omega
def g_233_2_5 : vG := ([(31, [10], [], 0), (20, [10, 2], [3], 13), (90, [10], [], 0), (91, [10], [], 2), (0, [9], [], 0), (34, [8], [], 0), (20, [8, 2], [3], 13), (90, [8], [], 0), (91, [8], [], 2), (1236, [2], [2, 3], 0), (20, [7, 2], [2], 51), (90, [7], [], 0), (91, [7], [], 1200), (30, [6], [], 0), (1216, [6, 2, 5], [1, 2], 0), (90, [6], [], 0), (91, [6], [], 1), (0, [5], [], 48), (5000, [0, 1, 2, 3, 4], [0, 1], 2), (0, [0], [], 285), (90, [1], [], 0), (91, [1], [], 1), (0, [2], [], 285), (90, [3], [], 0), (91, [3], [], 1), (90, [4], [], 0), (91, [4], [], 1)], (4000, [2, 3, 4, 7, 9], [3], 85))
theorem c_233_2_5 {q0 : Nat} : vOkm T0 (eP e_233 L_233 A_233 mu_233 (some q0)) 2 g_233_2_5 := vOk_inI fun ρ η f0 f1 f2 f3 f4 f5 f6 f7 f8 f9 f10 f11 f12 f13 f14 f15 f16 f17 f18 f19 f20 f21 f22 f23 f24 f25 f26 => q_233_6 (q0 := q0) (n0 := ρ 4) (n1 := ρ 3) (n2 := ρ 2) (n3 := ρ 1) (n4 := ρ 0) (n5 := ρ 5) (n6 := ρ 6) (n7 := ρ 7) (n8 := ρ 8) (n9 := ρ 9) (n10 := ρ 10) (H0 := η 0) (H1 := η 1) (H2 := η 2) (H3 := η 3) f26 f25 f24 f23 f22 f21 f20 f19 f18 f17 f16 f15 f14 f13 f12 f11 f10 f9 f8 f7 f6 f5 f4 f3 f2 f1 f0
set_option maxHeartbeats 20000000 in
theorem q_233_7 {q0 : Nat} {n0 n1 n2 n3 n4 n5 n6 n7 n8 n9 n10 n11 : Int} {H0 H1 H2 H3 H4 : gH} (f0 : n0 ≤ 1) (f1 : 0 ≤ n0) (f2 : n1 ≤ 1) (f3 : 0 ≤ n1) (f4 : n2 = 285) (f5 : n3 ≤ 1) (f6 : 0 ≤ n3) (f7 : n4 = 285) (f8 : (hLe T0 H0 H1 ∧ hFr s_233.2.2.2.2 H0 H1 ∧ hWt T0 H1) ∧ (Ab_233_2 n4 n3 n2 n1 n0 H0 H1 ∧ preb_233 n4 n3 H0) ∧ some q0 = some (mub_233_2 n4 n3 n2 n1 n0 H0 H1)) (f9 : n5 = 48) (f10 : n6 ≤ 1) (f11 : 0 ≤ n6) (f12 : (hLe T0 H1 H2 ∧ hFr s_216.2.2.2.2 H1 H2 ∧ ((0 : Int) = 0 → H2.length = H1.length) ∧ hWt T0 H2) ∧ postb_216 n6 n2 n5 H1 H2) (f13 : n6 = 0) (f14 : n7 ≤ 1200) (f15 : 0 ≤ n7) (f16 : n7 = hV H2 (n2).toNat 51) (f17 : (hLe T0 H2 H3 ∧ hFr s_236.2.2.2.2 H2 H3 ∧ ((0 : Int) = 0 → H3.length = H2.length) ∧ hWt T0 H3) ∧ postb_236 n2 H2 H3) (f18 : n8 ≤ 2) (f19 : 0 ≤ n8) (f20 : n8 = hV H3 (n2).toNat 13) (f21 : 0 < n8) (f22 : n9 = 0) (f23 : n10 ≤ 2) (f24 : 0 ≤ n10) (f25 : n10 = hV H3 (n2).toNat 13) (f26 : n10 = 0) (f27 : n9 < 0) (f28 : n11 = 1) (f29 : (hLe T0 H3 H4 ∧ hFr s_217.2.2.2.2 H3 H4 ∧ ((0 : Int) = 0 → H4.length = H3.length) ∧ hWt T0 H4) ∧ postb_217 n2 n11 H3 H4) : Ab_233_85 n4 n3 n2 n1 n0 n7 n9 H0 H4 ∧ ∀ q, some q0 = some q → mub_233_85 n4 n3 n2 n1 n0 n7 n9 H0 H4 < q := by
  have g4 := f8.2.1.1
  unfold Ab_233_2 at g4
  have g3 := f8.2.1.2
  unfold preb_233 at g3
  have g5 := Option.some.inj f8.2.2
  unfold mub_233_2 at g5
  unfold postb_216 at f12
  unfold postb_236 at f17
  unfold postb_217 at f29
  unfold Ab_233_85
  unfold mub_233_85
  have e1 : n7 = hV H1 285 51 := (by rw [f4] at f16; exact f16 : n7 = hV H2 285 51).trans ((f12.1.2.1.1 285 51 kF_216_285_51))
  have e2 : n8 = hV H3 285 13 := (by rw [f4] at f20; exact f20 : n8 = hV H3 285 13)
  have e3 : n10 = hV H3 285 13 := (by rw [f4] at f25; exact f25 : n10 = hV H3 285 13)
  have e9 : hV H2 285 11 = hV H1 285 11 := (f12.1.2.1.1 285 11 kF_216_285_11)
  have e11 : hV H2 285 13 = hV H1 285 13 := (f12.1.2.1.1 285 13 kF_216_285_13)
  have e12 : hV H2 285 51 = hV H1 285 51 := (f12.1.2.1.1 285 51 kF_216_285_51)
  have e16 : hV H2 320 = hV H1 320 := fRow f12.1.2.1 320 kR_216_320
  have e17 : hV H2 321 = hV H1 321 := fRow f12.1.2.1 321 kR_216_321
  have e20 : hV H3 285 35 = hV H0 285 35 := ((f17.1.2.1.1 285 35 kF_236_285_35)).trans (((f12.1.2.1.1 285 35 kF_216_285_35)).trans (f8.1.2.1.1 285 35 kF_233_285_35))
  have e22 : hV H4 285 11 = hV H3 285 11 := (f29.1.2.1.1 285 11 kF_217_285_11)
  have e24 : hV H4 285 12 = hV H3 285 12 := (f29.1.2.1.1 285 12 kF_217_285_12)
  have e26 : hV H4 285 35 = hV H0 285 35 := ((f29.1.2.1.1 285 35 kF_217_285_35)).trans (((f17.1.2.1.1 285 35 kF_236_285_35)).trans (((f12.1.2.1.1 285 35 kF_216_285_35)).trans (f8.1.2.1.1 285 35 kF_233_285_35)))
  have e30 : hV H4 285 44 = hV H1 285 44 := ((f29.1.2.1.1 285 44 kF_217_285_44)).trans (((f17.1.2.1.1 285 44 kF_236_285_44)).trans (f12.1.2.1.1 285 44 kF_216_285_44))
  have e32 : hV H4 285 51 = hV H3 285 51 := (f29.1.2.1.1 285 51 kF_217_285_51)
  have e33 : hV H4 320 = hV H3 320 := fRow f29.1.2.1 320 kR_217_320
  have e34 : hV H4 321 = hV H3 321 := fRow f29.1.2.1 321 kR_217_321
  have e35 : RR H4 = RR H3 := RR_fr f29.1.2.1 (by decide +kernel)
  have e36 : (0 : Int) ≤ hV H1 285 11 ∧ hV H1 285 11 ≤ 500 := f8.1.2.2 285 11 _ _ kW_285_11
  have e37 : (0 : Int) ≤ hV H1 285 12 ∧ hV H1 285 12 ≤ 7 := f8.1.2.2 285 12 _ _ kW_285_12
  have e38 : (0 : Int) ≤ hV H1 285 13 ∧ hV H1 285 13 ≤ 2 := f8.1.2.2 285 13 _ _ kW_285_13
  have e39 : (0 : Int) ≤ hV H0 285 34 ∧ hV H0 285 34 ≤ 1 := bTo ((f8.1.2.1.1 285 34 kF_233_285_34)) (f8.1.2.2 285 34 _ _ kW_285_34)
  have e40 : (0 : Int) ≤ hV H0 285 35 ∧ hV H0 285 35 ≤ 1 := bTo ((f8.1.2.1.1 285 35 kF_233_285_35)) (f8.1.2.2 285 35 _ _ kW_285_35)
  have e41 : (0 : Int) ≤ hV H1 285 44 ∧ hV H1 285 44 ≤ 400 := f8.1.2.2 285 44 _ _ kW_285_44
  have e42 : (0 : Int) ≤ hV H1 285 51 ∧ hV H1 285 51 ≤ 1200 := f8.1.2.2 285 51 _ _ kW_285_51
  have e46 : (0 : Int) ≤ hV H3 285 11 ∧ hV H3 285 11 ≤ 500 := f17.1.2.2.2 285 11 _ _ kW_285_11
  have e47 : (0 : Int) ≤ hV H3 285 12 ∧ hV H3 285 12 ≤ 7 := f17.1.2.2.2 285 12 _ _ kW_285_12
  have e48 : (0 : Int) ≤ hV H3 285 13 ∧ hV H3 285 13 ≤ 2 := f17.1.2.2.2 285 13 _ _ kW_285_13
  have e50 : (0 : Int) ≤ hV H3 285 51 ∧ hV H3 285 51 ≤ 1200 := f17.1.2.2.2 285 51 _ _ kW_285_51
  have e53 : (0 : Int) ≤ hV H4 285 13 ∧ hV H4 285 13 ≤ 2 := f29.1.2.2.2 285 13 _ _ kW_285_13
  try simp only [e22, e24, e26, e30, e32, e33, e34, e35]
  have k0 := g4.1
  have y0 := g4.2.1
  have y1 := g4.2.2.1
  have y2 := g4.2.2.2.1
  have y3 := g4.2.2.2.2.1
  have y4 := g4.2.2.2.2.2.1
  have y5 := g4.2.2.2.2.2.2.1
  have y6 := g4.2.2.2.2.2.2.2
  have p0 := g3.1
  have p1 := g3.2.1
  have p2 := g3.2.2.1
  have p3 := g3.2.2.2.1
  have p4 := g3.2.2.2.2.1
  have p5 := g3.2.2.2.2.2.1
  have p6 := g3.2.2.2.2.2.2
  have r0_0 := f12.2.1
  have r1_0 := f17.2.1
  have r1_1 := f17.2.2.1
  have r1_2 := f17.2.2.2.1
  have r1_3 := f17.2.2.2.2.1
  have r1_4 := f17.2.2.2.2.2.1
  have r1_5 := f17.2.2.2.2.2.2.1
  have r1_6 := f17.2.2.2.2.2.2.2.1
  have r1_7 := f17.2.2.2.2.2.2.2.2
  have r2_0 := f29.2.1
  have r2_1 := f29.2.2
  try simp only [e11] at r0_0
  try simp only [e12, e16, e17] at r1_1
  try simp only [e9] at r1_2
  try simp only [e9] at r1_3
  try simp only [e11] at r1_4
  try simp only [e12] at r1_6
  try simp only [e20] at r1_7
  clear g3
  clear g4
  clear f16 f20 f25 e9 e11 e12 e16 e17 e20 e22 e24 e26 e30 e32 e33 e34 e35
  clear f8 f12 f17 f29
  subst e1
  subst e2
  subst e3

  refine ⟨⟨?_, ?_, ?_, ?_, ?_, ?_, ?_, ?_, ?_, ?_, ?_⟩, fun q hq => ?_⟩
  · omega
  · exact r1_0
  · omega
  · omega
  · omega
  · omega
  · omega
  · omega
  · intro z
    exact SC_trans y6 (SC_of (r1_1 (by omega))) (by omega)
  · intro z
    exact CO_end (r1_1 (by omega)) (by omega)
  · first
    | omega
    | (refine ⟨?_, ?_, ?_, ?_⟩ <;> first | exact True.intro | omega)
  · have g6 := Option.some.inj hq
    subst g6
    omega
def g_233_2_6 : vG := ([(1217, [2, 11], [3, 4], 0), (0, [11], [], 1), (32, [9], [], 0), (30, [10], [], 0), (20, [10, 2], [3], 13), (90, [10], [], 0), (91, [10], [], 2), (0, [9], [], 0), (34, [8], [], 0), (20, [8, 2], [3], 13), (90, [8], [], 0), (91, [8], [], 2), (1236, [2], [2, 3], 0), (20, [7, 2], [2], 51), (90, [7], [], 0), (91, [7], [], 1200), (30, [6], [], 0), (1216, [6, 2, 5], [1, 2], 0), (90, [6], [], 0), (91, [6], [], 1), (0, [5], [], 48), (5000, [0, 1, 2, 3, 4], [0, 1], 2), (0, [0], [], 285), (90, [1], [], 0), (91, [1], [], 1), (0, [2], [], 285), (90, [3], [], 0), (91, [3], [], 1), (90, [4], [], 0), (91, [4], [], 1)], (4000, [2, 3, 4, 7, 9], [4], 85))
theorem c_233_2_6 {q0 : Nat} : vOkm T0 (eP e_233 L_233 A_233 mu_233 (some q0)) 2 g_233_2_6 := vOk_inI fun ρ η f0 f1 f2 f3 f4 f5 f6 f7 f8 f9 f10 f11 f12 f13 f14 f15 f16 f17 f18 f19 f20 f21 f22 f23 f24 f25 f26 f27 f28 f29 => q_233_7 (q0 := q0) (n0 := ρ 4) (n1 := ρ 3) (n2 := ρ 2) (n3 := ρ 1) (n4 := ρ 0) (n5 := ρ 5) (n6 := ρ 6) (n7 := ρ 7) (n8 := ρ 8) (n9 := ρ 9) (n10 := ρ 10) (n11 := ρ 11) (H0 := η 0) (H1 := η 1) (H2 := η 2) (H3 := η 3) (H4 := η 4) f29 f28 f27 f26 f25 f24 f23 f22 f21 f20 f19 f18 f17 f16 f15 f14 f13 f12 f11 f10 f9 f8 f7 f6 f5 f4 f3 f2 f1 f0
set_option maxHeartbeats 20000000 in
theorem q_233_8 {q0 : Nat} {n0 n1 n2 n3 n4 n5 n6 n7 n8 n9 n10 n11 : Int} {H0 H1 H2 H3 : gH} (f0 : n0 ≤ 1) (f1 : 0 ≤ n0) (f2 : n1 ≤ 1) (f3 : 0 ≤ n1) (f4 : n2 = 285) (f5 : n3 ≤ 1) (f6 : 0 ≤ n3) (f7 : n4 = 285) (f8 : (hLe T0 H0 H1 ∧ hFr s_233.2.2.2.2 H0 H1 ∧ hWt T0 H1) ∧ (Ab_233_2 n4 n3 n2 n1 n0 H0 H1 ∧ preb_233 n4 n3 H0) ∧ some q0 = some (mub_233_2 n4 n3 n2 n1 n0 H0 H1)) (f9 : n5 = 48) (f10 : n6 ≤ 1) (f11 : 0 ≤ n6) (f12 : (hLe T0 H1 H2 ∧ hFr s_216.2.2.2.2 H1 H2 ∧ ((0 : Int) = 0 → H2.length = H1.length) ∧ hWt T0 H2) ∧ postb_216 n6 n2 n5 H1 H2) (f13 : n6 = 0) (f14 : n7 ≤ 1200) (f15 : 0 ≤ n7) (f16 : n7 = hV H2 (n2).toNat 51) (f17 : (hLe T0 H2 H3 ∧ hFr s_236.2.2.2.2 H2 H3 ∧ ((0 : Int) = 0 → H3.length = H2.length) ∧ hWt T0 H3) ∧ postb_236 n2 H2 H3) (f18 : n8 ≤ 2) (f19 : 0 ≤ n8) (f20 : n8 = hV H3 (n2).toNat 13) (f21 : 0 < n8) (f22 : n9 = 0) (f23 : n10 ≤ 2) (f24 : 0 ≤ n10) (f25 : n10 = hV H3 (n2).toNat 13) (f26 : n10 = 0) (f27 : 0 ≤ n9) (f28 : n11 = 3) (f29 : n9 ≤ n11) : Ab_233_85 n4 n3 n2 n1 n0 n7 n9 H0 H3 ∧ ∀ q, some q0 = some q → mub_233_85 n4 n3 n2 n1 n0 n7 n9 H0 H3 < q := by
  have g4 := f8.2.1.1
  unfold Ab_233_2 at g4
  have g3 := f8.2.1.2
  unfold preb_233 at g3
  have g5 := Option.some.inj f8.2.2
  unfold mub_233_2 at g5
  unfold postb_216 at f12
  unfold postb_236 at f17
  unfold Ab_233_85
  unfold mub_233_85
  have e1 : n7 = hV H1 285 51 := (by rw [f4] at f16; exact f16 : n7 = hV H2 285 51).trans ((f12.1.2.1.1 285 51 kF_216_285_51))
  have e2 : n8 = hV H3 285 13 := (by rw [f4] at f20; exact f20 : n8 = hV H3 285 13)
  have e3 : n10 = hV H3 285 13 := (by rw [f4] at f25; exact f25 : n10 = hV H3 285 13)
  have e9 : hV H2 285 11 = hV H1 285 11 := (f12.1.2.1.1 285 11 kF_216_285_11)
  have e11 : hV H2 285 13 = hV H1 285 13 := (f12.1.2.1.1 285 13 kF_216_285_13)
  have e12 : hV H2 285 51 = hV H1 285 51 := (f12.1.2.1.1 285 51 kF_216_285_51)
  have e16 : hV H2 320 = hV H1 320 := fRow f12.1.2.1 320 kR_216_320
  have e17 : hV H2 321 = hV H1 321 := fRow f12.1.2.1 321 kR_216_321
  have e20 : hV H3 285 35 = hV H0 285 35 := ((f17.1.2.1.1 285 35 kF_236_285_35)).trans (((f12.1.2.1.1 285 35 kF_216_285_35)).trans (f8.1.2.1.1 285 35 kF_233_285_35))
  have e23 : hV H3 285 44 = hV H1 285 44 := ((f17.1.2.1.1 285 44 kF_236_285_44)).trans (f12.1.2.1.1 285 44 kF_216_285_44)
  have e24 : (0 : Int) ≤ hV H1 285 11 ∧ hV H1 285 11 ≤ 500 := f8.1.2.2 285 11 _ _ kW_285_11
  have e25 : (0 : Int) ≤ hV H1 285 12 ∧ hV H1 285 12 ≤ 7 := f8.1.2.2 285 12 _ _ kW_285_12
  have e26 : (0 : Int) ≤ hV H1 285 13 ∧ hV H1 285 13 ≤ 2 := f8.1.2.2 285 13 _ _ kW_285_13
  have e27 : (0 : Int) ≤ hV H0 285 34 ∧ hV H0 285 34 ≤ 1 := bTo ((f8.1.2.1.1 285 34 kF_233_285_34)) (f8.1.2.2 285 34 _ _ kW_285_34)
  have e28 : (0 : Int) ≤ hV H0 285 35 ∧ hV H0 285 35 ≤ 1 := bTo ((f8.1.2.1.1 285 35 kF_233_285_35)) (f8.1.2.2 285 35 _ _ kW_285_35)
  have e29 : (0 : Int) ≤ hV H1 285 44 ∧ hV H1 285 44 ≤ 400 := f8.1.2.2 285 44 _ _ kW_285_44
  have e30 : (0 : Int) ≤ hV H1 285 51 ∧ hV H1 285 51 ≤ 1200 := f8.1.2.2 285 51 _ _ kW_285_51
  have e34 : (0 : Int) ≤ hV H3 285 11 ∧ hV H3 285 11 ≤ 500 := f17.1.2.2.2 285 11 _ _ kW_285_11
  have e35 : (0 : Int) ≤ hV H3 285 12 ∧ hV H3 285 12 ≤ 7 := f17.1.2.2.2 285 12 _ _ kW_285_12
  have e36 : (0 : Int) ≤ hV H3 285 13 ∧ hV H3 285 13 ≤ 2 := f17.1.2.2.2 285 13 _ _ kW_285_13
  have e39 : (0 : Int) ≤ hV H3 285 51 ∧ hV H3 285 51 ≤ 1200 := f17.1.2.2.2 285 51 _ _ kW_285_51
  try simp only [e20, e23]
  have k0 := g4.1
  have y0 := g4.2.1
  have y1 := g4.2.2.1
  have y2 := g4.2.2.2.1
  have y3 := g4.2.2.2.2.1
  have y4 := g4.2.2.2.2.2.1
  have y5 := g4.2.2.2.2.2.2.1
  have y6 := g4.2.2.2.2.2.2.2
  have p0 := g3.1
  have p1 := g3.2.1
  have p2 := g3.2.2.1
  have p3 := g3.2.2.2.1
  have p4 := g3.2.2.2.2.1
  have p5 := g3.2.2.2.2.2.1
  have p6 := g3.2.2.2.2.2.2
  have r0_0 := f12.2.1
  have r1_0 := f17.2.1
  have r1_1 := f17.2.2.1
  have r1_2 := f17.2.2.2.1
  have r1_3 := f17.2.2.2.2.1
  have r1_4 := f17.2.2.2.2.2.1
  have r1_5 := f17.2.2.2.2.2.2.1
  have r1_6 := f17.2.2.2.2.2.2.2.1
  have r1_7 := f17.2.2.2.2.2.2.2.2
  try simp only [e11] at r0_0
  try simp only [e12, e16, e17] at r1_1
  try simp only [e9] at r1_2
  try simp only [e9] at r1_3
  try simp only [e11] at r1_4
  try simp only [e12] at r1_6
  try simp only [e20] at r1_7
  clear g3
  clear g4
  clear f16 f20 f25 e9 e11 e12 e16 e17 e20 e23
  clear f8 f12 f17
  subst e1
  subst e2
  subst e3

  refine ⟨⟨?_, ?_, ?_, ?_, ?_, ?_, ?_, ?_, ?_, ?_, ?_⟩, fun q hq => ?_⟩
  · omega
  · exact r1_0
  · omega
  · omega
  · omega
  · omega
  · omega
  · omega
  · intro z
    exact SC_trans y6 (SC_of (r1_1 (by omega))) (by omega)
  · intro z
    exact CO_end (r1_1 (by omega)) (by omega)
  · first
    | omega
    | (refine ⟨?_, ?_, ?_, ?_⟩ <;> first | exact True.intro | omega)
  · have g6 := Option.some.inj hq
    subst g6
    omega
def g_233_2_7 : vG := ([(45, [9, 11], [], 0), (0, [11], [], 3), (33, [9], [], 0), (30, [10], [], 0), (20, [10, 2], [3], 13), (90, [10], [], 0), (91, [10], [], 2), (0, [9], [], 0), (34, [8], [], 0), (20, [8, 2], [3], 13), (90, [8], [], 0), (91, [8], [], 2), (1236, [2], [2, 3], 0), (20, [7, 2], [2], 51), (90, [7], [], 0), (91, [7], [], 1200), (30, [6], [], 0), (1216, [6, 2, 5], [1, 2], 0), (90, [6], [], 0), (91, [6], [], 1), (0, [5], [], 48), (5000, [0, 1, 2, 3, 4], [0, 1], 2), (0, [0], [], 285), (90, [1], [], 0), (91, [1], [], 1), (0, [2], [], 285), (90, [3], [], 0), (91, [3], [], 1), (90, [4], [], 0), (91, [4], [], 1)], (4000, [2, 3, 4, 7, 9], [3], 85))
theorem c_233_2_7 {q0 : Nat} : vOkm T0 (eP e_233 L_233 A_233 mu_233 (some q0)) 2 g_233_2_7 := vOk_inI fun ρ η f0 f1 f2 f3 f4 f5 f6 f7 f8 f9 f10 f11 f12 f13 f14 f15 f16 f17 f18 f19 f20 f21 f22 f23 f24 f25 f26 f27 f28 f29 => q_233_8 (q0 := q0) (n0 := ρ 4) (n1 := ρ 3) (n2 := ρ 2) (n3 := ρ 1) (n4 := ρ 0) (n5 := ρ 5) (n6 := ρ 6) (n7 := ρ 7) (n8 := ρ 8) (n9 := ρ 9) (n10 := ρ 10) (n11 := ρ 11) (H0 := η 0) (H1 := η 1) (H2 := η 2) (H3 := η 3) f29 f28 f27 f26 f25 f24 f23 f22 f21 f20 f19 f18 f17 f16 f15 f14 f13 f12 f11 f10 f9 f8 f7 f6 f5 f4 f3 f2 f1 f0
set_option maxHeartbeats 20000000 in
theorem q_233_9 {q0 : Nat} {n0 n1 n2 n3 n4 n5 n6 n7 n8 n9 n10 n11 n12 : Int} {H0 H1 H2 H3 H4 : gH} (f0 : n0 ≤ 1) (f1 : 0 ≤ n0) (f2 : n1 ≤ 1) (f3 : 0 ≤ n1) (f4 : n2 = 285) (f5 : n3 ≤ 1) (f6 : 0 ≤ n3) (f7 : n4 = 285) (f8 : (hLe T0 H0 H1 ∧ hFr s_233.2.2.2.2 H0 H1 ∧ hWt T0 H1) ∧ (Ab_233_2 n4 n3 n2 n1 n0 H0 H1 ∧ preb_233 n4 n3 H0) ∧ some q0 = some (mub_233_2 n4 n3 n2 n1 n0 H0 H1)) (f9 : n5 = 48) (f10 : n6 ≤ 1) (f11 : 0 ≤ n6) (f12 : (hLe T0 H1 H2 ∧ hFr s_216.2.2.2.2 H1 H2 ∧ ((0 : Int) = 0 → H2.length = H1.length) ∧ hWt T0 H2) ∧ postb_216 n6 n2 n5 H1 H2) (f13 : n6 = 0) (f14 : n7 ≤ 1200) (f15 : 0 ≤ n7) (f16 : n7 = hV H2 (n2).toNat 51) (f17 : (hLe T0 H2 H3 ∧ hFr s_236.2.2.2.2 H2 H3 ∧ ((0 : Int) = 0 → H3.length = H2.length) ∧ hWt T0 H3) ∧ postb_236 n2 H2 H3) (f18 : n8 ≤ 2) (f19 : 0 ≤ n8) (f20 : n8 = hV H3 (n2).toNat 13) (f21 : 0 < n8) (f22 : n9 = 0) (f23 : n10 ≤ 2) (f24 : 0 ≤ n10) (f25 : n10 = hV H3 (n2).toNat 13) (f26 : n10 = 0) (f27 : 0 ≤ n9) (f28 : n11 = 3) (f29 : n11 < n9) (f30 : n12 = 1) (f31 : (hLe T0 H3 H4 ∧ hFr s_217.2.2.2.2 H3 H4 ∧ ((0 : Int) = 0 → H4.length = H3.length) ∧ hWt T0 H4) ∧ postb_217 n2 n12 H3 H4) : Ab_233_85 n4 n3 n2 n1 n0 n7 n9 H0 H4 ∧ ∀ q, some q0 = some q → mub_233_85 n4 n3 n2 n1 n0 n7 n9 H0 H4 < q := by
  have g4 := f8.2.1.1
  unfold Ab_233_2 at g4
  have g3 := f8.2.1.2
  unfold preb_233 at g3
  have g5 := Option.some.inj f8.2.2
  unfold mub_233_2 at g5
  unfold postb_216 at f12
  unfold postb_236 at f17
  unfold postb_217 at f31
  unfold Ab_233_85
  unfold mub_233_85
  have e1 : n7 = hV H1 285 51 := (by rw [f4] at f16; exact f16 : n7 = hV H2 285 51).trans ((f12.1.2.1.1 285 51 kF_216_285_51))
  have e2 : n8 = hV H3 285 13 := (by rw [f4] at f20; exact f20 : n8 = hV H3 285 13)
  have e3 : n10 = hV H3 285 13 := (by rw [f4] at f25; exact f25 : n10 = hV H3 285 13)
  have e9 : hV H2 285 11 = hV H1 285 11 := (f12.1.2.1.1 285 11 kF_216_285_11)
  have e11 : hV H2 285 13 = hV H1 285 13 := (f12.1.2.1.1 285 13 kF_216_285_13)
  have e12 : hV H2 285 51 = hV H1 285 51 := (f12.1.2.1.1 285 51 kF_216_285_51)
  have e16 : hV H2 320 = hV H1 320 := fRow f12.1.2.1 320 kR_216_320
  have e17 : hV H2 321 = hV H1 321 := fRow f12.1.2.1 321 kR_216_321
  have e20 : hV H3 285 35 = hV H0 285 35 := ((f17.1.2.1.1 285 35 kF_236_285_35)).trans (((f12.1.2.1.1 285 35 kF_216_285_35)).trans (f8.1.2.1.1 285 35 kF_233_285_35))
  have e22 : hV H4 285 11 = hV H3 285 11 := (f31.1.2.1.1 285 11 kF_217_285_11)
  have e24 : hV H4 285 12 = hV H3 285 12 := (f31.1.2.1.1 285 12 kF_217_285_12)
  have e26 : hV H4 285 35 = hV H0 285 35 := ((f31.1.2.1.1 285 35 kF_217_285_35)).trans (((f17.1.2.1.1 285 35 kF_236_285_35)).trans (((f12.1.2.1.1 285 35 kF_216_285_35)).trans (f8.1.2.1.1 285 35 kF_233_285_35)))
  have e30 : hV H4 285 44 = hV H1 285 44 := ((f31.1.2.1.1 285 44 kF_217_285_44)).trans (((f17.1.2.1.1 285 44 kF_236_285_44)).trans (f12.1.2.1.1 285 44 kF_216_285_44))
  have e32 : hV H4 285 51 = hV H3 285 51 := (f31.1.2.1.1 285 51 kF_217_285_51)
  have e33 : hV H4 320 = hV H3 320 := fRow f31.1.2.1 320 kR_217_320
  have e34 : hV H4 321 = hV H3 321 := fRow f31.1.2.1 321 kR_217_321
  have e35 : RR H4 = RR H3 := RR_fr f31.1.2.1 (by decide +kernel)
  have e36 : (0 : Int) ≤ hV H1 285 11 ∧ hV H1 285 11 ≤ 500 := f8.1.2.2 285 11 _ _ kW_285_11
  have e37 : (0 : Int) ≤ hV H1 285 12 ∧ hV H1 285 12 ≤ 7 := f8.1.2.2 285 12 _ _ kW_285_12
  have e38 : (0 : Int) ≤ hV H1 285 13 ∧ hV H1 285 13 ≤ 2 := f8.1.2.2 285 13 _ _ kW_285_13
  have e39 : (0 : Int) ≤ hV H0 285 34 ∧ hV H0 285 34 ≤ 1 := bTo ((f8.1.2.1.1 285 34 kF_233_285_34)) (f8.1.2.2 285 34 _ _ kW_285_34)
  have e40 : (0 : Int) ≤ hV H0 285 35 ∧ hV H0 285 35 ≤ 1 := bTo ((f8.1.2.1.1 285 35 kF_233_285_35)) (f8.1.2.2 285 35 _ _ kW_285_35)
  have e41 : (0 : Int) ≤ hV H1 285 44 ∧ hV H1 285 44 ≤ 400 := f8.1.2.2 285 44 _ _ kW_285_44
  have e42 : (0 : Int) ≤ hV H1 285 51 ∧ hV H1 285 51 ≤ 1200 := f8.1.2.2 285 51 _ _ kW_285_51
  have e46 : (0 : Int) ≤ hV H3 285 11 ∧ hV H3 285 11 ≤ 500 := f17.1.2.2.2 285 11 _ _ kW_285_11
  have e47 : (0 : Int) ≤ hV H3 285 12 ∧ hV H3 285 12 ≤ 7 := f17.1.2.2.2 285 12 _ _ kW_285_12
  have e48 : (0 : Int) ≤ hV H3 285 13 ∧ hV H3 285 13 ≤ 2 := f17.1.2.2.2 285 13 _ _ kW_285_13
  have e50 : (0 : Int) ≤ hV H3 285 51 ∧ hV H3 285 51 ≤ 1200 := f17.1.2.2.2 285 51 _ _ kW_285_51
  have e53 : (0 : Int) ≤ hV H4 285 13 ∧ hV H4 285 13 ≤ 2 := f31.1.2.2.2 285 13 _ _ kW_285_13
  try simp only [e22, e24, e26, e30, e32, e33, e34, e35]
  have k0 := g4.1
  have y0 := g4.2.1
  have y1 := g4.2.2.1
  have y2 := g4.2.2.2.1
  have y3 := g4.2.2.2.2.1
  have y4 := g4.2.2.2.2.2.1
  have y5 := g4.2.2.2.2.2.2.1
  have y6 := g4.2.2.2.2.2.2.2
  have p0 := g3.1
  have p1 := g3.2.1
  have p2 := g3.2.2.1
  have p3 := g3.2.2.2.1
  have p4 := g3.2.2.2.2.1
  have p5 := g3.2.2.2.2.2.1
  have p6 := g3.2.2.2.2.2.2
  have r0_0 := f12.2.1
  have r1_0 := f17.2.1
  have r1_1 := f17.2.2.1
  have r1_2 := f17.2.2.2.1
  have r1_3 := f17.2.2.2.2.1
  have r1_4 := f17.2.2.2.2.2.1
  have r1_5 := f17.2.2.2.2.2.2.1
  have r1_6 := f17.2.2.2.2.2.2.2.1
  have r1_7 := f17.2.2.2.2.2.2.2.2
  have r2_0 := f31.2.1
  have r2_1 := f31.2.2
  try simp only [e11] at r0_0
  try simp only [e12, e16, e17] at r1_1
  try simp only [e9] at r1_2
  try simp only [e9] at r1_3
  try simp only [e11] at r1_4
  try simp only [e12] at r1_6
  try simp only [e20] at r1_7
  clear g3
  clear g4
  clear f16 f20 f25 e9 e11 e12 e16 e17 e20 e22 e24 e26 e30 e32 e33 e34 e35
  clear f8 f12 f17 f31
  subst e1
  subst e2
  subst e3

  refine ⟨⟨?_, ?_, ?_, ?_, ?_, ?_, ?_, ?_, ?_, ?_, ?_⟩, fun q hq => ?_⟩
  · omega
  · exact r1_0
  · omega
  · omega
  · omega
  · omega
  · omega
  · omega
  · intro z
    exact SC_trans y6 (SC_of (r1_1 (by omega))) (by omega)
  · intro z
    exact CO_end (r1_1 (by omega)) (by omega)
  · first
    | omega
    | (refine ⟨?_, ?_, ?_, ?_⟩ <;> first | exact True.intro | omega)
  · have g6 := Option.some.inj hq
    subst g6
    omega
def g_233_2_8 : vG := ([(1217, [2, 12], [3, 4], 0), (0, [12], [], 1), (44, [9, 11], [], 0), (0, [11], [], 3), (33, [9], [], 0), (30, [10], [], 0), (20, [10, 2], [3], 13), (90, [10], [], 0), (91, [10], [], 2), (0, [9], [], 0), (34, [8], [], 0), (20, [8, 2], [3], 13), (90, [8], [], 0), (91, [8], [], 2), (1236, [2], [2, 3], 0), (20, [7, 2], [2], 51), (90, [7], [], 0), (91, [7], [], 1200), (30, [6], [], 0), (1216, [6, 2, 5], [1, 2], 0), (90, [6], [], 0), (91, [6], [], 1), (0, [5], [], 48), (5000, [0, 1, 2, 3, 4], [0, 1], 2), (0, [0], [], 285), (90, [1], [], 0), (91, [1], [], 1), (0, [2], [], 285), (90, [3], [], 0), (91, [3], [], 1), (90, [4], [], 0), (91, [4], [], 1)], (4000, [2, 3, 4, 7, 9], [4], 85))
theorem c_233_2_8 {q0 : Nat} : vOkm T0 (eP e_233 L_233 A_233 mu_233 (some q0)) 2 g_233_2_8 := vOk_inI fun ρ η f0 f1 f2 f3 f4 f5 f6 f7 f8 f9 f10 f11 f12 f13 f14 f15 f16 f17 f18 f19 f20 f21 f22 f23 f24 f25 f26 f27 f28 f29 f30 f31 => q_233_9 (q0 := q0) (n0 := ρ 4) (n1 := ρ 3) (n2 := ρ 2) (n3 := ρ 1) (n4 := ρ 0) (n5 := ρ 5) (n6 := ρ 6) (n7 := ρ 7) (n8 := ρ 8) (n9 := ρ 9) (n10 := ρ 10) (n11 := ρ 11) (n12 := ρ 12) (H0 := η 0) (H1 := η 1) (H2 := η 2) (H3 := η 3) (H4 := η 4) f31 f30 f29 f28 f27 f26 f25 f24 f23 f22 f21 f20 f19 f18 f17 f16 f15 f14 f13 f12 f11 f10 f9 f8 f7 f6 f5 f4 f3 f2 f1 f0
set_option maxHeartbeats 20000000 in
theorem q_233_10 {q0 : Nat} {n0 n1 n2 n3 n4 n5 n6 n7 : Int} {H0 H1 H2 H3 : gH} (f0 : n0 ≤ 1) (f1 : 0 ≤ n0) (f2 : n1 ≤ 1) (f3 : 0 ≤ n1) (f4 : n2 = 285) (f5 : n3 ≤ 1) (f6 : 0 ≤ n3) (f7 : n4 = 285) (f8 : (hLe T0 H0 H1 ∧ hFr s_233.2.2.2.2 H0 H1 ∧ hWt T0 H1) ∧ (Ab_233_2 n4 n3 n2 n1 n0 H0 H1 ∧ preb_233 n4 n3 H0) ∧ some q0 = some (mub_233_2 n4 n3 n2 n1 n0 H0 H1)) (f9 : n5 = 48) (f10 : n6 ≤ 1) (f11 : 0 ≤ n6) (f12 : (hLe T0 H1 H2 ∧ hFr s_216.2.2.2.2 H1 H2 ∧ ((0 : Int) = 0 → H2.length = H1.length) ∧ hWt T0 H2) ∧ postb_216 n6 n2 n5 H1 H2) (f13 : n6 ≠ 0) (f14 : n0 ≠ 0) (f15 : n7 = 0) (f16 : (hLe T0 H2 H3 ∧ hFr s_219.2.2.2.2 H2 H3 ∧ ((0 : Int) = 0 → H3.length = H2.length) ∧ hWt T0 H3) ∧ postb_219 n2 H2 H3) : Ab_233_2 n4 n3 n2 n1 n7 H0 H3 ∧ ∀ q, some q0 = some q → mub_233_2 n4 n3 n2 n1 n7 H0 H3 < q := by
  have g4 := f8.2.1.1
  unfold Ab_233_2 at g4
  have g3 := f8.2.1.2
  unfold preb_233 at g3
  have g5 := Option.some.inj f8.2.2
  unfold mub_233_2 at g5
  unfold postb_216 at f12
  unfold postb_219 at f16
  unfold Ab_233_2
  unfold mub_233_2
  have e1 : hV H1 285 34 = hV H0 285 34 := (f8.1.2.1.1 285 34 kF_233_285_34)
  have e3 : hV H1 285 35 = hV H0 285 35 := (f8.1.2.1.1 285 35 kF_233_285_35)
  have e5 : hV H2 285 11 = hV H1 285 11 := (f12.1.2.1.1 285 11 kF_216_285_11)
  have e7 : hV H2 285 13 = hV H1 285 13 := (f12.1.2.1.1 285 13 kF_216_285_13)
  have e10 : hV H2 288 = hV H0 288 := (fRow f12.1.2.1 288 kR_216_288).trans (fRow f8.1.2.1 288 kR_233_288)
  have e13 : hV H3 285 12 = hV H1 285 12 := ((f16.1.2.1.1 285 12 kF_219_285_12)).trans (f12.1.2.1.1 285 12 kF_216_285_12)
  have e16 : hV H3 285 44 = hV H1 285 44 := ((f16.1.2.1.1 285 44 kF_219_285_44)).trans (f12.1.2.1.1 285 44 kF_216_285_44)
  have e19 : hV H3 285 51 = hV H1 285 51 := ((f16.1.2.1.1 285 51 kF_219_285_51)).trans (f12.1.2.1.1 285 51 kF_216_285_51)
  have e22 : hV H3 320 = hV H1 320 := (fRow f16.1.2.1 320 kR_219_320).trans (fRow f12.1.2.1 320 kR_216_320)
  have e25 : hV H3 321 = hV H1 321 := (fRow f16.1.2.1 321 kR_219_321).trans (fRow f12.1.2.1 321 kR_216_321)
  have e26 : RR H2 = RR H1 := RR_fr f12.1.2.1 (by decide +kernel)
  have e27 : RR H3 = RR H2 := RR_fr f16.1.2.1 (by decide +kernel)
  have e28 : RR H3 = RR H1 := e27.trans e26
  have e29 : (0 : Int) ≤ hV H1 285 11 ∧ hV H1 285 11 ≤ 500 := f8.1.2.2 285 11 _ _ kW_285_11
  have e30 : (0 : Int) ≤ hV H1 285 12 ∧ hV H1 285 12 ≤ 7 := f8.1.2.2 285 12 _ _ kW_285_12
  have e31 : (0 : Int) ≤ hV H1 285 13 ∧ hV H1 285 13 ≤ 2 := f8.1.2.2 285 13 _ _ kW_285_13
  have e32 : (0 : Int) ≤ hV H0 285 34 ∧ hV H0 285 34 ≤ 1 := bTo e1 (f8.1.2.2 285 34 _ _ kW_285_34)
  have e33 : (0 : Int) ≤ hV H0 285 35 ∧ hV H0 285 35 ≤ 1 := bTo e3 (f8.1.2.2 285 35 _ _ kW_285_35)
  have e34 : (0 : Int) ≤ hV H1 285 44 ∧ hV H1 285 44 ≤ 400 := f8.1.2.2 285 44 _ _ kW_285_44
  have e35 : (0 : Int) ≤ hV H1 285 51 ∧ hV H1 285 51 ≤ 1200 := f8.1.2.2 285 51 _ _ kW_285_51
  have e38 : (0 : Int) ≤ hV H3 285 11 ∧ hV H3 285 11 ≤ 500 := f16.1.2.2.2 285 11 _ _ kW_285_11
  have e40 : (0 : Int) ≤ hV H3 285 13 ∧ hV H3 285 13 ≤ 2 := f16.1.2.2.2 285 13 _ _ kW_285_13
  try simp only [e13, e16, e19, e22, e25, e28]
  have k0 := g4.1
  have y0 := g4.2.1
  have y1 := g4.2.2.1
  have y2 := g4.2.2.2.1
  have y3 := g4.2.2.2.2.1
  have y4 := g4.2.2.2.2.2.1
  have y5 := g4.2.2.2.2.2.2.1
  have y6 := g4.2.2.2.2.2.2.2
  have p0 := g3.1
  have p1 := g3.2.1
  have p2 := g3.2.2.1
  have p3 := g3.2.2.2.1
  have p4 := g3.2.2.2.2.1
  have p5 := g3.2.2.2.2.2.1
  have p6 := g3.2.2.2.2.2.2
  have r0_0 := f12.2.1
  have r0_1 := f12.2.2.resolve_right (fun z => f13 z.1)
  have r1_0 := f16.2.1
  have r1_1 := f16.2.2.1
  have r1_2 := f16.2.2.2.1
  have r1_3 := f16.2.2.2.2
  try simp only [e7] at r0_0
  try simp only [e1, e3, e5, e7, e10] at r0_1
  try simp only [e5] at r1_0
  try simp only [e5] at r1_1
  try simp only [e7] at r1_2
  try simp only [e5] at r1_3
  clear g3
  clear g4
  clear e1 e3 e5 e7 e10 e13 e16 e19 e22 e25 e26 e27 e28
  clear f8 f12 f16

  refine ⟨⟨?_, ?_, ?_, ?_, ?_, ?_, ?_, ?_⟩, fun q hq => ?_⟩
  · omega
  · exact y0
  · omega
  · omega
  · omega
  · omega
  · omega
  · exact y6
  · have g6 := Option.some.inj hq
    subst g6
    omega
def g_233_2_9 : vG := ([(1219, [2], [2, 3], 0), (0, [7], [], 0), (31, [4], [], 0), (31, [6], [], 0), (1216, [6, 2, 5], [1, 2], 0), (90, [6], [], 0), (91, [6], [], 1), (0, [5], [], 48), (5000, [0, 1, 2, 3, 4], [0, 1], 2), (0, [0], [], 285), (90, [1], [], 0), (91, [1], [], 1), (0, [2], [], 285), (90, [3], [], 0), (91, [3], [], 1), (90, [4], [], 0), (91, [4], [], 1)], (4000, [2, 3, 7], [3], 2))
theorem c_233_2_9 {q0 : Nat} : vOkm T0 (eP e_233 L_233 A_233 mu_233 (some q0)) 2 g_233_2_9 := vOk_inI fun ρ η f0 f1 f2 f3 f4 f5 f6 f7 f8 f9 f10 f11 f12 f13 f14 f15 f16 => q_233_10 (q0 := q0) (n0 := ρ 4) (n1 := ρ 3) (n2 := ρ 2) (n3 := ρ 1) (n4 := ρ 0) (n5 := ρ 5) (n6 := ρ 6) (n7 := ρ 7) (H0 := η 0) (H1 := η 1) (H2 := η 2) (H3 := η 3) f16 f15 f14 f13 f12 f11 f10 f9 f8 f7 f6 f5 f4 f3 f2 f1 f0
set_option maxHeartbeats 20000000 in
theorem q_233_11 {q0 : Nat} {n0 n1 n2 n3 n4 n5 n6 n7 : Int} {H0 H1 H2 H3 : gH} (f0 : n0 ≤ 1) (f1 : 0 ≤ n0) (f2 : n1 ≤ 1) (f3 : 0 ≤ n1) (f4 : n2 = 285) (f5 : n3 ≤ 1) (f6 : 0 ≤ n3) (f7 : n4 = 285) (f8 : (hLe T0 H0 H1 ∧ hFr s_233.2.2.2.2 H0 H1 ∧ hWt T0 H1) ∧ (Ab_233_2 n4 n3 n2 n1 n0 H0 H1 ∧ preb_233 n4 n3 H0) ∧ some q0 = some (mub_233_2 n4 n3 n2 n1 n0 H0 H1)) (f9 : n5 = 48) (f10 : n6 ≤ 1) (f11 : 0 ≤ n6) (f12 : (hLe T0 H1 H2 ∧ hFr s_216.2.2.2.2 H1 H2 ∧ ((0 : Int) = 0 → H2.length = H1.length) ∧ hWt T0 H2) ∧ postb_216 n6 n2 n5 H1 H2) (f13 : n6 ≠ 0) (f14 : n0 = 0) (f15 : n7 = 1) (f16 : (hLe T0 H2 H3 ∧ hFr s_219.2.2.2.2 H2 H3 ∧ ((0 : Int) = 0 → H3.length = H2.length) ∧ hWt T0 H3) ∧ postb_219 n2 H2 H3) : Ab_233_2 n4 n3 n2 n1 n7 H0 H3 ∧ ∀ q, some q0 = some q → mub_233_2 n4 n3 n2 n1 n7 H0 H3 < q := by
  have g4 := f8.2.1.1
  unfold Ab_233_2 at g4
  have g3 := f8.2.1.2
  unfold preb_233 at g3
  have g5 := Option.some.inj f8.2.2
  unfold mub_233_2 at g5
  unfold postb_216 at f12
  unfold postb_219 at f16
  unfold Ab_233_2
  unfold mub_233_2
  have e1 : hV H1 285 34 = hV H0 285 34 := (f8.1.2.1.1 285 34 kF_233_285_34)
  have e3 : hV H1 285 35 = hV H0 285 35 := (f8.1.2.1.1 285 35 kF_233_285_35)
  have e5 : hV H2 285 11 = hV H1 285 11 := (f12.1.2.1.1 285 11 kF_216_285_11)
  have e7 : hV H2 285 13 = hV H1 285 13 := (f12.1.2.1.1 285 13 kF_216_285_13)
  have e10 : hV H2 288 = hV H0 288 := (fRow f12.1.2.1 288 kR_216_288).trans (fRow f8.1.2.1 288 kR_233_288)
  have e13 : hV H3 285 12 = hV H1 285 12 := ((f16.1.2.1.1 285 12 kF_219_285_12)).trans (f12.1.2.1.1 285 12 kF_216_285_12)
  have e16 : hV H3 285 44 = hV H1 285 44 := ((f16.1.2.1.1 285 44 kF_219_285_44)).trans (f12.1.2.1.1 285 44 kF_216_285_44)
  have e19 : hV H3 285 51 = hV H1 285 51 := ((f16.1.2.1.1 285 51 kF_219_285_51)).trans (f12.1.2.1.1 285 51 kF_216_285_51)
  have e22 : hV H3 320 = hV H1 320 := (fRow f16.1.2.1 320 kR_219_320).trans (fRow f12.1.2.1 320 kR_216_320)
  have e25 : hV H3 321 = hV H1 321 := (fRow f16.1.2.1 321 kR_219_321).trans (fRow f12.1.2.1 321 kR_216_321)
  have e26 : RR H2 = RR H1 := RR_fr f12.1.2.1 (by decide +kernel)
  have e27 : RR H3 = RR H2 := RR_fr f16.1.2.1 (by decide +kernel)
  have e28 : RR H3 = RR H1 := e27.trans e26
  have e29 : (0 : Int) ≤ hV H1 285 11 ∧ hV H1 285 11 ≤ 500 := f8.1.2.2 285 11 _ _ kW_285_11
  have e30 : (0 : Int) ≤ hV H1 285 12 ∧ hV H1 285 12 ≤ 7 := f8.1.2.2 285 12 _ _ kW_285_12
  have e31 : (0 : Int) ≤ hV H1 285 13 ∧ hV H1 285 13 ≤ 2 := f8.1.2.2 285 13 _ _ kW_285_13
  have e32 : (0 : Int) ≤ hV H0 285 34 ∧ hV H0 285 34 ≤ 1 := bTo e1 (f8.1.2.2 285 34 _ _ kW_285_34)
  have e33 : (0 : Int) ≤ hV H0 285 35 ∧ hV H0 285 35 ≤ 1 := bTo e3 (f8.1.2.2 285 35 _ _ kW_285_35)
  have e34 : (0 : Int) ≤ hV H1 285 44 ∧ hV H1 285 44 ≤ 400 := f8.1.2.2 285 44 _ _ kW_285_44
  have e35 : (0 : Int) ≤ hV H1 285 51 ∧ hV H1 285 51 ≤ 1200 := f8.1.2.2 285 51 _ _ kW_285_51
  have e38 : (0 : Int) ≤ hV H3 285 11 ∧ hV H3 285 11 ≤ 500 := f16.1.2.2.2 285 11 _ _ kW_285_11
  have e40 : (0 : Int) ≤ hV H3 285 13 ∧ hV H3 285 13 ≤ 2 := f16.1.2.2.2 285 13 _ _ kW_285_13
  try simp only [e13, e16, e19, e22, e25, e28]
  have k0 := g4.1
  have y0 := g4.2.1
  have y1 := g4.2.2.1
  have y2 := g4.2.2.2.1
  have y3 := g4.2.2.2.2.1
  have y4 := g4.2.2.2.2.2.1
  have y5 := g4.2.2.2.2.2.2.1
  have y6 := g4.2.2.2.2.2.2.2
  have p0 := g3.1
  have p1 := g3.2.1
  have p2 := g3.2.2.1
  have p3 := g3.2.2.2.1
  have p4 := g3.2.2.2.2.1
  have p5 := g3.2.2.2.2.2.1
  have p6 := g3.2.2.2.2.2.2
  have r0_0 := f12.2.1
  have r0_1 := f12.2.2.resolve_right (fun z => f13 z.1)
  have r1_0 := f16.2.1
  have r1_1 := f16.2.2.1
  have r1_2 := f16.2.2.2.1
  have r1_3 := f16.2.2.2.2
  try simp only [e7] at r0_0
  try simp only [e1, e3, e5, e7, e10] at r0_1
  try simp only [e5] at r1_0
  try simp only [e5] at r1_1
  try simp only [e7] at r1_2
  try simp only [e5] at r1_3
  clear g3
  clear g4
  clear e1 e3 e5 e7 e10 e13 e16 e19 e22 e25 e26 e27 e28
  clear f8 f12 f16

  refine ⟨⟨?_, ?_, ?_, ?_, ?_, ?_, ?_, ?_⟩, fun q hq => ?_⟩
  · omega
  · exact y0
  · omega
  · omega
  · omega
  · omega
  · omega
  · exact y6
  · have g6 := Option.some.inj hq
    subst g6
    omega
def g_233_2_10 : vG := ([(1219, [2], [2, 3], 0), (0, [7], [], 1), (30, [4], [], 0), (31, [6], [], 0), (1216, [6, 2, 5], [1, 2], 0), (90, [6], [], 0), (91, [6], [], 1), (0, [5], [], 48), (5000, [0, 1, 2, 3, 4], [0, 1], 2), (0, [0], [], 285), (90, [1], [], 0), (91, [1], [], 1), (0, [2], [], 285), (90, [3], [], 0), (91, [3], [], 1), (90, [4], [], 0), (91, [4], [], 1)], (4000, [2, 3, 7], [3], 2))
theorem c_233_2_10 {q0 : Nat} : vOkm T0 (eP e_233 L_233 A_233 mu_233 (some q0)) 2 g_233_2_10 := vOk_inI fun ρ η f0 f1 f2 f3 f4 f5 f6 f7 f8 f9 f10 f11 f12 f13 f14 f15 f16 => q_233_11 (q0 := q0) (n0 := ρ 4) (n1 := ρ 3) (n2 := ρ 2) (n3 := ρ 1) (n4 := ρ 0) (n5 := ρ 5) (n6 := ρ 6) (n7 := ρ 7) (H0 := η 0) (H1 := η 1) (H2 := η 2) (H3 := η 3) f16 f15 f14 f13 f12 f11 f10 f9 f8 f7 f6 f5 f4 f3 f2 f1 f0
def p_233_2 : List vG := [g_233_2_0,
  g_233_2_1,
  g_233_2_2,
  g_233_2_3,
  g_233_2_4,
  g_233_2_5,
  g_233_2_6,
  g_233_2_7,
  g_233_2_8,
  g_233_2_9,
  g_233_2_10]
theorem r_233_2 : vCovO false (eRc e_233 L_233 cs_233 2000 (2, [(0, (3, 12, 285, 0)), (1, (0, 0, 1, 0)), (2, (0, 0, 1, 0))])) p_233_2 = true := by decide +kernel
set_option maxHeartbeats 20000000 in
theorem q_233_12 {q0 : Nat} {n0 n1 n2 n3 n4 n5 n6 n7 : Int} {H0 H1 H2 : gH} (f0 : n0 ≤ 2147483647) (f1 : (-2147483648) ≤ n0) (f2 : n1 ≤ 1200) (f3 : 0 ≤ n1) (f4 : n2 ≤ 1) (f5 : 0 ≤ n2) (f6 : n3 ≤ 1) (f7 : 0 ≤ n3) (f8 : n4 = 285) (f9 : n5 ≤ 1) (f10 : 0 ≤ n5) (f11 : n6 = 285) (f12 : (hLe T0 H0 H1 ∧ hFr s_233.2.2.2.2 H0 H1 ∧ hWt T0 H1) ∧ (Ab_233_85 n6 n5 n4 n3 n2 n1 n0 H0 H1 ∧ preb_233 n6 n5 H0) ∧ some q0 = some (mub_233_85 n6 n5 n4 n3 n2 n1 n0 H0 H1)) (f13 : (hLe T0 H1 H2 ∧ hFr s_219.2.2.2.2 H1 H2 ∧ ((0 : Int) = 0 → H2.length = H1.length) ∧ hWt T0 H2) ∧ postb_219 n4 H1 H2) (f14 : n7 ≤ 1200) (f15 : 0 ≤ n7) (f16 : n7 = hV H2 (n4).toNat 51) : preb_236 n4 H2 := by
  have g4 := f12.2.1.1
  unfold Ab_233_85 at g4
  have g3 := f12.2.1.2
  unfold preb_233 at g3
  unfold postb_219 at f13
  unfold preb_236
  have e1 : n7 = hV H1 285 51 := (by rw [f8] at f16; exact f16 : n7 = hV H2 285 51).trans ((f13.1.2.1.1 285 51 kF_219_285_51))
  have e5 : hV H1 285 35 = hV H0 285 35 := (f12.1.2.1.1 285 35 kF_233_285_35)
  have e7 : hV H2 285 12 = hV H1 285 12 := (f13.1.2.1.1 285 12 kF_219_285_12)
  have e9 : hV H2 285 34 = hV H0 285 34 := ((f13.1.2.1.1 285 34 kF_219_285_34)).trans (f12.1.2.1.1 285 34 kF_233_285_34)
  have e11 : hV H2 285 35 = hV H0 285 35 := ((f13.1.2.1.1 285 35 kF_219_285_35)).trans (f12.1.2.1.1 285 35 kF_233_285_35)
  have e12 : hV H2 285 51 = hV H1 285 51 := (f13.1.2.1.1 285 51 kF_219_285_51)
  have e13 : RR H2 = RR H1 := RR_fr f13.1.2.1 (by decide +kernel)
  have e14 : (0 : Int) ≤ hV H1 285 11 ∧ hV H1 285 11 ≤ 500 := f12.1.2.2 285 11 _ _ kW_285_11
  have e15 : (0 : Int) ≤ hV H1 285 12 ∧ hV H1 285 12 ≤ 7 := f12.1.2.2 285 12 _ _ kW_285_12
  have e16 : (0 : Int) ≤ hV H1 285 13 ∧ hV H1 285 13 ≤ 2 := f12.1.2.2 285 13 _ _ kW_285_13
  have e17 : (0 : Int) ≤ hV H0 285 34 ∧ hV H0 285 34 ≤ 1 := bTo ((f12.1.2.1.1 285 34 kF_233_285_34)) (f12.1.2.2 285 34 _ _ kW_285_34)
  have e18 : (0 : Int) ≤ hV H0 285 35 ∧ hV H0 285 35 ≤ 1 := bTo e5 (f12.1.2.2 285 35 _ _ kW_285_35)
  have e19 : (0 : Int) ≤ hV H1 285 44 ∧ hV H1 285 44 ≤ 400 := f12.1.2.2 285 44 _ _ kW_285_44
  have e20 : (0 : Int) ≤ hV H1 285 51 ∧ hV H1 285 51 ≤ 1200 := f12.1.2.2 285 51 _ _ kW_285_51
  have e21 : (0 : Int) ≤ hV H2 285 11 ∧ hV H2 285 11 ≤ 500 := f13.1.2.2.2 285 11 _ _ kW_285_11
  have e23 : (0 : Int) ≤ hV H2 285 13 ∧ hV H2 285 13 ≤ 2 := f13.1.2.2.2 285 13 _ _ kW_285_13
  try simp only [e7, e9, e11, e12, e13]
  have k0 := g4.1
  have y0 := g4.2.1
  have y1 := g4.2.2.1
  have y2 := g4.2.2.2.1
  have y3 := g4.2.2.2.2.1
  have y4 := g4.2.2.2.2.2.1
  have y5 := g4.2.2.2.2.2.2.1
  have y6 := g4.2.2.2.2.2.2.2.1
  have y7 := g4.2.2.2.2.2.2.2.2.1
  have y8 := g4.2.2.2.2.2.2.2.2.2.1
  have y9 := g4.2.2.2.2.2.2.2.2.2.2.1
  have y10 := g4.2.2.2.2.2.2.2.2.2.2.2.1
  have y11 := g4.2.2.2.2.2.2.2.2.2.2.2.2.1
  have y12 := g4.2.2.2.2.2.2.2.2.2.2.2.2.2
  have p0 := g3.1
  have p1 := g3.2.1
  have p2 := g3.2.2.1
  have p3 := g3.2.2.2.1
  have p4 := g3.2.2.2.2.1
  have p5 := g3.2.2.2.2.2.1
  have p6 := g3.2.2.2.2.2.2
  have r0_0 := f13.2.1
  have r0_1 := f13.2.2.1
  have r0_2 := f13.2.2.2.1
  have r0_3 := f13.2.2.2.2
  try simp only [e5] at y6
  clear g3
  clear g4
  clear f16 e5 e7 e9 e11 e12 e13
  clear f12 f13
  subst e1
  try subst k0
  refine ⟨?_, ?_, ?_, ?_, ?_⟩ <;> first | assumption | omega | trivial
def g_233_85_0 : vG := ([(20, [7, 2], [2], 51), (90, [7], [], 0), (91, [7], [], 1200), (1219, [2], [1, 2], 0), (5000, [0, 1, 2, 3, 4, 5, 6], [0, 1], 85), (0, [0], [], 285), (90, [1], [], 0), (91, [1], [], 1), (0, [2], [], 285), (90, [3], [], 0), (91, [3], [], 1), (90, [4], [], 0), (91, [4], [], 1), (90, [5], [], 0), (91, [5], [], 1200), (90, [6], [], -2147483648), (91, [6], [], 2147483647)], (2236, [2], [2], 0))
theorem c_233_85_0 {q0 : Nat} : vOkm T0 (eP e_233 L_233 A_233 mu_233 (some q0)) 2 g_233_85_0 := vOk_inI fun ρ η f0 f1 f2 f3 f4 f5 f6 f7 f8 f9 f10 f11 f12 f13 f14 f15 f16 => q_233_12 (q0 := q0) (n0 := ρ 6) (n1 := ρ 5) (n2 := ρ 4) (n3 := ρ 3) (n4 := ρ 2) (n5 := ρ 1) (n6 := ρ 0) (n7 := ρ 7) (H0 := η 0) (H1 := η 1) (H2 := η 2) f16 f15 f14 f13 f12 f11 f10 f9 f8 f7 f6 f5 f4 f3 f2 f1 f0
set_option maxHeartbeats 20000000 in
theorem q_233_13 {q0 : Nat} {n0 n1 n2 n3 n4 n5 n6 n7 n8 n9 : Int} {H0 H1 H2 H3 : gH} (f0 : n0 ≤ 2147483647) (f1 : (-2147483648) ≤ n0) (f2 : n1 ≤ 1200) (f3 : 0 ≤ n1) (f4 : n2 ≤ 1) (f5 : 0 ≤ n2) (f6 : n3 ≤ 1) (f7 : 0 ≤ n3) (f8 : n4 = 285) (f9 : n5 ≤ 1) (f10 : 0 ≤ n5) (f11 : n6 = 285) (f12 : (hLe T0 H0 H1 ∧ hFr s_233.2.2.2.2 H0 H1 ∧ hWt T0 H1) ∧ (Ab_233_85 n6 n5 n4 n3 n2 n1 n0 H0 H1 ∧ preb_233 n6 n5 H0) ∧ some q0 = some (mub_233_85 n6 n5 n4 n3 n2 n1 n0 H0 H1)) (f13 : (hLe T0 H1 H2 ∧ hFr s_219.2.2.2.2 H1 H2 ∧ ((0 : Int) = 0 → H2.length = H1.length) ∧ hWt T0 H2) ∧ postb_219 n4 H1 H2) (f14 : n7 ≤ 1200) (f15 : 0 ≤ n7) (f16 : n7 = hV H2 (n4).toNat 51) (f17 : (hLe T0 H2 H3 ∧ hFr s_236.2.2.2.2 H2 H3 ∧ ((0 : Int) = 0 → H3.length = H2.length) ∧ hWt T0 H3) ∧ postb_236 n4 H2 H3) (f18 : n8 ≤ 2) (f19 : 0 ≤ n8) (f20 : n8 = hV H3 (n4).toNat 13) (f21 : n8 ≤ 0) (f22 : n9 ≤ 400) (f23 : 0 ≤ n9) (f24 : n9 = hV H3 (n4).toNat 44) : 0 ≤ n9 ∧ n9 < 400 := by
  have g4 := f12.2.1.1
  unfold Ab_233_85 at g4
  have g3 := f12.2.1.2
  unfold preb_233 at g3
  unfold postb_219 at f13
  unfold postb_236 at f17
  have e1 : n7 = hV H1 285 51 := (by rw [f8] at f16; exact f16 : n7 = hV H2 285 51).trans ((f13.1.2.1.1 285 51 kF_219_285_51))
  have e2 : n8 = hV H3 285 13 := (by rw [f8] at f20; exact f20 : n8 = hV H3 285 13)
  have e5 : n9 = hV H1 285 44 := (by rw [f8] at f24; exact f24 : n9 = hV H3 285 44).trans (((f17.1.2.1.1 285 44 kF_236_285_44)).trans (f13.1.2.1.1 285 44 kF_219_285_44))
  have e9 : hV H1 285 35 = hV H0 285 35 := (f12.1.2.1.1 285 35 kF_233_285_35)
  have e10 : hV H2 285 51 = hV H1 285 51 := (f13.1.2.1.1 285 51 kF_219_285_51)
  have e11 : hV H2 320 = hV H1 320 := fRow f13.1.2.1 320 kR_219_320
  have e12 : hV H2 321 = hV H1 321 := fRow f13.1.2.1 321 kR_219_321
  have e15 : hV H3 285 35 = hV H0 285 35 := ((f17.1.2.1.1 285 35 kF_236_285_35)).trans (((f13.1.2.1.1 285 35 kF_219_285_35)).trans (f12.1.2.1.1 285 35 kF_233_285_35))
  have e16 : (0 : Int) ≤ hV H1 285 11 ∧ hV H1 285 11 ≤ 500 := f12.1.2.2 285 11 _ _ kW_285_11
  have e17 : (0 : Int) ≤ hV H1 285 12 ∧ hV H1 285 12 ≤ 7 := f12.1.2.2 285 12 _ _ kW_285_12
  have e18 : (0 : Int) ≤ hV H1 285 13 ∧ hV H1 285 13 ≤ 2 := f12.1.2.2 285 13 _ _ kW_285_13
  have e19 : (0 : Int) ≤ hV H0 285 34 ∧ hV H0 285 34 ≤ 1 := bTo ((f12.1.2.1.1 285 34 kF_233_285_34)) (f12.1.2.2 285 34 _ _ kW_285_34)
  have e20 : (0 : Int) ≤ hV H0 285 35 ∧ hV H0 285 35 ≤ 1 := bTo e9 (f12.1.2.2 285 35 _ _ kW_285_35)
  have e21 : (0 : Int) ≤ hV H1 285 44 ∧ hV H1 285 44 ≤ 400 := f12.1.2.2 285 44 _ _ kW_285_44
  have e22 : (0 : Int) ≤ hV H1 285 51 ∧ hV H1 285 51 ≤ 1200 := f12.1.2.2 285 51 _ _ kW_285_51
  have e23 : (0 : Int) ≤ hV H2 285 11 ∧ hV H2 285 11 ≤ 500 := f13.1.2.2.2 285 11 _ _ kW_285_11
  have e24 : (0 : Int) ≤ hV H2 285 13 ∧ hV H2 285 13 ≤ 2 := f13.1.2.2.2 285 13 _ _ kW_285_13
  have e26 : (0 : Int) ≤ hV H3 285 11 ∧ hV H3 285 11 ≤ 500 := f17.1.2.2.2 285 11 _ _ kW_285_11
  have e27 : (0 : Int) ≤ hV H3 285 12 ∧ hV H3 285 12 ≤ 7 := f17.1.2.2.2 285 12 _ _ kW_285_12
  have e28 : (0 : Int) ≤ hV H3 285 13 ∧ hV H3 285 13 ≤ 2 := f17.1.2.2.2 285 13 _ _ kW_285_13
  have e30 : (0 : Int) ≤ hV H3 285 51 ∧ hV H3 285 51 ≤ 1200 := f17.1.2.2.2 285 51 _ _ kW_285_51
  have k0 := g4.1
  have y0 := g4.2.1
  have y1 := g4.2.2.1
  have y2 := g4.2.2.2.1
  have y3 := g4.2.2.2.2.1
  have y4 := g4.2.2.2.2.2.1
  have y5 := g4.2.2.2.2.2.2.1
  have y6 := g4.2.2.2.2.2.2.2.1
  have y7 := g4.2.2.2.2.2.2.2.2.1
  have y8 := g4.2.2.2.2.2.2.2.2.2.1
  have y9 := g4.2.2.2.2.2.2.2.2.2.2.1
  have y10 := g4.2.2.2.2.2.2.2.2.2.2.2.1
  have y11 := g4.2.2.2.2.2.2.2.2.2.2.2.2.1
  have y12 := g4.2.2.2.2.2.2.2.2.2.2.2.2.2
  have p0 := g3.1
  have p1 := g3.2.1
  have p2 := g3.2.2.1
  have p3 := g3.2.2.2.1
  have p4 := g3.2.2.2.2.1
  have p5 := g3.2.2.2.2.2.1
  have p6 := g3.2.2.2.2.2.2
  have r0_0 := f13.2.1
  have r0_1 := f13.2.2.1
  have r0_2 := f13.2.2.2.1
  have r0_3 := f13.2.2.2.2
  have r1_0 := f17.2.1
  have r1_1 := f17.2.2.1
  have r1_2 := f17.2.2.2.1
  have r1_3 := f17.2.2.2.2.1
  have r1_4 := f17.2.2.2.2.2.1
  have r1_5 := f17.2.2.2.2.2.2.1
  have r1_6 := f17.2.2.2.2.2.2.2.1
  have r1_7 := f17.2.2.2.2.2.2.2.2
  try simp only [e9] at y6
  try simp only [e10, e11, e12] at r1_1
  try simp only [e10] at r1_6
  try simp only [e15] at r1_7
  clear g3
  clear g4
  clear f16 f20 f24 e9 e10 e11 e12 e15
  clear f12 f13 f17
  subst e1
  subst e2
  subst e5
  try subst k0
  omega
def g_233_85_1 : vG := ([(20, [10, 2], [3], 44), (90, [10], [], 0), (91, [10], [], 400), (35, [8], [], 0), (20, [8, 2], [3], 13), (90, [8], [], 0), (91, [8], [], 2), (1236, [2], [2, 3], 0), (20, [7, 2], [2], 51), (90, [7], [], 0), (91, [7], [], 1200), (1219, [2], [1, 2], 0), (5000, [0, 1, 2, 3, 4, 5, 6], [0, 1], 85), (0, [0], [], 285), (90, [1], [], 0), (91, [1], [], 1), (0, [2], [], 285), (90, [3], [], 0), (91, [3], [], 1), (90, [4], [], 0), (91, [4], [], 1), (90, [5], [], 0), (91, [5], [], 1200), (90, [6], [], -2147483648), (91, [6], [], 2147483647)], (70, [10], [], 400))
theorem c_233_85_1 {q0 : Nat} : vOkm T0 (eP e_233 L_233 A_233 mu_233 (some q0)) 2 g_233_85_1 := vOk_inI fun ρ η f0 f1 f2 f3 f4 f5 f6 f7 f8 f9 f10 f11 f12 f13 f14 f15 f16 f17 f18 f19 f20 f21 f22 f23 f24 => q_233_13 (q0 := q0) (n0 := ρ 6) (n1 := ρ 5) (n2 := ρ 4) (n3 := ρ 3) (n4 := ρ 2) (n5 := ρ 1) (n6 := ρ 0) (n7 := ρ 7) (n8 := ρ 8) (n9 := ρ 10) (H0 := η 0) (H1 := η 1) (H2 := η 2) (H3 := η 3) f24 f23 f22 f21 f20 f19 f18 f17 f16 f15 f14 f13 f12 f11 f10 f9 f8 f7 f6 f5 f4 f3 f2 f1 f0
set_option maxHeartbeats 20000000 in
theorem q_233_14 {q0 : Nat} {n0 n1 n2 n3 n4 n5 n6 n7 : Int} {H0 H1 H2 H3 : gH} (f0 : n0 = 285) (f1 : n1 = 285) (f2 : (hLe T0 H0 H1 ∧ hFr s_233.2.2.2.2 H0 H1 ∧ hWt T0 H1) ∧ (Ab_233_85 n1 n2 n0 n3 n4 n5 n6 H0 H1 ∧ preb_233 n1 n2 H0) ∧ some q0 = some (mub_233_85 n1 n2 n0 n3 n4 n5 n6 H0 H1)) (f3 : (hLe T0 H1 H2 ∧ hFr s_219.2.2.2.2 H1 H2 ∧ ((0 : Int) = 0 → H2.length = H1.length) ∧ hWt T0 H2) ∧ postb_219 n0 H1 H2) (f4 : (hLe T0 H2 H3 ∧ hFr s_236.2.2.2.2 H2 H3 ∧ ((0 : Int) = 0 → H3.length = H2.length) ∧ hWt T0 H3) ∧ postb_236 n0 H2 H3) (f5 : n7 = hV H3 (n0).toNat 13) (f6 : n7 ≤ 0) : 0 ≤ n6 := by
  have g4 := f2.2.1.1
  unfold Ab_233_85 at g4
  have g3 := f2.2.1.2
  unfold preb_233 at g3
  unfold postb_219 at f3
  unfold postb_236 at f4
  have e0 : n7 = hV H3 285 13 := (by rw [f0] at f5; exact f5 : n7 = hV H3 285 13)
  have e4 : hV H1 285 35 = hV H0 285 35 := (f2.1.2.1.1 285 35 kF_233_285_35)
  have e6 : hV H2 285 51 = hV H1 285 51 := (f3.1.2.1.1 285 51 kF_219_285_51)
  have e7 : hV H2 320 = hV H1 320 := fRow f3.1.2.1 320 kR_219_320
  have e8 : hV H2 321 = hV H1 321 := fRow f3.1.2.1 321 kR_219_321
  have e11 : hV H3 285 35 = hV H0 285 35 := ((f4.1.2.1.1 285 35 kF_236_285_35)).trans (((f3.1.2.1.1 285 35 kF_219_285_35)).trans (f2.1.2.1.1 285 35 kF_233_285_35))
  have e12 : (0 : Int) ≤ hV H1 285 11 ∧ hV H1 285 11 ≤ 500 := f2.1.2.2 285 11 _ _ kW_285_11
  have e13 : (0 : Int) ≤ hV H1 285 12 ∧ hV H1 285 12 ≤ 7 := f2.1.2.2 285 12 _ _ kW_285_12
  have e14 : (0 : Int) ≤ hV H1 285 13 ∧ hV H1 285 13 ≤ 2 := f2.1.2.2 285 13 _ _ kW_285_13
  have e15 : (0 : Int) ≤ hV H0 285 34 ∧ hV H0 285 34 ≤ 1 := bTo ((f2.1.2.1.1 285 34 kF_233_285_34)) (f2.1.2.2 285 34 _ _ kW_285_34)
  have e16 : (0 : Int) ≤ hV H0 285 35 ∧ hV H0 285 35 ≤ 1 := bTo e4 (f2.1.2.2 285 35 _ _ kW_285_35)
  have e17 : (0 : Int) ≤ hV H1 285 44 ∧ hV H1 285 44 ≤ 400 := f2.1.2.2 285 44 _ _ kW_285_44
  have e18 : (0 : Int) ≤ hV H1 285 51 ∧ hV H1 285 51 ≤ 1200 := f2.1.2.2 285 51 _ _ kW_285_51
  have e19 : (0 : Int) ≤ hV H2 285 11 ∧ hV H2 285 11 ≤ 500 := f3.1.2.2.2 285 11 _ _ kW_285_11
  have e20 : (0 : Int) ≤ hV H2 285 13 ∧ hV H2 285 13 ≤ 2 := f3.1.2.2.2 285 13 _ _ kW_285_13
  have e22 : (0 : Int) ≤ hV H3 285 11 ∧ hV H3 285 11 ≤ 500 := f4.1.2.2.2 285 11 _ _ kW_285_11
  have e23 : (0 : Int) ≤ hV H3 285 12 ∧ hV H3 285 12 ≤ 7 := f4.1.2.2.2 285 12 _ _ kW_285_12
  have e24 : (0 : Int) ≤ hV H3 285 13 ∧ hV H3 285 13 ≤ 2 := f4.1.2.2.2 285 13 _ _ kW_285_13
  have e26 : (0 : Int) ≤ hV H3 285 51 ∧ hV H3 285 51 ≤ 1200 := f4.1.2.2.2 285 51 _ _ kW_285_51
  have k0 := g4.1
  have y0 := g4.2.1
  have y1 := g4.2.2.1
  have y2 := g4.2.2.2.1
  have y3 := g4.2.2.2.2.1
  have y4 := g4.2.2.2.2.2.1
  have y5 := g4.2.2.2.2.2.2.1
  have y6 := g4.2.2.2.2.2.2.2.1
  have y7 := g4.2.2.2.2.2.2.2.2.1
  have y8 := g4.2.2.2.2.2.2.2.2.2.1
  have y9 := g4.2.2.2.2.2.2.2.2.2.2.1
  have y10 := g4.2.2.2.2.2.2.2.2.2.2.2.1
  have y11 := g4.2.2.2.2.2.2.2.2.2.2.2.2.1
  have y12 := g4.2.2.2.2.2.2.2.2.2.2.2.2.2
  have p0 := g3.1
  have p1 := g3.2.1
  have p2 := g3.2.2.1
  have p3 := g3.2.2.2.1
  have p4 := g3.2.2.2.2.1
  have p5 := g3.2.2.2.2.2.1
  have p6 := g3.2.2.2.2.2.2
  have r0_0 := f3.2.1
  have r0_1 := f3.2.2.1
  have r0_2 := f3.2.2.2.1
  have r0_3 := f3.2.2.2.2
  have r1_0 := f4.2.1
  have r1_1 := f4.2.2.1
  have r1_2 := f4.2.2.2.1
  have r1_3 := f4.2.2.2.2.1
  have r1_4 := f4.2.2.2.2.2.1
  have r1_5 := f4.2.2.2.2.2.2.1
  have r1_6 := f4.2.2.2.2.2.2.2.1
  have r1_7 := f4.2.2.2.2.2.2.2.2
  try simp only [e4] at y6
  try simp only [e6, e7, e8] at r1_1
  try simp only [e6] at r1_6
  try simp only [e11] at r1_7
  clear g3
  clear g4
  clear f5 e4 e6 e7 e8 e11
  clear f2 f3 f4
  subst e0
  try subst k0
  omega
def g_233_85_2 : vG := ([(35, [8], [], 0), (20, [8, 2], [3], 13), (1236, [2], [2, 3], 0), (1219, [2], [1, 2], 0), (5000, [0, 1, 2, 3, 4, 5, 6], [0, 1], 85), (0, [0], [], 285), (0, [2], [], 285)], (90, [6], [], 0))
theorem c_233_85_2 {q0 : Nat} : vOkm T0 (eP e_233 L_233 A_233 mu_233 (some q0)) 2 g_233_85_2 := vOk_inI fun ρ η f0 f1 f2 f3 f4 f5 f6 => q_233_14 (q0 := q0) (n0 := ρ 2) (n1 := ρ 0) (n2 := ρ 1) (n3 := ρ 3) (n4 := ρ 4) (n5 := ρ 5) (n6 := ρ 6) (n7 := ρ 8) (H0 := η 0) (H1 := η 1) (H2 := η 2) (H3 := η 3) f6 f5 f4 f3 f2 f1 f0
set_option maxHeartbeats 20000000 in
theorem q_233_15 {q0 : Nat} {n0 n1 n2 n3 n4 n5 n6 n7 : Int} {H0 H1 H2 H3 : gH} (f0 : n0 = 285) (f1 : n1 = 285) (f2 : (hLe T0 H0 H1 ∧ hFr s_233.2.2.2.2 H0 H1 ∧ hWt T0 H1) ∧ (Ab_233_85 n1 n2 n0 n3 n4 n5 n6 H0 H1 ∧ preb_233 n1 n2 H0) ∧ some q0 = some (mub_233_85 n1 n2 n0 n3 n4 n5 n6 H0 H1)) (f3 : (hLe T0 H1 H2 ∧ hFr s_219.2.2.2.2 H1 H2 ∧ ((0 : Int) = 0 → H2.length = H1.length) ∧ hWt T0 H2) ∧ postb_219 n0 H1 H2) (f4 : (hLe T0 H2 H3 ∧ hFr s_236.2.2.2.2 H2 H3 ∧ ((0 : Int) = 0 → H3.length = H2.length) ∧ hWt T0 H3) ∧ postb_236 n0 H2 H3) (f5 : n7 = hV H3 (n0).toNat 13) (f6 : n7 ≤ 0) : n6 ≤ 3 := by
  have g4 := f2.2.1.1
  unfold Ab_233_85 at g4
  have g3 := f2.2.1.2
  unfold preb_233 at g3
  unfold postb_219 at f3
  unfold postb_236 at f4
  have e0 : n7 = hV H3 285 13 := (by rw [f0] at f5; exact f5 : n7 = hV H3 285 13)
  have e4 : hV H1 285 35 = hV H0 285 35 := (f2.1.2.1.1 285 35 kF_233_285_35)
  have e6 : hV H2 285 51 = hV H1 285 51 := (f3.1.2.1.1 285 51 kF_219_285_51)
  have e7 : hV H2 320 = hV H1 320 := fRow f3.1.2.1 320 kR_219_320
  have e8 : hV H2 321 = hV H1 321 := fRow f3.1.2.1 321 kR_219_321
  have e11 : hV H3 285 35 = hV H0 285 35 := ((f4.1.2.1.1 285 35 kF_236_285_35)).trans (((f3.1.2.1.1 285 35 kF_219_285_35)).trans (f2.1.2.1.1 285 35 kF_233_285_35))
  have e12 : (0 : Int) ≤ hV H1 285 11 ∧ hV H1 285 11 ≤ 500 := f2.1.2.2 285 11 _ _ kW_285_11
  have e13 : (0 : Int) ≤ hV H1 285 12 ∧ hV H1 285 12 ≤ 7 := f2.1.2.2 285 12 _ _ kW_285_12
  have e14 : (0 : Int) ≤ hV H1 285 13 ∧ hV H1 285 13 ≤ 2 := f2.1.2.2 285 13 _ _ kW_285_13
  have e15 : (0 : Int) ≤ hV H0 285 34 ∧ hV H0 285 34 ≤ 1 := bTo ((f2.1.2.1.1 285 34 kF_233_285_34)) (f2.1.2.2 285 34 _ _ kW_285_34)
  have e16 : (0 : Int) ≤ hV H0 285 35 ∧ hV H0 285 35 ≤ 1 := bTo e4 (f2.1.2.2 285 35 _ _ kW_285_35)
  have e17 : (0 : Int) ≤ hV H1 285 44 ∧ hV H1 285 44 ≤ 400 := f2.1.2.2 285 44 _ _ kW_285_44
  have e18 : (0 : Int) ≤ hV H1 285 51 ∧ hV H1 285 51 ≤ 1200 := f2.1.2.2 285 51 _ _ kW_285_51
  have e19 : (0 : Int) ≤ hV H2 285 11 ∧ hV H2 285 11 ≤ 500 := f3.1.2.2.2 285 11 _ _ kW_285_11
  have e20 : (0 : Int) ≤ hV H2 285 13 ∧ hV H2 285 13 ≤ 2 := f3.1.2.2.2 285 13 _ _ kW_285_13
  have e22 : (0 : Int) ≤ hV H3 285 11 ∧ hV H3 285 11 ≤ 500 := f4.1.2.2.2 285 11 _ _ kW_285_11
  have e23 : (0 : Int) ≤ hV H3 285 12 ∧ hV H3 285 12 ≤ 7 := f4.1.2.2.2 285 12 _ _ kW_285_12
  have e24 : (0 : Int) ≤ hV H3 285 13 ∧ hV H3 285 13 ≤ 2 := f4.1.2.2.2 285 13 _ _ kW_285_13
  have e26 : (0 : Int) ≤ hV H3 285 51 ∧ hV H3 285 51 ≤ 1200 := f4.1.2.2.2 285 51 _ _ kW_285_51
  have k0 := g4.1
  have y0 := g4.2.1
  have y1 := g4.2.2.1
  have y2 := g4.2.2.2.1
  have y3 := g4.2.2.2.2.1
  have y4 := g4.2.2.2.2.2.1
  have y5 := g4.2.2.2.2.2.2.1
  have y6 := g4.2.2.2.2.2.2.2.1
  have y7 := g4.2.2.2.2.2.2.2.2.1
  have y8 := g4.2.2.2.2.2.2.2.2.2.1
  have y9 := g4.2.2.2.2.2.2.2.2.2.2.1
  have y10 := g4.2.2.2.2.2.2.2.2.2.2.2.1
  have y11 := g4.2.2.2.2.2.2.2.2.2.2.2.2.1
  have y12 := g4.2.2.2.2.2.2.2.2.2.2.2.2.2
  have p0 := g3.1
  have p1 := g3.2.1
  have p2 := g3.2.2.1
  have p3 := g3.2.2.2.1
  have p4 := g3.2.2.2.2.1
  have p5 := g3.2.2.2.2.2.1
  have p6 := g3.2.2.2.2.2.2
  have r0_0 := f3.2.1
  have r0_1 := f3.2.2.1
  have r0_2 := f3.2.2.2.1
  have r0_3 := f3.2.2.2.2
  have r1_0 := f4.2.1
  have r1_1 := f4.2.2.1
  have r1_2 := f4.2.2.2.1
  have r1_3 := f4.2.2.2.2.1
  have r1_4 := f4.2.2.2.2.2.1
  have r1_5 := f4.2.2.2.2.2.2.1
  have r1_6 := f4.2.2.2.2.2.2.2.1
  have r1_7 := f4.2.2.2.2.2.2.2.2
  try simp only [e4] at y6
  try simp only [e6, e7, e8] at r1_1
  try simp only [e6] at r1_6
  try simp only [e11] at r1_7
  clear g3
  clear g4
  clear f5 e4 e6 e7 e8 e11
  clear f2 f3 f4
  subst e0
  try subst k0
  omega
def g_233_85_3 : vG := ([(35, [8], [], 0), (20, [8, 2], [3], 13), (1236, [2], [2, 3], 0), (1219, [2], [1, 2], 0), (5000, [0, 1, 2, 3, 4, 5, 6], [0, 1], 85), (0, [0], [], 285), (0, [2], [], 285)], (91, [6], [], 3))
theorem c_233_85_3 {q0 : Nat} : vOkm T0 (eP e_233 L_233 A_233 mu_233 (some q0)) 2 g_233_85_3 := vOk_inI fun ρ η f0 f1 f2 f3 f4 f5 f6 => q_233_15 (q0 := q0) (n0 := ρ 2) (n1 := ρ 0) (n2 := ρ 1) (n3 := ρ 3) (n4 := ρ 4) (n5 := ρ 5) (n6 := ρ 6) (n7 := ρ 8) (H0 := η 0) (H1 := η 1) (H2 := η 2) (H3 := η 3) f6 f5 f4 f3 f2 f1 f0
set_option maxHeartbeats 20000000 in
theorem q_233_16 {q0 : Nat} {n0 n1 n2 n3 n4 n5 n6 n7 n8 n9 n10 n11 : Int} {H0 H1 H2 H3 H4 : gH} (f0 : n0 ≤ 2147483647) (f1 : (-2147483648) ≤ n0) (f2 : n1 ≤ 1200) (f3 : 0 ≤ n1) (f4 : n2 ≤ 1) (f5 : 0 ≤ n2) (f6 : n3 ≤ 1) (f7 : 0 ≤ n3) (f8 : n4 = 285) (f9 : n5 ≤ 1) (f10 : 0 ≤ n5) (f11 : n6 = 285) (f12 : (hLe T0 H0 H1 ∧ hFr s_233.2.2.2.2 H0 H1 ∧ hWt T0 H1) ∧ (Ab_233_85 n6 n5 n4 n3 n2 n1 n0 H0 H1 ∧ preb_233 n6 n5 H0) ∧ some q0 = some (mub_233_85 n6 n5 n4 n3 n2 n1 n0 H0 H1)) (f13 : (hLe T0 H1 H2 ∧ hFr s_219.2.2.2.2 H1 H2 ∧ ((0 : Int) = 0 → H2.length = H1.length) ∧ hWt T0 H2) ∧ postb_219 n4 H1 H2) (f14 : n7 ≤ 1200) (f15 : 0 ≤ n7) (f16 : n7 = hV H2 (n4).toNat 51) (f17 : (hLe T0 H2 H3 ∧ hFr s_236.2.2.2.2 H2 H3 ∧ ((0 : Int) = 0 → H3.length = H2.length) ∧ hWt T0 H3) ∧ postb_236 n4 H2 H3) (f18 : n8 ≤ 2) (f19 : 0 ≤ n8) (f20 : n8 = hV H3 (n4).toNat 13) (f21 : n8 ≤ 0) (f22 : n9 = 314) (f23 : n9 = hV H3 (n4).toNat 45) (f24 : n10 ≤ 400) (f25 : 0 ≤ n10) (f26 : n10 = hV H3 (n4).toNat 44) (f27 : hUpd H4 H3 n9 n10 n0) (f28 : n11 ≤ 400) (f29 : 0 ≤ n11) (f30 : n11 = hV H4 (n4).toNat 44) : 0 ≤ n11 ∧ n11 < 400 := by
  have g4 := f12.2.1.1
  unfold Ab_233_85 at g4
  have g3 := f12.2.1.2
  unfold preb_233 at g3
  unfold postb_219 at f13
  unfold postb_236 at f17
  have e1 : n7 = hV H1 285 51 := (by rw [f8] at f16; exact f16 : n7 = hV H2 285 51).trans ((f13.1.2.1.1 285 51 kF_219_285_51))
  have e2 : n8 = hV H3 285 13 := (by rw [f8] at f20; exact f20 : n8 = hV H3 285 13)
  have e5 : n10 = hV H1 285 44 := (by rw [f8] at f26; exact f26 : n10 = hV H3 285 44).trans (((f17.1.2.1.1 285 44 kF_236_285_44)).trans (f13.1.2.1.1 285 44 kF_219_285_44))
  have e7 : n11 = hV H1 285 44 := (by rw [f8] at f30; exact f30 : n11 = hV H4 285 44).trans (((uPlace f27 285 44 (iS (show n9 = ((314 : Nat) : Int) from f22) rfl))).trans (((f17.1.2.1.1 285 44 kF_236_285_44)).trans (f13.1.2.1.1 285 44 kF_219_285_44)))
  have e11 : hV H1 285 35 = hV H0 285 35 := (f12.1.2.1.1 285 35 kF_233_285_35)
  have e12 : hV H2 285 51 = hV H1 285 51 := (f13.1.2.1.1 285 51 kF_219_285_51)
  have e13 : hV H2 320 = hV H1 320 := fRow f13.1.2.1 320 kR_219_320
  have e14 : hV H2 321 = hV H1 321 := fRow f13.1.2.1 321 kR_219_321
  have e17 : hV H3 285 35 = hV H0 285 35 := ((f17.1.2.1.1 285 35 kF_236_285_35)).trans (((f13.1.2.1.1 285 35 kF_219_285_35)).trans (f12.1.2.1.1 285 35 kF_233_285_35))
  have e18 : (0 : Int) ≤ hV H1 285 11 ∧ hV H1 285 11 ≤ 500 := f12.1.2.2 285 11 _ _ kW_285_11
  have e19 : (0 : Int) ≤ hV H1 285 12 ∧ hV H1 285 12 ≤ 7 := f12.1.2.2 285 12 _ _ kW_285_12
  have e20 : (0 : Int) ≤ hV H1 285 13 ∧ hV H1 285 13 ≤ 2 := f12.1.2.2 285 13 _ _ kW_285_13
  have e21 : (0 : Int) ≤ hV H0 285 34 ∧ hV H0 285 34 ≤ 1 := bTo ((f12.1.2.1.1 285 34 kF_233_285_34)) (f12.1.2.2 285 34 _ _ kW_285_34)
  have e22 : (0 : Int) ≤ hV H0 285 35 ∧ hV H0 285 35 ≤ 1 := bTo e11 (f12.1.2.2 285 35 _ _ kW_285_35)
  have e23 : (0 : Int) ≤ hV H1 285 44 ∧ hV H1 285 44 ≤ 400 := f12.1.2.2 285 44 _ _ kW_285_44
  have e24 : (0 : Int) ≤ hV H1 285 51 ∧ hV H1 285 51 ≤ 1200 := f12.1.2.2 285 51 _ _ kW_285_51
  have e25 : (0 : Int) ≤ hV H2 285 11 ∧ hV H2 285 11 ≤ 500 := f13.1.2.2.2 285 11 _ _ kW_285_11
  have e26 : (0 : Int) ≤ hV H2 285 13 ∧ hV H2 285 13 ≤ 2 := f13.1.2.2.2 285 13 _ _ kW_285_13
  have e28 : (0 : Int) ≤ hV H3 285 11 ∧ hV H3 285 11 ≤ 500 := f17.1.2.2.2 285 11 _ _ kW_285_11
  have e29 : (0 : Int) ≤ hV H3 285 12 ∧ hV H3 285 12 ≤ 7 := f17.1.2.2.2 285 12 _ _ kW_285_12
  have e30 : (0 : Int) ≤ hV H3 285 13 ∧ hV H3 285 13 ≤ 2 := f17.1.2.2.2 285 13 _ _ kW_285_13
  have e32 : (0 : Int) ≤ hV H3 285 51 ∧ hV H3 285 51 ≤ 1200 := f17.1.2.2.2 285 51 _ _ kW_285_51
  have k0 := g4.1
  have y0 := g4.2.1
  have y1 := g4.2.2.1
  have y2 := g4.2.2.2.1
  have y3 := g4.2.2.2.2.1
  have y4 := g4.2.2.2.2.2.1
  have y5 := g4.2.2.2.2.2.2.1
  have y6 := g4.2.2.2.2.2.2.2.1
  have y7 := g4.2.2.2.2.2.2.2.2.1
  have y8 := g4.2.2.2.2.2.2.2.2.2.1
  have y9 := g4.2.2.2.2.2.2.2.2.2.2.1
  have y10 := g4.2.2.2.2.2.2.2.2.2.2.2.1
  have y11 := g4.2.2.2.2.2.2.2.2.2.2.2.2.1
  have y12 := g4.2.2.2.2.2.2.2.2.2.2.2.2.2
  have p0 := g3.1
  have p1 := g3.2.1
  have p2 := g3.2.2.1
  have p3 := g3.2.2.2.1
  have p4 := g3.2.2.2.2.1
  have p5 := g3.2.2.2.2.2.1
  have p6 := g3.2.2.2.2.2.2
  have r0_0 := f13.2.1
  have r0_1 := f13.2.2.1
  have r0_2 := f13.2.2.2.1
  have r0_3 := f13.2.2.2.2
  have r1_0 := f17.2.1
  have r1_1 := f17.2.2.1
  have r1_2 := f17.2.2.2.1
  have r1_3 := f17.2.2.2.2.1
  have r1_4 := f17.2.2.2.2.2.1
  have r1_5 := f17.2.2.2.2.2.2.1
  have r1_6 := f17.2.2.2.2.2.2.2.1
  have r1_7 := f17.2.2.2.2.2.2.2.2
  try simp only [e11] at y6
  try simp only [e12, e13, e14] at r1_1
  try simp only [e12] at r1_6
  try simp only [e17] at r1_7
  clear g3
  clear g4
  clear f16 f20 f23 f26 f30 e11 e12 e13 e14 e17
  clear f12 f13 f17
  subst e1
  subst e2
  subst e5
  subst e7
  try subst k0
  omega
def g_233_85_4 : vG := ([(20, [12, 2], [4], 44), (90, [12], [], 0), (91, [12], [], 400), (80, [9, 10, 6], [4, 3], 0), (20, [10, 2], [3], 44), (90, [10], [], 0), (91, [10], [], 400), (20, [9, 2], [3], 45), (0, [9], [], 314), (35, [8], [], 0), (20, [8, 2], [3], 13), (90, [8], [], 0), (91, [8], [], 2), (1236, [2], [2, 3], 0), (20, [7, 2], [2], 51), (90, [7], [], 0), (91, [7], [], 1200), (1219, [2], [1, 2], 0), (5000, [0, 1, 2, 3, 4, 5, 6], [0, 1], 85), (0, [0], [], 285), (90, [1], [], 0), (91, [1], [], 1), (0, [2], [], 285), (90, [3], [], 0), (91, [3], [], 1), (90, [4], [], 0), (91, [4], [], 1), (90, [5], [], 0), (91, [5], [], 1200), (90, [6], [], -2147483648), (91, [6], [], 2147483647)], (70, [12], [], 400))
theorem c_233_85_4 {q0 : Nat} : vOkm T0 (eP e_233 L_233 A_233 mu_233 (some q0)) 2 g_233_85_4 := vOk_inI fun ρ η f0 f1 f2 f3 f4 f5 f6 f7 f8 f9 f10 f11 f12 f13 f14 f15 f16 f17 f18 f19 f20 f21 f22 f23 f24 f25 f26 f27 f28 f29 f30 => q_233_16 (q0 := q0) (n0 := ρ 6) (n1 := ρ 5) (n2 := ρ 4) (n3 := ρ 3) (n4 := ρ 2) (n5 := ρ 1) (n6 := ρ 0) (n7 := ρ 7) (n8 := ρ 8) (n9 := ρ 9) (n10 := ρ 10) (n11 := ρ 12) (H0 := η 0) (H1 := η 1) (H2 := η 2) (H3 := η 3) (H4 := η 4) f30 f29 f28 f27 f26 f25 f24 f23 f22 f21 f20 f19 f18 f17 f16 f15 f14 f13 f12 f11 f10 f9 f8 f7 f6 f5 f4 f3 f2 f1 f0
set_option maxHeartbeats 20000000 in
theorem q_233_17 {q0 : Nat} {n0 n1 n2 n3 n4 n5 n6 n7 n8 n9 n10 n11 n12 n13 n14 : Int} {H0 H1 H2 H3 H4 H5 : gH} (f0 : n0 ≤ 2147483647) (f1 : (-2147483648) ≤ n0) (f2 : n1 ≤ 1200) (f3 : 0 ≤ n1) (f4 : n2 ≤ 1) (f5 : 0 ≤ n2) (f6 : n3 ≤ 1) (f7 : 0 ≤ n3) (f8 : n4 = 285) (f9 : n5 ≤ 1) (f10 : 0 ≤ n5) (f11 : n6 = 285) (f12 : (hLe T0 H0 H1 ∧ hFr s_233.2.2.2.2 H0 H1 ∧ hWt T0 H1) ∧ (Ab_233_85 n6 n5 n4 n3 n2 n1 n0 H0 H1 ∧ preb_233 n6 n5 H0) ∧ some q0 = some (mub_233_85 n6 n5 n4 n3 n2 n1 n0 H0 H1)) (f13 : (hLe T0 H1 H2 ∧ hFr s_219.2.2.2.2 H1 H2 ∧ ((0 : Int) = 0 → H2.length = H1.length) ∧ hWt T0 H2) ∧ postb_219 n4 H1 H2) (f14 : n7 ≤ 1200) (f15 : 0 ≤ n7) (f16 : n7 = hV H2 (n4).toNat 51) (f17 : (hLe T0 H2 H3 ∧ hFr s_236.2.2.2.2 H2 H3 ∧ ((0 : Int) = 0 → H3.length = H2.length) ∧ hWt T0 H3) ∧ postb_236 n4 H2 H3) (f18 : n8 ≤ 2) (f19 : 0 ≤ n8) (f20 : n8 = hV H3 (n4).toNat 13) (f21 : n8 ≤ 0) (f22 : n9 = 314) (f23 : n9 = hV H3 (n4).toNat 45) (f24 : n10 ≤ 400) (f25 : 0 ≤ n10) (f26 : n10 = hV H3 (n4).toNat 44) (f27 : hUpd H4 H3 n9 n10 n0) (f28 : n11 = 315) (f29 : n11 = hV H4 (n4).toNat 46) (f30 : n12 ≤ 400) (f31 : 0 ≤ n12) (f32 : n12 = hV H4 (n4).toNat 44) (f33 : n13 = o32 (fun x _ => x &&& 1) n2 0) (f34 : hUpd H5 H4 n11 n12 n13) (f35 : n14 ≤ 400) (f36 : 0 ≤ n14) (f37 : n14 = hV H5 (n4).toNat 44) : 0 ≤ n14 ∧ n14 < 400 := by
  have g4 := f12.2.1.1
  unfold Ab_233_85 at g4
  have g3 := f12.2.1.2
  unfold preb_233 at g3
  unfold postb_219 at f13
  unfold postb_236 at f17
  have e1 : n7 = hV H1 285 51 := (by rw [f8] at f16; exact f16 : n7 = hV H2 285 51).trans ((f13.1.2.1.1 285 51 kF_219_285_51))
  have e2 : n8 = hV H3 285 13 := (by rw [f8] at f20; exact f20 : n8 = hV H3 285 13)
  have e5 : n10 = hV H1 285 44 := (by rw [f8] at f26; exact f26 : n10 = hV H3 285 44).trans (((f17.1.2.1.1 285 44 kF_236_285_44)).trans (f13.1.2.1.1 285 44 kF_219_285_44))
  have e7 : n12 = hV H1 285 44 := (by rw [f8] at f32; exact f32 : n12 = hV H4 285 44).trans (((uPlace f27 285 44 (iS (show n9 = ((314 : Nat) : Int) from f22) rfl))).trans (((f17.1.2.1.1 285 44 kF_236_285_44)).trans (f13.1.2.1.1 285 44 kF_219_285_44)))
  have e9 : n14 = hV H1 285 44 := (by rw [f8] at f37; exact f37 : n14 = hV H5 285 44).trans (((uPlace f34 285 44 (iS (show n11 = ((315 : Nat) : Int) from f28) rfl))).trans (((uPlace f27 285 44 (iS (show n9 = ((314 : Nat) : Int) from f22) rfl))).trans (((f17.1.2.1.1 285 44 kF_236_285_44)).trans (f13.1.2.1.1 285 44 kF_219_285_44))))
  have e13 : hV H1 285 35 = hV H0 285 35 := (f12.1.2.1.1 285 35 kF_233_285_35)
  have e14 : hV H2 285 51 = hV H1 285 51 := (f13.1.2.1.1 285 51 kF_219_285_51)
  have e15 : hV H2 320 = hV H1 320 := fRow f13.1.2.1 320 kR_219_320
  have e16 : hV H2 321 = hV H1 321 := fRow f13.1.2.1 321 kR_219_321
  have e19 : hV H3 285 35 = hV H0 285 35 := ((f17.1.2.1.1 285 35 kF_236_285_35)).trans (((f13.1.2.1.1 285 35 kF_219_285_35)).trans (f12.1.2.1.1 285 35 kF_233_285_35))
  have e20 : (0 : Int) ≤ hV H1 285 11 ∧ hV H1 285 11 ≤ 500 := f12.1.2.2 285 11 _ _ kW_285_11
  have e21 : (0 : Int) ≤ hV H1 285 12 ∧ hV H1 285 12 ≤ 7 := f12.1.2.2 285 12 _ _ kW_285_12
  have e22 : (0 : Int) ≤ hV H1 285 13 ∧ hV H1 285 13 ≤ 2 := f12.1.2.2 285 13 _ _ kW_285_13
  have e23 : (0 : Int) ≤ hV H0 285 34 ∧ hV H0 285 34 ≤ 1 := bTo ((f12.1.2.1.1 285 34 kF_233_285_34)) (f12.1.2.2 285 34 _ _ kW_285_34)
  have e24 : (0 : Int) ≤ hV H0 285 35 ∧ hV H0 285 35 ≤ 1 := bTo e13 (f12.1.2.2 285 35 _ _ kW_285_35)
  have e25 : (0 : Int) ≤ hV H1 285 44 ∧ hV H1 285 44 ≤ 400 := f12.1.2.2 285 44 _ _ kW_285_44
  have e26 : (0 : Int) ≤ hV H1 285 51 ∧ hV H1 285 51 ≤ 1200 := f12.1.2.2 285 51 _ _ kW_285_51
  have e27 : (0 : Int) ≤ hV H2 285 11 ∧ hV H2 285 11 ≤ 500 := f13.1.2.2.2 285 11 _ _ kW_285_11
  have e28 : (0 : Int) ≤ hV H2 285 13 ∧ hV H2 285 13 ≤ 2 := f13.1.2.2.2 285 13 _ _ kW_285_13
  have e30 : (0 : Int) ≤ hV H3 285 11 ∧ hV H3 285 11 ≤ 500 := f17.1.2.2.2 285 11 _ _ kW_285_11
  have e31 : (0 : Int) ≤ hV H3 285 12 ∧ hV H3 285 12 ≤ 7 := f17.1.2.2.2 285 12 _ _ kW_285_12
  have e32 : (0 : Int) ≤ hV H3 285 13 ∧ hV H3 285 13 ≤ 2 := f17.1.2.2.2 285 13 _ _ kW_285_13
  have e34 : (0 : Int) ≤ hV H3 285 51 ∧ hV H3 285 51 ≤ 1200 := f17.1.2.2.2 285 51 _ _ kW_285_51
  have k0 := g4.1
  have y0 := g4.2.1
  have y1 := g4.2.2.1
  have y2 := g4.2.2.2.1
  have y3 := g4.2.2.2.2.1
  have y4 := g4.2.2.2.2.2.1
  have y5 := g4.2.2.2.2.2.2.1
  have y6 := g4.2.2.2.2.2.2.2.1
  have y7 := g4.2.2.2.2.2.2.2.2.1
  have y8 := g4.2.2.2.2.2.2.2.2.2.1
  have y9 := g4.2.2.2.2.2.2.2.2.2.2.1
  have y10 := g4.2.2.2.2.2.2.2.2.2.2.2.1
  have y11 := g4.2.2.2.2.2.2.2.2.2.2.2.2.1
  have y12 := g4.2.2.2.2.2.2.2.2.2.2.2.2.2
  have p0 := g3.1
  have p1 := g3.2.1
  have p2 := g3.2.2.1
  have p3 := g3.2.2.2.1
  have p4 := g3.2.2.2.2.1
  have p5 := g3.2.2.2.2.2.1
  have p6 := g3.2.2.2.2.2.2
  have r0_0 := f13.2.1
  have r0_1 := f13.2.2.1
  have r0_2 := f13.2.2.2.1
  have r0_3 := f13.2.2.2.2
  have r1_0 := f17.2.1
  have r1_1 := f17.2.2.1
  have r1_2 := f17.2.2.2.1
  have r1_3 := f17.2.2.2.2.1
  have r1_4 := f17.2.2.2.2.2.1
  have r1_5 := f17.2.2.2.2.2.2.1
  have r1_6 := f17.2.2.2.2.2.2.2.1
  have r1_7 := f17.2.2.2.2.2.2.2.2
  try simp only [e13] at y6
  try simp only [e14, e15, e16] at r1_1
  try simp only [e14] at r1_6
  try simp only [e19] at r1_7
  clear g3
  clear g4
  clear f16 f20 f23 f26 f29 f32 f37 e13 e14 e15 e16 e19
  clear f12 f13 f17
  subst e1
  subst e2
  subst e5
  subst e7
  subst e9
  try subst k0
  omega
def g_233_85_5 : vG := ([(20, [15, 2], [5], 44), (90, [15], [], 0), (91, [15], [], 400), (80, [11, 12, 13], [5, 4], 0), (16, [13, 4], [], 0), (20, [12, 2], [4], 44), (90, [12], [], 0), (91, [12], [], 400), (20, [11, 2], [4], 46), (0, [11], [], 315), (80, [9, 10, 6], [4, 3], 0), (20, [10, 2], [3], 44), (90, [10], [], 0), (91, [10], [], 400), (20, [9, 2], [3], 45), (0, [9], [], 314), (35, [8], [], 0), (20, [8, 2], [3], 13), (90, [8], [], 0), (91, [8], [], 2), (1236, [2], [2, 3], 0), (20, [7, 2], [2], 51), (90, [7], [], 0), (91, [7], [], 1200), (1219, [2], [1, 2], 0), (5000, [0, 1, 2, 3, 4, 5, 6], [0, 1], 85), (0, [0], [], 285), (90, [1], [], 0), (91, [1], [], 1), (0, [2], [], 285), (90, [3], [], 0), (91, [3], [], 1), (90, [4], [], 0), (91, [4], [], 1), (90, [5], [], 0), (91, [5], [], 1200), (90, [6], [], -2147483648), (91, [6], [], 2147483647)], (70, [15], [], 400))
theorem c_233_85_5 {q0 : Nat} : vOkm T0 (eP e_233 L_233 A_233 mu_233 (some q0)) 2 g_233_85_5 := vOk_inI fun ρ η f0 f1 f2 f3 f4 f5 f6 f7 f8 f9 f10 f11 f12 f13 f14 f15 f16 f17 f18 f19 f20 f21 f22 f23 f24 f25 f26 f27 f28 f29 f30 f31 f32 f33 f34 f35 f36 f37 => q_233_17 (q0 := q0) (n0 := ρ 6) (n1 := ρ 5) (n2 := ρ 4) (n3 := ρ 3) (n4 := ρ 2) (n5 := ρ 1) (n6 := ρ 0) (n7 := ρ 7) (n8 := ρ 8) (n9 := ρ 9) (n10 := ρ 10) (n11 := ρ 11) (n12 := ρ 12) (n13 := ρ 13) (n14 := ρ 15) (H0 := η 0) (H1 := η 1) (H2 := η 2) (H3 := η 3) (H4 := η 4) (H5 := η 5) f37 f36 f35 f34 f33 f32 f31 f30 f29 f28 f27 f26 f25 f24 f23 f22 f21 f20 f19 f18 f17 f16 f15 f14 f13 f12 f11 f10 f9 f8 f7 f6 f5 f4 f3 f2 f1 f0
set_option maxHeartbeats 20000000 in
theorem q_233_18 {q0 : Nat} {n0 n1 n2 n3 n4 n5 n6 n7 n8 n9 n10 n11 n12 n13 n14 n15 n16 n17 : Int} {H0 H1 H2 H3 H4 H5 H6 : gH} (f0 : n0 ≤ 2147483647) (f1 : (-2147483648) ≤ n0) (f2 : n1 ≤ 1200) (f3 : 0 ≤ n1) (f4 : n2 ≤ 1) (f5 : 0 ≤ n2) (f6 : n3 ≤ 1) (f7 : 0 ≤ n3) (f8 : n4 = 285) (f9 : n5 ≤ 1) (f10 : 0 ≤ n5) (f11 : n6 = 285) (f12 : (hLe T0 H0 H1 ∧ hFr s_233.2.2.2.2 H0 H1 ∧ hWt T0 H1) ∧ (Ab_233_85 n6 n5 n4 n3 n2 n1 n0 H0 H1 ∧ preb_233 n6 n5 H0) ∧ some q0 = some (mub_233_85 n6 n5 n4 n3 n2 n1 n0 H0 H1)) (f13 : (hLe T0 H1 H2 ∧ hFr s_219.2.2.2.2 H1 H2 ∧ ((0 : Int) = 0 → H2.length = H1.length) ∧ hWt T0 H2) ∧ postb_219 n4 H1 H2) (f14 : n7 ≤ 1200) (f15 : 0 ≤ n7) (f16 : n7 = hV H2 (n4).toNat 51) (f17 : (hLe T0 H2 H3 ∧ hFr s_236.2.2.2.2 H2 H3 ∧ ((0 : Int) = 0 → H3.length = H2.length) ∧ hWt T0 H3) ∧ postb_236 n4 H2 H3) (f18 : n8 ≤ 2) (f19 : 0 ≤ n8) (f20 : n8 = hV H3 (n4).toNat 13) (f21 : n8 ≤ 0) (f22 : n9 = 314) (f23 : n9 = hV H3 (n4).toNat 45) (f24 : n10 ≤ 400) (f25 : 0 ≤ n10) (f26 : n10 = hV H3 (n4).toNat 44) (f27 : hUpd H4 H3 n9 n10 n0) (f28 : n11 = 315) (f29 : n11 = hV H4 (n4).toNat 46) (f30 : n12 ≤ 400) (f31 : 0 ≤ n12) (f32 : n12 = hV H4 (n4).toNat 44) (f33 : n13 = o32 (fun x _ => x &&& 1) n2 0) (f34 : hUpd H5 H4 n11 n12 n13) (f35 : n14 = 316) (f36 : n14 = hV H5 (n4).toNat 47) (f37 : n15 ≤ 400) (f38 : 0 ≤ n15) (f39 : n15 = hV H5 (n4).toNat 44) (f40 : n16 = o32 (fun x _ => x &&& 1) n3 0) (f41 : hUpd H6 H5 n14 n15 n16) (f42 : n17 ≤ 400) (f43 : 0 ≤ n17) (f44 : n17 = hV H6 (n4).toNat 44) : 0 ≤ n17 ∧ n17 < 400 := by
  have g4 := f12.2.1.1
  unfold Ab_233_85 at g4
  have g3 := f12.2.1.2
  unfold preb_233 at g3
  unfold postb_219 at f13
  unfold postb_236 at f17
  have e1 : n7 = hV H1 285 51 := (by rw [f8] at f16; exact f16 : n7 = hV H2 285 51).trans ((f13.1.2.1.1 285 51 kF_219_285_51))
  have e2 : n8 = hV H3 285 13 := (by rw [f8] at f20; exact f20 : n8 = hV H3 285 13)
  have e5 : n10 = hV H1 285 44 := (by rw [f8] at f26; exact f26 : n10 = hV H3 285 44).trans (((f17.1.2.1.1 285 44 kF_236_285_44)).trans (f13.1.2.1.1 285 44 kF_219_285_44))
  have e7 : n12 = hV H1 285 44 := (by rw [f8] at f32; exact f32 : n12 = hV H4 285 44).trans (((uPlace f27 285 44 (iS (show n9 = ((314 : Nat) : Int) from f22) rfl))).trans (((f17.1.2.1.1 285 44 kF_236_285_44)).trans (f13.1.2.1.1 285 44 kF_219_285_44)))
  have e9 : n15 = hV H1 285 44 := (by rw [f8] at f39; exact f39 : n15 = hV H5 285 44).trans (((uPlace f34 285 44 (iS (show n11 = ((315 : Nat) : Int) from f28) rfl))).trans (((uPlace f27 285 44 (iS (show n9 = ((314 : Nat) : Int) from f22) rfl))).trans (((f17.1.2.1.1 285 44 kF_236_285_44)).trans (f13.1.2.1.1 285 44 kF_219_285_44))))
  have e11 : n17 = hV H1 285 44 := (by rw [f8] at f44; exact f44 : n17 = hV H6 285 44).trans (((uPlace f41 285 44 (iS (show n14 = ((316 : Nat) : Int) from f35) rfl))).trans (((uPlace f34 285 44 (iS (show n11 = ((315 : Nat) : Int) from f28) rfl))).trans (((uPlace f27 285 44 (iS (show n9 = ((314 : Nat) : Int) from f22) rfl))).trans (((f17.1.2.1.1 285 44 kF_236_285_44)).trans (f13.1.2.1.1 285 44 kF_219_285_44)))))
  have e15 : hV H1 285 35 = hV H0 285 35 := (f12.1.2.1.1 285 35 kF_233_285_35)
  have e16 : hV H2 285 51 = hV H1 285 51 := (f13.1.2.1.1 285 51 kF_219_285_51)
  have e17 : hV H2 320 = hV H1 320 := fRow f13.1.2.1 320 kR_219_320
  have e18 : hV H2 321 = hV H1 321 := fRow f13.1.2.1 321 kR_219_321
  have e21 : hV H3 285 35 = hV H0 285 35 := ((f17.1.2.1.1 285 35 kF_236_285_35)).trans (((f13.1.2.1.1 285 35 kF_219_285_35)).trans (f12.1.2.1.1 285 35 kF_233_285_35))
  have e22 : (0 : Int) ≤ hV H1 285 11 ∧ hV H1 285 11 ≤ 500 := f12.1.2.2 285 11 _ _ kW_285_11
  have e23 : (0 : Int) ≤ hV H1 285 12 ∧ hV H1 285 12 ≤ 7 := f12.1.2.2 285 12 _ _ kW_285_12
  have e24 : (0 : Int) ≤ hV H1 285 13 ∧ hV H1 285 13 ≤ 2 := f12.1.2.2 285 13 _ _ kW_285_13
  have e25 : (0 : Int) ≤ hV H0 285 34 ∧ hV H0 285 34 ≤ 1 := bTo ((f12.1.2.1.1 285 34 kF_233_285_34)) (f12.1.2.2 285 34 _ _ kW_285_34)
  have e26 : (0 : Int) ≤ hV H0 285 35 ∧ hV H0 285 35 ≤ 1 := bTo e15 (f12.1.2.2 285 35 _ _ kW_285_35)
  have e27 : (0 : Int) ≤ hV H1 285 44 ∧ hV H1 285 44 ≤ 400 := f12.1.2.2 285 44 _ _ kW_285_44
  have e28 : (0 : Int) ≤ hV H1 285 51 ∧ hV H1 285 51 ≤ 1200 := f12.1.2.2 285 51 _ _ kW_285_51
  have e29 : (0 : Int) ≤ hV H2 285 11 ∧ hV H2 285 11 ≤ 500 := f13.1.2.2.2 285 11 _ _ kW_285_11
  have e30 : (0 : Int) ≤ hV H2 285 13 ∧ hV H2 285 13 ≤ 2 := f13.1.2.2.2 285 13 _ _ kW_285_13
  have e32 : (0 : Int) ≤ hV H3 285 11 ∧ hV H3 285 11 ≤ 500 := f17.1.2.2.2 285 11 _ _ kW_285_11
  have e33 : (0 : Int) ≤ hV H3 285 12 ∧ hV H3 285 12 ≤ 7 := f17.1.2.2.2 285 12 _ _ kW_285_12
  have e34 : (0 : Int) ≤ hV H3 285 13 ∧ hV H3 285 13 ≤ 2 := f17.1.2.2.2 285 13 _ _ kW_285_13
  have e36 : (0 : Int) ≤ hV H3 285 51 ∧ hV H3 285 51 ≤ 1200 := f17.1.2.2.2 285 51 _ _ kW_285_51
  have k0 := g4.1
  have y0 := g4.2.1
  have y1 := g4.2.2.1
  have y2 := g4.2.2.2.1
  have y3 := g4.2.2.2.2.1
  have y4 := g4.2.2.2.2.2.1
  have y5 := g4.2.2.2.2.2.2.1
  have y6 := g4.2.2.2.2.2.2.2.1
  have y7 := g4.2.2.2.2.2.2.2.2.1
  have y8 := g4.2.2.2.2.2.2.2.2.2.1
  have y9 := g4.2.2.2.2.2.2.2.2.2.2.1
  have y10 := g4.2.2.2.2.2.2.2.2.2.2.2.1
  have y11 := g4.2.2.2.2.2.2.2.2.2.2.2.2.1
  have y12 := g4.2.2.2.2.2.2.2.2.2.2.2.2.2
  have p0 := g3.1
  have p1 := g3.2.1
  have p2 := g3.2.2.1
  have p3 := g3.2.2.2.1
  have p4 := g3.2.2.2.2.1
  have p5 := g3.2.2.2.2.2.1
  have p6 := g3.2.2.2.2.2.2
  have r0_0 := f13.2.1
  have r0_1 := f13.2.2.1
  have r0_2 := f13.2.2.2.1
  have r0_3 := f13.2.2.2.2
  have r1_0 := f17.2.1
  have r1_1 := f17.2.2.1
  have r1_2 := f17.2.2.2.1
  have r1_3 := f17.2.2.2.2.1
  have r1_4 := f17.2.2.2.2.2.1
  have r1_5 := f17.2.2.2.2.2.2.1
  have r1_6 := f17.2.2.2.2.2.2.2.1
  have r1_7 := f17.2.2.2.2.2.2.2.2
  try simp only [e15] at y6
  try simp only [e16, e17, e18] at r1_1
  try simp only [e16] at r1_6
  try simp only [e21] at r1_7
  clear g3
  clear g4
  clear f16 f20 f23 f26 f29 f32 f36 f39 f44 e15 e16 e17 e18 e21
  clear f12 f13 f17
  subst e1
  subst e2
  subst e5
  subst e7
  subst e9
  subst e11
  try subst k0
  omega
def g_233_85_6 : vG := ([(20, [18, 2], [6], 44), (90, [18], [], 0), (91, [18], [], 400), (80, [14, 15, 16], [6, 5], 0), (16, [16, 3], [], 0), (20, [15, 2], [5], 44), (90, [15], [], 0), (91, [15], [], 400), (20, [14, 2], [5], 47), (0, [14], [], 316), (80, [11, 12, 13], [5, 4], 0), (16, [13, 4], [], 0), (20, [12, 2], [4], 44), (90, [12], [], 0), (91, [12], [], 400), (20, [11, 2], [4], 46), (0, [11], [], 315), (80, [9, 10, 6], [4, 3], 0), (20, [10, 2], [3], 44), (90, [10], [], 0), (91, [10], [], 400), (20, [9, 2], [3], 45), (0, [9], [], 314), (35, [8], [], 0), (20, [8, 2], [3], 13), (90, [8], [], 0), (91, [8], [], 2), (1236, [2], [2, 3], 0), (20, [7, 2], [2], 51), (90, [7], [], 0), (91, [7], [], 1200), (1219, [2], [1, 2], 0), (5000, [0, 1, 2, 3, 4, 5, 6], [0, 1], 85), (0, [0], [], 285), (90, [1], [], 0), (91, [1], [], 1), (0, [2], [], 285), (90, [3], [], 0), (91, [3], [], 1), (90, [4], [], 0), (91, [4], [], 1), (90, [5], [], 0), (91, [5], [], 1200), (90, [6], [], -2147483648), (91, [6], [], 2147483647)], (70, [18], [], 400))
theorem c_233_85_6 {q0 : Nat} : vOkm T0 (eP e_233 L_233 A_233 mu_233 (some q0)) 2 g_233_85_6 := vOk_inI fun ρ η f0 f1 f2 f3 f4 f5 f6 f7 f8 f9 f10 f11 f12 f13 f14 f15 f16 f17 f18 f19 f20 f21 f22 f23 f24 f25 f26 f27 f28 f29 f30 f31 f32 f33 f34 f35 f36 f37 f38 f39 f40 f41 f42 f43 f44 => q_233_18 (q0 := q0) (n0 := ρ 6) (n1 := ρ 5) (n2 := ρ 4) (n3 := ρ 3) (n4 := ρ 2) (n5 := ρ 1) (n6 := ρ 0) (n7 := ρ 7) (n8 := ρ 8) (n9 := ρ 9) (n10 := ρ 10) (n11 := ρ 11) (n12 := ρ 12) (n13 := ρ 13) (n14 := ρ 14) (n15 := ρ 15) (n16 := ρ 16) (n17 := ρ 18) (H0 := η 0) (H1 := η 1) (H2 := η 2) (H3 := η 3) (H4 := η 4) (H5 := η 5) (H6 := η 6) f44 f43 f42 f41 f40 f39 f38 f37 f36 f35 f34 f33 f32 f31 f30 f29 f28 f27 f26 f25 f24 f23 f22 f21 f20 f19 f18 f17 f16 f15 f14 f13 f12 f11 f10 f9 f8 f7 f6 f5 f4 f3 f2 f1 f0
set_option maxHeartbeats 20000000 in
theorem kR_233_306 : vFreeR s_233.2.2.2.2 306 = true := by decide +kernel
theorem kR_233_307 : vFreeR s_233.2.2.2.2 307 = true := by decide +kernel
theorem kR_233_308 : vFreeR s_233.2.2.2.2 308 = true := by decide +kernel
theorem kR_233_309 : vFreeR s_233.2.2.2.2 309 = true := by decide +kernel
theorem kR_233_310 : vFreeR s_233.2.2.2.2 310 = true := by decide +kernel
theorem kR_233_311 : vFreeR s_233.2.2.2.2 311 = true := by decide +kernel
theorem kR_236_306 : vFreeR s_236.2.2.2.2 306 = true := by decide +kernel
theorem kR_236_307 : vFreeR s_236.2.2.2.2 307 = true := by decide +kernel
theorem kR_236_308 : vFreeR s_236.2.2.2.2 308 = true := by decide +kernel
theorem kR_236_309 : vFreeR s_236.2.2.2.2 309 = true := by decide +kernel
theorem kR_236_310 : vFreeR s_236.2.2.2.2 310 = true := by decide +kernel
theorem kR_236_311 : vFreeR s_236.2.2.2.2 311 = true := by decide +kernel
theorem kR_236_317 : vFreeR s_236.2.2.2.2 317 = true := by decide +kernel
theorem kR_236_318 : vFreeR s_236.2.2.2.2 318 = true := by decide +kernel
theorem kR_236_319 : vFreeR s_236.2.2.2.2 319 = true := by decide +kernel
theorem q_233_19 {q0 : Nat} {n0 n1 n2 n3 n4 n5 n6 n7 n8 n9 n10 n11 n12 n13 n14 n15 n16 n17 n18 n19 : Int} {H0 H1 H2 H3 H4 H5 H6 H7 : gH} (f0 : n0 ≤ 2147483647) (f1 : (-2147483648) ≤ n0) (f2 : n1 ≤ 1200) (f3 : 0 ≤ n1) (f4 : n2 ≤ 1) (f5 : 0 ≤ n2) (f6 : n3 ≤ 1) (f7 : 0 ≤ n3) (f8 : n4 = 285) (f9 : n5 ≤ 1) (f10 : 0 ≤ n5) (f11 : n6 = 285) (f12 : (hLe T0 H0 H1 ∧ hFr s_233.2.2.2.2 H0 H1 ∧ hWt T0 H1) ∧ (Ab_233_85 n6 n5 n4 n3 n2 n1 n0 H0 H1 ∧ preb_233 n6 n5 H0) ∧ some q0 = some (mub_233_85 n6 n5 n4 n3 n2 n1 n0 H0 H1)) (f13 : (hLe T0 H1 H2 ∧ hFr s_219.2.2.2.2 H1 H2 ∧ ((0 : Int) = 0 → H2.length = H1.length) ∧ hWt T0 H2) ∧ postb_219 n4 H1 H2) (f14 : n7 ≤ 1200) (f15 : 0 ≤ n7) (f16 : n7 = hV H2 (n4).toNat 51) (f17 : (hLe T0 H2 H3 ∧ hFr s_236.2.2.2.2 H2 H3 ∧ ((0 : Int) = 0 → H3.length = H2.length) ∧ hWt T0 H3) ∧ postb_236 n4 H2 H3) (f18 : n8 ≤ 2) (f19 : 0 ≤ n8) (f20 : n8 = hV H3 (n4).toNat 13) (f21 : n8 ≤ 0) (f22 : n9 = 314) (f23 : n9 = hV H3 (n4).toNat 45) (f24 : n10 ≤ 400) (f25 : 0 ≤ n10) (f26 : n10 = hV H3 (n4).toNat 44) (f27 : hUpd H4 H3 n9 n10 n0) (f28 : n11 = 315) (f29 : n11 = hV H4 (n4).toNat 46) (f30 : n12 ≤ 400) (f31 : 0 ≤ n12) (f32 : n12 = hV H4 (n4).toNat 44) (f33 : n13 = o32 (fun x _ => x &&& 1) n2 0) (f34 : hUpd H5 H4 n11 n12 n13) (f35 : n14 = 316) (f36 : n14 = hV H5 (n4).toNat 47) (f37 : n15 ≤ 400) (f38 : 0 ≤ n15) (f39 : n15 = hV H5 (n4).toNat 44) (f40 : n16 = o32 (fun x _ => x &&& 1) n3 0) (f41 : hUpd H6 H5 n14 n15 n16) (f42 : n17 = 317) (f43 : n17 = hV H6 (n4).toNat 48) (f44 : n18 ≤ 400) (f45 : 0 ≤ n18) (f46 : n18 = hV H6 (n4).toNat 44) (f47 : hUpd H7 H6 n17 n18 n1) (f48 : n19 ≤ 400) (f49 : 0 ≤ n19) (f50 : n19 = hV H7 (n4).toNat 44) : 0 ≤ n19 ∧ n19 < 400 := by
  have g4 := f12.2.1.1
  unfold Ab_233_85 at g4
  have g3 := f12.2.1.2
  unfold preb_233 at g3
  unfold postb_219 at f13
  unfold postb_236 at f17
  have e1 : n7 = hV H1 285 51 := (by rw [f8] at f16; exact f16 : n7 = hV H2 285 51).trans ((f13.1.2.1.1 285 51 kF_219_285_51))
  have e2 : n8 = hV H3 285 13 := (by rw [f8] at f20; exact f20 : n8 = hV H3 285 13)
  have e5 : n10 = hV H1 285 44 := (by rw [f8] at f26; exact f26 : n10 = hV H3 285 44).trans (((f17.1.2.1.1 285 44 kF_236_285_44)).trans (f13.1.2.1.1 285 44 kF_219_285_44))
  have e7 : n12 = hV H1 285 44 := (by rw [f8] at f32; exact f32 : n12 = hV H4 285 44).trans (((uPlace f27 285 44 (iS (show n9 = ((314 : Nat) : Int) from f22) rfl))).trans (((f17.1.2.1.1 285 44 kF_236_285_44)).trans (f13.1.2.1.1 285 44 kF_219_285_44)))
  have e9 : n15 = hV H1 285 44 := (by rw [f8] at f39; exact f39 : n15 = hV H5 285 44).trans (((uPlace f34 285 44 (iS (show n11 = ((315 : Nat) : Int) from f28) rfl))).trans (((uPlace f27 285 44 (iS (show n9 = ((314 : Nat) : Int) from f22) rfl))).trans (((f17.1.2.1.1 285 44 kF_236_285_44)).trans (f13.1.2.1.1 285 44 kF_219_285_44))))
  have e11 : n18 = hV H1 285 44 := (by rw [f8] at f46; exact f46 : n18 = hV H6 285 44).trans (((uPlace f41 285 44 (iS (show n14 = ((316 : Nat) : Int) from f35) rfl))).trans (((uPlace f34 285 44 (iS (show n11 = ((315 : Nat) : Int) from f28) rfl))).trans (((uPlace f27 285 44 (iS (show n9 = ((314 : Nat) : Int) from f22) rfl))).trans (((f17.1.2.1.1 285 44 kF_236_285_44)).trans (f13.1.2.1.1 285 44 kF_219_285_44)))))
  have e13 : n19 = hV H1 285 44 := (by rw [f8] at f50; exact f50 : n19 = hV H7 285 44).trans (((uPlace f47 285 44 (iS (show n17 = ((317 : Nat) : Int) from f42) rfl))).trans (((uPlace f41 285 44 (iS (show n14 = ((316 : Nat) : Int) from f35) rfl))).trans (((uPlace f34 285 44 (iS (show n11 = ((315 : Nat) : Int) from f28) rfl))).trans (((uPlace f27 285 44 (iS (show n9 = ((314 : Nat) : Int) from f22) rfl))).trans (((f17.1.2.1.1 285 44 kF_236_285_44)).trans (f13.1.2.1.1 285 44 kF_219_285_44))))))
  have e15 : hV H1 285 34 = hV H0 285 34 := (f12.1.2.1.1 285 34 kF_233_285_34)
  have e17 : hV H1 285 35 = hV H0 285 35 := (f12.1.2.1.1 285 35 kF_233_285_35)
  have e18 : hV H1 306 = hV H0 306 := fRow f12.1.2.1 306 kR_233_306
  have e19 : hV H1 307 = hV H0 307 := fRow f12.1.2.1 307 kR_233_307
  have e20 : hV H1 308 = hV H0 308 := fRow f12.1.2.1 308 kR_233_308
  have e21 : hV H1 309 = hV H0 309 := fRow f12.1.2.1 309 kR_233_309
  have e22 : hV H1 310 = hV H0 310 := fRow f12.1.2.1 310 kR_233_310
  have e23 : hV H1 311 = hV H0 311 := fRow f12.1.2.1 311 kR_233_311
  have e24 : hV H2 285 51 = hV H1 285 51 := (f13.1.2.1.1 285 51 kF_219_285_51)
  have e25 : hV H2 320 = hV H1 320 := fRow f13.1.2.1 320 kR_219_320
  have e26 : hV H2 321 = hV H1 321 := fRow f13.1.2.1 321 kR_219_321
  have e29 : hV H3 285 34 = hV H0 285 34 := ((f17.1.2.1.1 285 34 kF_236_285_34)).trans (((f13.1.2.1.1 285 34 kF_219_285_34)).trans (f12.1.2.1.1 285 34 kF_233_285_34))
  have e32 : hV H3 285 35 = hV H0 285 35 := ((f17.1.2.1.1 285 35 kF_236_285_35)).trans (((f13.1.2.1.1 285 35 kF_219_285_35)).trans (f12.1.2.1.1 285 35 kF_233_285_35))
  have e33 : hV H3 285 44 = hV H1 285 44 := ((f17.1.2.1.1 285 44 kF_236_285_44)).trans (f13.1.2.1.1 285 44 kF_219_285_44)
  have e37 : hV H3 306 = hV H0 306 := (fRow f17.1.2.1 306 kR_236_306).trans ((fRow f13.1.2.1 306 kR_219_306).trans e18)
  have e41 : hV H3 307 = hV H0 307 := (fRow f17.1.2.1 307 kR_236_307).trans ((fRow f13.1.2.1 307 kR_219_307).trans e19)
  have e45 : hV H3 308 = hV H0 308 := (fRow f17.1.2.1 308 kR_236_308).trans ((fRow f13.1.2.1 308 kR_219_308).trans e20)
  have e49 : hV H3 309 = hV H0 309 := (fRow f17.1.2.1 309 kR_236_309).trans ((fRow f13.1.2.1 309 kR_219_309).trans e21)
  have e53 : hV H3 310 = hV H0 310 := (fRow f17.1.2.1 310 kR_236_310).trans ((fRow f13.1.2.1 310 kR_219_310).trans e22)
  have e57 : hV H3 311 = hV H0 311 := (fRow f17.1.2.1 311 kR_236_311).trans ((fRow f13.1.2.1 311 kR_219_311).trans e23)
  have e60 : hV H3 317 = hV H1 317 := (fRow f17.1.2.1 317 kR_236_317).trans (fRow f13.1.2.1 317 kR_219_317)
  have e63 : hV H3 318 = hV H1 318 := (fRow f17.1.2.1 318 kR_236_318).trans (fRow f13.1.2.1 318 kR_219_318)
  have e66 : hV H3 319 = hV H1 319 := (fRow f17.1.2.1 319 kR_236_319).trans (fRow f13.1.2.1 319 kR_219_319)
  have e67 : (0 : Int) ≤ hV H1 285 11 ∧ hV H1 285 11 ≤ 500 := f12.1.2.2 285 11 _ _ kW_285_11
  have e68 : (0 : Int) ≤ hV H1 285 12 ∧ hV H1 285 12 ≤ 7 := f12.1.2.2 285 12 _ _ kW_285_12
  have e69 : (0 : Int) ≤ hV H1 285 13 ∧ hV H1 285 13 ≤ 2 := f12.1.2.2 285 13 _ _ kW_285_13
  have e70 : (0 : Int) ≤ hV H0 285 34 ∧ hV H0 285 34 ≤ 1 := bTo e15 (f12.1.2.2 285 34 _ _ kW_285_34)
  have e71 : (0 : Int) ≤ hV H0 285 35 ∧ hV H0 285 35 ≤ 1 := bTo e17 (f12.1.2.2 285 35 _ _ kW_285_35)
  have e72 : (0 : Int) ≤ hV H1 285 44 ∧ hV H1 285 44 ≤ 400 := f12.1.2.2 285 44 _ _ kW_285_44
  have e73 : (0 : Int) ≤ hV H1 285 51 ∧ hV H1 285 51 ≤ 1200 := f12.1.2.2 285 51 _ _ kW_285_51
  have e74 : (0 : Int) ≤ hV H2 285 11 ∧ hV H2 285 11 ≤ 500 := f13.1.2.2.2 285 11 _ _ kW_285_11
  have e75 : (0 : Int) ≤ hV H2 285 13 ∧ hV H2 285 13 ≤ 2 := f13.1.2.2.2 285 13 _ _ kW_285_13
  have e77 : (0 : Int) ≤ hV H3 285 11 ∧ hV H3 285 11 ≤ 500 := f17.1.2.2.2 285 11 _ _ kW_285_11
  have e78 : (0 : Int) ≤ hV H3 285 12 ∧ hV H3 285 12 ≤ 7 := f17.1.2.2.2 285 12 _ _ kW_285_12
  have e79 : (0 : Int) ≤ hV H3 285 13 ∧ hV H3 285 13 ≤ 2 := f17.1.2.2.2 285 13 _ _ kW_285_13
  have e83 : (0 : Int) ≤ hV H3 285 51 ∧ hV H3 285 51 ≤ 1200 := f17.1.2.2.2 285 51 _ _ kW_285_51
  try simp only [RR]
  have k0 := g4.1
  have y0 := g4.2.1
  have y1 := g4.2.2.1
  have y2 := g4.2.2.2.1
  have y3 := g4.2.2.2.2.1
  have y4 := g4.2.2.2.2.2.1
  have y5 := g4.2.2.2.2.2.2.1
  have y6 := g4.2.2.2.2.2.2.2.1
  have y7 := g4.2.2.2.2.2.2.2.2.1
  have y8 := g4.2.2.2.2.2.2.2.2.2.1
  have y9 := g4.2.2.2.2.2.2.2.2.2.2.1
  have y10 := g4.2.2.2.2.2.2.2.2.2.2.2.1
  have y11 := g4.2.2.2.2.2.2.2.2.2.2.2.2.1
  have y12 := g4.2.2.2.2.2.2.2.2.2.2.2.2.2
  have p0 := g3.1
  have p1 := g3.2.1
  have p2 := g3.2.2.1
  have p3 := g3.2.2.2.1
  have p4 := g3.2.2.2.2.1
  have p5 := g3.2.2.2.2.2.1
  have p6 := g3.2.2.2.2.2.2
  have r0_0 := f13.2.1
  have r0_1 := f13.2.2.1
  have r0_2 := f13.2.2.2.1
  have r0_3 := f13.2.2.2.2
  have r1_0 := f17.2.1
  have r1_1 := f17.2.2.1
  have r1_2 := f17.2.2.2.1
  have r1_3 := f17.2.2.2.2.1
  have r1_4 := f17.2.2.2.2.2.1
  have r1_5 := f17.2.2.2.2.2.2.1
  have r1_6 := f17.2.2.2.2.2.2.2.1
  have r1_7 := f17.2.2.2.2.2.2.2.2
  try simp only [RR] at y0
  try simp only [RR] at p0
  try simp only [RR] at r1_0
  try simp only [e15, e17, e18, e19, e20, e21, e22, e23] at y0
  try simp only [e17] at y6
  try simp only [e29, e32, e33, e37, e41, e45, e49, e53, e57, e60, e63, e66] at r1_0
  try simp only [e24, e25, e26] at r1_1
  try simp only [e24] at r1_6
  try simp only [e32] at r1_7
  clear g3
  clear g4
  clear f16 f20 f23 f26 f29 f32 f36 f39 f43 f46 f50 e15 e17 e18 e19 e20 e21 e22 e23 e24 e25 e26 e29 e32 e33 e37 e41 e45 e49 e53 e57 e60 e63 e66
  clear f12 f13 f17
  subst e1
  subst e2
  subst e5
  subst e7
  subst e9
  subst e11
  subst e13
  try subst k0
  omega
def g_233_85_7 : vG := ([(20, [20, 2], [7], 44), (90, [20], [], 0), (91, [20], [], 400), (80, [17, 18, 5], [7, 6], 0), (20, [18, 2], [6], 44), (90, [18], [], 0), (91, [18], [], 400), (20, [17, 2], [6], 48), (0, [17], [], 317), (80, [14, 15, 16], [6, 5], 0), (16, [16, 3], [], 0), (20, [15, 2], [5], 44), (90, [15], [], 0), (91, [15], [], 400), (20, [14, 2], [5], 47), (0, [14], [], 316), (80, [11, 12, 13], [5, 4], 0), (16, [13, 4], [], 0), (20, [12, 2], [4], 44), (90, [12], [], 0), (91, [12], [], 400), (20, [11, 2], [4], 46), (0, [11], [], 315), (80, [9, 10, 6], [4, 3], 0), (20, [10, 2], [3], 44), (90, [10], [], 0), (91, [10], [], 400), (20, [9, 2], [3], 45), (0, [9], [], 314), (35, [8], [], 0), (20, [8, 2], [3], 13), (90, [8], [], 0), (91, [8], [], 2), (1236, [2], [2, 3], 0), (20, [7, 2], [2], 51), (90, [7], [], 0), (91, [7], [], 1200), (1219, [2], [1, 2], 0), (5000, [0, 1, 2, 3, 4, 5, 6], [0, 1], 85), (0, [0], [], 285), (90, [1], [], 0), (91, [1], [], 1), (0, [2], [], 285), (90, [3], [], 0), (91, [3], [], 1), (90, [4], [], 0), (91, [4], [], 1), (90, [5], [], 0), (91, [5], [], 1200), (90, [6], [], -2147483648), (91, [6], [], 2147483647)], (70, [20], [], 400))
theorem c_233_85_7 {q0 : Nat} : vOkm T0 (eP e_233 L_233 A_233 mu_233 (some q0)) 2 g_233_85_7 := vOk_inI fun ρ η f0 f1 f2 f3 f4 f5 f6 f7 f8 f9 f10 f11 f12 f13 f14 f15 f16 f17 f18 f19 f20 f21 f22 f23 f24 f25 f26 f27 f28 f29 f30 f31 f32 f33 f34 f35 f36 f37 f38 f39 f40 f41 f42 f43 f44 f45 f46 f47 f48 f49 f50 => q_233_19 (q0 := q0) (n0 := ρ 6) (n1 := ρ 5) (n2 := ρ 4) (n3 := ρ 3) (n4 := ρ 2) (n5 := ρ 1) (n6 := ρ 0) (n7 := ρ 7) (n8 := ρ 8) (n9 := ρ 9) (n10 := ρ 10) (n11 := ρ 11) (n12 := ρ 12) (n13 := ρ 13) (n14 := ρ 14) (n15 := ρ 15) (n16 := ρ 16) (n17 := ρ 17) (n18 := ρ 18) (n19 := ρ 20) (H0 := η 0) (H1 := η 1) (H2 := η 2) (H3 := η 3) (H4 := η 4) (H5 := η 5) (H6 := η 6) (H7 := η 7) f50 f49 f48 f47 f46 f45 f44 f43 f42 f41 f40 f39 f38 f37 f36 f35 f34 f33 f32 f31 f30 f29 f28 f27 f26 f25 f24 f23 f22 f21 f20 f19 f18 f17 f16 f15 f14 f13 f12 f11 f10 f9 f8 f7 f6 f5 f4 f3 f2 f1 f0
set_option maxHeartbeats 20000000 in
theorem q_233_20 {q0 : Nat} {n0 n1 n2 n3 n4 n5 n6 n7 n8 n9 n10 n11 n12 n13 n14 n15 n16 n17 n18 n19 n20 n21 n22 : Int} {H0 H1 H2 H3 H4 H5 H6 H7 H8 : gH} (f0 : n0 ≤ 2147483647) (f1 : (-2147483648) ≤ n0) (f2 : n1 ≤ 1200) (f3 : 0 ≤ n1) (f4 : n2 ≤ 1) (f5 : 0 ≤ n2) (f6 : n3 ≤ 1) (f7 : 0 ≤ n3) (f8 : n4 = 285) (f9 : n5 ≤ 1) (f10 : 0 ≤ n5) (f11 : n6 = 285) (f12 : (hLe T0 H0 H1 ∧ hFr s_233.2.2.2.2 H0 H1 ∧ hWt T0 H1) ∧ (Ab_233_85 n6 n5 n4 n3 n2 n1 n0 H0 H1 ∧ preb_233 n6 n5 H0) ∧ some q0 = some (mub_233_85 n6 n5 n4 n3 n2 n1 n0 H0 H1)) (f13 : (hLe T0 H1 H2 ∧ hFr s_219.2.2.2.2 H1 H2 ∧ ((0 : Int) = 0 → H2.length = H1.length) ∧ hWt T0 H2) ∧ postb_219 n4 H1 H2) (f14 : n7 ≤ 1200) (f15 : 0 ≤ n7) (f16 : n7 = hV H2 (n4).toNat 51) (f17 : (hLe T0 H2 H3 ∧ hFr s_236.2.2.2.2 H2 H3 ∧ ((0 : Int) = 0 → H3.length = H2.length) ∧ hWt T0 H3) ∧ postb_236 n4 H2 H3) (f18 : n8 ≤ 2) (f19 : 0 ≤ n8) (f20 : n8 = hV H3 (n4).toNat 13) (f21 : n8 ≤ 0) (f22 : n9 = 314) (f23 : n9 = hV H3 (n4).toNat 45) (f24 : n10 ≤ 400) (f25 : 0 ≤ n10) (f26 : n10 = hV H3 (n4).toNat 44) (f27 : hUpd H4 H3 n9 n10 n0) (f28 : n11 = 315) (f29 : n11 = hV H4 (n4).toNat 46) (f30 : n12 ≤ 400) (f31 : 0 ≤ n12) (f32 : n12 = hV H4 (n4).toNat 44) (f33 : n13 = o32 (fun x _ => x &&& 1) n2 0) (f34 : hUpd H5 H4 n11 n12 n13) (f35 : n14 = 316) (f36 : n14 = hV H5 (n4).toNat 47) (f37 : n15 ≤ 400) (f38 : 0 ≤ n15) (f39 : n15 = hV H5 (n4).toNat 44) (f40 : n16 = o32 (fun x _ => x &&& 1) n3 0) (f41 : hUpd H6 H5 n14 n15 n16) (f42 : n17 = 317) (f43 : n17 = hV H6 (n4).toNat 48) (f44 : n18 ≤ 400) (f45 : 0 ≤ n18) (f46 : n18 = hV H6 (n4).toNat 44) (f47 : hUpd H7 H6 n17 n18 n1) (f48 : n19 = 318) (f49 : n19 = hV H7 (n4).toNat 49) (f50 : n20 ≤ 400) (f51 : 0 ≤ n20) (f52 : n20 = hV H7 (n4).toNat 44) (f53 : hUpd H8 H7 n19 n20 n7) (f54 : n21 ≤ 400) (f55 : 0 ≤ n21) (f56 : n21 = hV H8 (n4).toNat 44) (f57 : n22 ≤ 1200) (f58 : 0 ≤ n22) (f59 : n22 = hV H8 (n4).toNat 51) : 0 ≤ n21 ∧ n21 < 400 := by
  have g4 := f12.2.1.1
  unfold Ab_233_85 at g4
  have g3 := f12.2.1.2
  unfold preb_233 at g3
  unfold postb_219 at f13
  unfold postb_236 at f17
  have e1 : n7 = hV H1 285 51 := (by rw [f8] at f16; exact f16 : n7 = hV H2 285 51).trans ((f13.1.2.1.1 285 51 kF_219_285_51))
  have e2 : n8 = hV H3 285 13 := (by rw [f8] at f20; exact f20 : n8 = hV H3 285 13)
  have e5 : n10 = hV H1 285 44 := (by rw [f8] at f26; exact f26 : n10 = hV H3 285 44).trans (((f17.1.2.1.1 285 44 kF_236_285_44)).trans (f13.1.2.1.1 285 44 kF_219_285_44))
  have e7 : n12 = hV H1 285 44 := (by rw [f8] at f32; exact f32 : n12 = hV H4 285 44).trans (((uPlace f27 285 44 (iS (show n9 = ((314 : Nat) : Int) from f22) rfl))).trans (((f17.1.2.1.1 285 44 kF_236_285_44)).trans (f13.1.2.1.1 285 44 kF_219_285_44)))
  have e9 : n15 = hV H1 285 44 := (by rw [f8] at f39; exact f39 : n15 = hV H5 285 44).trans (((uPlace f34 285 44 (iS (show n11 = ((315 : Nat) : Int) from f28) rfl))).trans (((uPlace f27 285 44 (iS (show n9 = ((314 : Nat) : Int) from f22) rfl))).trans (((f17.1.2.1.1 285 44 kF_236_285_44)).trans (f13.1.2.1.1 285 44 kF_219_285_44))))
  have e11 : n18 = hV H1 285 44 := (by rw [f8] at f46; exact f46 : n18 = hV H6 285 44).trans (((uPlace f41 285 44 (iS (show n14 = ((316 : Nat) : Int) from f35) rfl))).trans (((uPlace f34 285 44 (iS (show n11 = ((315 : Nat) : Int) from f28) rfl))).trans (((uPlace f27 285 44 (iS (show n9 = ((314 : Nat) : Int) from f22) rfl))).trans (((f17.1.2.1.1 285 44 kF_236_285_44)).trans (f13.1.2.1.1 285 44 kF_219_285_44)))))
  have e13 : n20 = hV H1 285 44 := (by rw [f8] at f52; exact f52 : n20 = hV H7 285 44).trans (((uPlace f47 285 44 (iS (show n17 = ((317 : Nat) : Int) from f42) rfl))).trans (((uPlace f41 285 44 (iS (show n14 = ((316 : Nat) : Int) from f35) rfl))).trans (((uPlace f34 285 44 (iS (show n11 = ((315 : Nat) : Int) from f28) rfl))).trans (((uPlace f27 285 44 (iS (show n9 = ((314 : Nat) : Int) from f22) rfl))).trans (((f17.1.2.1.1 285 44 kF_236_285_44)).trans (f13.1.2.1.1 285 44 kF_219_285_44))))))
  have e15 : n21 = hV H1 285 44 := (by rw [f8] at f56; exact f56 : n21 = hV H8 285 44).trans (((uPlace f53 285 44 (iS (show n19 = ((318 : Nat) : Int) from f48) rfl))).trans (((uPlace f47 285 44 (iS (show n17 = ((317 : Nat) : Int) from f42) rfl))).trans (((uPlace f41 285 44 (iS (show n14 = ((316 : Nat) : Int) from f35) rfl))).trans (((uPlace f34 285 44 (iS (show n11 = ((315 : Nat) : Int) from f28) rfl))).trans (((uPlace f27 285 44 (iS (show n9 = ((314 : Nat) : Int) from f22) rfl))).trans (((f17.1.2.1.1 285 44 kF_236_285_44)).trans (f13.1.2.1.1 285 44 kF_219_285_44)))))))
  have e21 : n22 = hV H3 285 51 := (by rw [f8] at f59; exact f59 : n22 = hV H8 285 51).trans (((uPlace f53 285 51 (iS (show n19 = ((318 : Nat) : Int) from f48) rfl))).trans (((uPlace f47 285 51 (iS (show n17 = ((317 : Nat) : Int) from f42) rfl))).trans (((uPlace f41 285 51 (iS (show n14 = ((316 : Nat) : Int) from f35) rfl))).trans (((uPlace f34 285 51 (iS (show n11 = ((315 : Nat) : Int) from f28) rfl))).trans (uPlace f27 285 51 (iS (show n9 = ((314 : Nat) : Int) from f22) rfl))))))
  have e23 : hV H1 285 34 = hV H0 285 34 := (f12.1.2.1.1 285 34 kF_233_285_34)
  have e25 : hV H1 285 35 = hV H0 285 35 := (f12.1.2.1.1 285 35 kF_233_285_35)
  have e26 : hV H1 306 = hV H0 306 := fRow f12.1.2.1 306 kR_233_306
  have e27 : hV H1 307 = hV H0 307 := fRow f12.1.2.1 307 kR_233_307
  have e28 : hV H1 308 = hV H0 308 := fRow f12.1.2.1 308 kR_233_308
  have e29 : hV H1 309 = hV H0 309 := fRow f12.1.2.1 309 kR_233_309
  have e30 : hV H1 310 = hV H0 310 := fRow f12.1.2.1 310 kR_233_310
  have e31 : hV H1 311 = hV H0 311 := fRow f12.1.2.1 311 kR_233_311
  have e32 : hV H2 285 51 = hV H1 285 51 := (f13.1.2.1.1 285 51 kF_219_285_51)
  have e33 : hV H2 320 = hV H1 320 := fRow f13.1.2.1 320 kR_219_320
  have e34 : hV H2 321 = hV H1 321 := fRow f13.1.2.1 321 kR_219_321
  have e37 : hV H3 285 34 = hV H0 285 34 := ((f17.1.2.1.1 285 34 kF_236_285_34)).trans (((f13.1.2.1.1 285 34 kF_219_285_34)).trans (f12.1.2.1.1 285 34 kF_233_285_34))
  have e40 : hV H3 285 35 = hV H0 285 35 := ((f17.1.2.1.1 285 35 kF_236_285_35)).trans (((f13.1.2.1.1 285 35 kF_219_285_35)).trans (f12.1.2.1.1 285 35 kF_233_285_35))
  have e41 : hV H3 285 44 = hV H1 285 44 := ((f17.1.2.1.1 285 44 kF_236_285_44)).trans (f13.1.2.1.1 285 44 kF_219_285_44)
  have e45 : hV H3 306 = hV H0 306 := (fRow f17.1.2.1 306 kR_236_306).trans ((fRow f13.1.2.1 306 kR_219_306).trans e26)
  have e49 : hV H3 307 = hV H0 307 := (fRow f17.1.2.1 307 kR_236_307).trans ((fRow f13.1.2.1 307 kR_219_307).trans e27)
  have e53 : hV H3 308 = hV H0 308 := (fRow f17.1.2.1 308 kR_236_308).trans ((fRow f13.1.2.1 308 kR_219_308).trans e28)
  have e57 : hV H3 309 = hV H0 309 := (fRow f17.1.2.1 309 kR_236_309).trans ((fRow f13.1.2.1 309 kR_219_309).trans e29)
  have e61 : hV H3 310 = hV H0 310 := (fRow f17.1.2.1 310 kR_236_310).trans ((fRow f13.1.2.1 310 kR_219_310).trans e30)
  have e65 : hV H3 311 = hV H0 311 := (fRow f17.1.2.1 311 kR_236_311).trans ((fRow f13.1.2.1 311 kR_219_311).trans e31)
  have e68 : hV H3 317 = hV H1 317 := (fRow f17.1.2.1 317 kR_236_317).trans (fRow f13.1.2.1 317 kR_219_317)
  have e71 : hV H3 318 = hV H1 318 := (fRow f17.1.2.1 318 kR_236_318).trans (fRow f13.1.2.1 318 kR_219_318)
  have e74 : hV H3 319 = hV H1 319 := (fRow f17.1.2.1 319 kR_236_319).trans (fRow f13.1.2.1 319 kR_219_319)
  have e75 : (0 : Int) ≤ hV H1 285 11 ∧ hV H1 285 11 ≤ 500 := f12.1.2.2 285 11 _ _ kW_285_11
  have e76 : (0 : Int) ≤ hV H1 285 12 ∧ hV H1 285 12 ≤ 7 := f12.1.2.2 285 12 _ _ kW_285_12
  have e77 : (0 : Int) ≤ hV H1 285 13 ∧ hV H1 285 13 ≤ 2 := f12.1.2.2 285 13 _ _ kW_285_13
  have e78 : (0 : Int) ≤ hV H0 285 34 ∧ hV H0 285 34 ≤ 1 := bTo e23 (f12.1.2.2 285 34 _ _ kW_285_34)
  have e79 : (0 : Int) ≤ hV H0 285 35 ∧ hV H0 285 35 ≤ 1 := bTo e25 (f12.1.2.2 285 35 _ _ kW_285_35)
  have e80 : (0 : Int) ≤ hV H1 285 44 ∧ hV H1 285 44 ≤ 400 := f12.1.2.2 285 44 _ _ kW_285_44
  have e81 : (0 : Int) ≤ hV H1 285 51 ∧ hV H1 285 51 ≤ 1200 := f12.1.2.2 285 51 _ _ kW_285_51
  have e82 : (0 : Int) ≤ hV H2 285 11 ∧ hV H2 285 11 ≤ 500 := f13.1.2.2.2 285 11 _ _ kW_285_11
  have e83 : (0 : Int) ≤ hV H2 285 13 ∧ hV H2 285 13 ≤ 2 := f13.1.2.2.2 285 13 _ _ kW_285_13
  have e85 : (0 : Int) ≤ hV H3 285 11 ∧ hV H3 285 11 ≤ 500 := f17.1.2.2.2 285 11 _ _ kW_285_11
  have e86 : (0 : Int) ≤ hV H3 285 12 ∧ hV H3 285 12 ≤ 7 := f17.1.2.2.2 285 12 _ _ kW_285_12
  have e87 : (0 : Int) ≤ hV H3 285 13 ∧ hV H3 285 13 ≤ 2 := f17.1.2.2.2 285 13 _ _ kW_285_13
  have e91 : (0 : Int) ≤ hV H3 285 51 ∧ hV H3 285 51 ≤ 1200 := f17.1.2.2.2 285 51 _ _ kW_285_51
  try simp only [RR]
  have k0 := g4.1
  have y0 := g4.2.1
  have y1 := g4.2.2.1
  have y2 := g4.2.2.2.1
  have y3 := g4.2.2.2.2.1
  have y4 := g4.2.2.2.2.2.1
  have y5 := g4.2.2.2.2.2.2.1
  have y6 := g4.2.2.2.2.2.2.2.1
  have y7 := g4.2.2.2.2.2.2.2.2.1
  have y8 := g4.2.2.2.2.2.2.2.2.2.1
  have y9 := g4.2.2.2.2.2.2.2.2.2.2.1
  have y10 := g4.2.2.2.2.2.2.2.2.2.2.2.1
  have y11 := g4.2.2.2.2.2.2.2.2.2.2.2.2.1
  have y12 := g4.2.2.2.2.2.2.2.2.2.2.2.2.2
  have p0 := g3.1
  have p1 := g3.2.1
  have p2 := g3.2.2.1
  have p3 := g3.2.2.2.1
  have p4 := g3.2.2.2.2.1
  have p5 := g3.2.2.2.2.2.1
  have p6 := g3.2.2.2.2.2.2
  have r0_0 := f13.2.1
  have r0_1 := f13.2.2.1
  have r0_2 := f13.2.2.2.1
  have r0_3 := f13.2.2.2.2
  have r1_0 := f17.2.1
  have r1_1 := f17.2.2.1
  have r1_2 := f17.2.2.2.1
  have r1_3 := f17.2.2.2.2.1
  have r1_4 := f17.2.2.2.2.2.1
  have r1_5 := f17.2.2.2.2.2.2.1
  have r1_6 := f17.2.2.2.2.2.2.2.1
  have r1_7 := f17.2.2.2.2.2.2.2.2
  try simp only [RR] at y0
  try simp only [RR] at p0
  try simp only [RR] at r1_0
  try simp only [e23, e25, e26, e27, e28, e29, e30, e31] at y0
  try simp only [e25] at y6
  try simp only [e37, e40, e41, e45, e49, e53, e57, e61, e65, e68, e71, e74] at r1_0
  try simp only [e32, e33, e34] at r1_1
  try simp only [e32] at r1_6
  try simp only [e40] at r1_7
  clear g3
  clear g4
  clear f16 f20 f23 f26 f29 f32 f36 f39 f43 f46 f49 f52 f56 f59 e23 e25 e26 e27 e28 e29 e30 e31 e32 e33 e34 e37 e40 e41 e45 e49 e53 e57 e61 e65 e68 e71 e74
  clear f12 f13 f17
  subst e1
  subst e2
  subst e5
  subst e7
  subst e9
  subst e11
  subst e13
  subst e15
  subst e21
  try subst k0
  omega
def g_233_85_8 : vG := ([(20, [23, 2], [8], 51), (90, [23], [], 0), (91, [23], [], 1200), (20, [22, 2], [8], 44), (90, [22], [], 0), (91, [22], [], 400), (80, [19, 20, 7], [8, 7], 0), (20, [20, 2], [7], 44), (90, [20], [], 0), (91, [20], [], 400), (20, [19, 2], [7], 49), (0, [19], [], 318), (80, [17, 18, 5], [7, 6], 0), (20, [18, 2], [6], 44), (90, [18], [], 0), (91, [18], [], 400), (20, [17, 2], [6], 48), (0, [17], [], 317), (80, [14, 15, 16], [6, 5], 0), (16, [16, 3], [], 0), (20, [15, 2], [5], 44), (90, [15], [], 0), (91, [15], [], 400), (20, [14, 2], [5], 47), (0, [14], [], 316), (80, [11, 12, 13], [5, 4], 0), (16, [13, 4], [], 0), (20, [12, 2], [4], 44), (90, [12], [], 0), (91, [12], [], 400), (20, [11, 2], [4], 46), (0, [11], [], 315), (80, [9, 10, 6], [4, 3], 0), (20, [10, 2], [3], 44), (90, [10], [], 0), (91, [10], [], 400), (20, [9, 2], [3], 45), (0, [9], [], 314), (35, [8], [], 0), (20, [8, 2], [3], 13), (90, [8], [], 0), (91, [8], [], 2), (1236, [2], [2, 3], 0), (20, [7, 2], [2], 51), (90, [7], [], 0), (91, [7], [], 1200), (1219, [2], [1, 2], 0), (5000, [0, 1, 2, 3, 4, 5, 6], [0, 1], 85), (0, [0], [], 285), (90, [1], [], 0), (91, [1], [], 1), (0, [2], [], 285), (90, [3], [], 0), (91, [3], [], 1), (90, [4], [], 0), (91, [4], [], 1), (90, [5], [], 0), (91, [5], [], 1200), (90, [6], [], -2147483648), (91, [6], [], 2147483647)], (70, [22], [], 400))
theorem c_233_85_8 {q0 : Nat} : vOkm T0 (eP e_233 L_233 A_233 mu_233 (some q0)) 2 g_233_85_8 := vOk_inI fun ρ η f0 f1 f2 f3 f4 f5 f6 f7 f8 f9 f10 f11 f12 f13 f14 f15 f16 f17 f18 f19 f20 f21 f22 f23 f24 f25 f26 f27 f28 f29 f30 f31 f32 f33 f34 f35 f36 f37 f38 f39 f40 f41 f42 f43 f44 f45 f46 f47 f48 f49 f50 f51 f52 f53 f54 f55 f56 f57 f58 f59 => q_233_20 (q0 := q0) (n0 := ρ 6) (n1 := ρ 5) (n2 := ρ 4) (n3 := ρ 3) (n4 := ρ 2) (n5 := ρ 1) (n6 := ρ 0) (n7 := ρ 7) (n8 := ρ 8) (n9 := ρ 9) (n10 := ρ 10) (n11 := ρ 11) (n12 := ρ 12) (n13 := ρ 13) (n14 := ρ 14) (n15 := ρ 15) (n16 := ρ 16) (n17 := ρ 17) (n18 := ρ 18) (n19 := ρ 19) (n20 := ρ 20) (n21 := ρ 22) (n22 := ρ 23) (H0 := η 0) (H1 := η 1) (H2 := η 2) (H3 := η 3) (H4 := η 4) (H5 := η 5) (H6 := η 6) (H7 := η 7) (H8 := η 8) f59 f58 f57 f56 f55 f54 f53 f52 f51 f50 f49 f48 f47 f46 f45 f44 f43 f42 f41 f40 f39 f38 f37 f36 f35 f34 f33 f32 f31 f30 f29 f28 f27 f26 f25 f24 f23 f22 f21 f20 f19 f18 f17 f16 f15 f14 f13 f12 f11 f10 f9 f8 f7 f6 f5 f4 f3 f2 f1 f0
set_option maxHeartbeats 20000000 in
theorem q_233_21 {q0 : Nat} {n0 n1 n2 : Int} {H0 : gH} (f0 : n0 ≤ 400) (f1 : 0 ≤ n0) (f2 : n1 = 1) (f3 : n2 = w32 (n0 + n1)) : 0 ≤ n2 := by
  first
  | (have ix0 : n2 = n0 + 1 := Eq.trans f3 (w32_iv (Iad (Iat f1 f0) (IC 1)) (by decide)); subst ix0; clear f3)
  | (have ix0 : n2 = n0 + 1 := Eq.trans f3 (w32_id (by omega) (by omega)); subst ix0; clear f3)
  | (unfold w32 at f3; have ix0 : n2 = n0 + 1 := (by omega); subst ix0)
  | skip
  try unfold w32 at f3
  omega
def g_233_85_9 : vG := ([(1, [26, 24, 25], [], 0), (0, [25], [], 1), (90, [24], [], 0), (91, [24], [], 400)], (90, [26], [], 0))
theorem c_233_85_9 {q0 : Nat} : vOkm T0 (eP e_233 L_233 A_233 mu_233 (some q0)) 2 g_233_85_9 := vOk_inI fun ρ η f0 f1 f2 f3 => q_233_21 (q0 := q0) (n0 := ρ 24) (n1 := ρ 25) (n2 := ρ 26) (H0 := η 0) f3 f2 f1 f0
set_option maxHeartbeats 20000000 in
theorem q_233_22 {q0 : Nat} {n0 n1 n2 n3 n4 n5 n6 n7 n8 n9 n10 n11 n12 n13 n14 n15 n16 n17 n18 n19 n20 n21 n22 n23 n24 n25 n26 : Int} {H0 H1 H2 H3 H4 H5 H6 H7 H8 H9 : gH} (f0 : n0 ≤ 2147483647) (f1 : (-2147483648) ≤ n0) (f2 : n1 ≤ 1200) (f3 : 0 ≤ n1) (f4 : n2 ≤ 1) (f5 : 0 ≤ n2) (f6 : n3 ≤ 1) (f7 : 0 ≤ n3) (f8 : n4 = 285) (f9 : n5 ≤ 1) (f10 : 0 ≤ n5) (f11 : n6 = 285) (f12 : (hLe T0 H0 H1 ∧ hFr s_233.2.2.2.2 H0 H1 ∧ hWt T0 H1) ∧ (Ab_233_85 n6 n5 n4 n3 n2 n1 n0 H0 H1 ∧ preb_233 n6 n5 H0) ∧ some q0 = some (mub_233_85 n6 n5 n4 n3 n2 n1 n0 H0 H1)) (f13 : (hLe T0 H1 H2 ∧ hFr s_219.2.2.2.2 H1 H2 ∧ ((0 : Int) = 0 → H2.length = H1.length) ∧ hWt T0 H2) ∧ postb_219 n4 H1 H2) (f14 : n7 ≤ 1200) (f15 : 0 ≤ n7) (f16 : n7 = hV H2 (n4).toNat 51) (f17 : (hLe T0 H2 H3 ∧ hFr s_236.2.2.2.2 H2 H3 ∧ ((0 : Int) = 0 → H3.length = H2.length) ∧ hWt T0 H3) ∧ postb_236 n4 H2 H3) (f18 : n8 ≤ 2) (f19 : 0 ≤ n8) (f20 : n8 = hV H3 (n4).toNat 13) (f21 : n8 ≤ 0) (f22 : n9 = 314) (f23 : n9 = hV H3 (n4).toNat 45) (f24 : n10 ≤ 400) (f25 : 0 ≤ n10) (f26 : n10 = hV H3 (n4).toNat 44) (f27 : hUpd H4 H3 n9 n10 n0) (f28 : n11 = 315) (f29 : n11 = hV H4 (n4).toNat 46) (f30 : n12 ≤ 400) (f31 : 0 ≤ n12) (f32 : n12 = hV H4 (n4).toNat 44) (f33 : n13 = o32 (fun x _ => x &&& 1) n2 0) (f34 : hUpd H5 H4 n11 n12 n13) (f35 : n14 = 316) (f36 : n14 = hV H5 (n4).toNat 47) (f37 : n15 ≤ 400) (f38 : 0 ≤ n15) (f39 : n15 = hV H5 (n4).toNat 44) (f40 : n16 = o32 (fun x _ => x &&& 1) n3 0) (f41 : hUpd H6 H5 n14 n15 n16) (f42 : n17 = 317) (f43 : n17 = hV H6 (n4).toNat 48) (f44 : n18 ≤ 400) (f45 : 0 ≤ n18) (f46 : n18 = hV H6 (n4).toNat 44) (f47 : hUpd H7 H6 n17 n18 n1) (f48 : n19 = 318) (f49 : n19 = hV H7 (n4).toNat 49) (f50 : n20 ≤ 400) (f51 : 0 ≤ n20) (f52 : n20 = hV H7 (n4).toNat 44) (f53 : hUpd H8 H7 n19 n20 n7) (f54 : n21 = 319) (f55 : n21 = hV H8 (n4).toNat 50) (f56 : n22 ≤ 400) (f57 : 0 ≤ n22) (f58 : n22 = hV H8 (n4).toNat 44) (f59 : n23 ≤ 1200) (f60 : 0 ≤ n23) (f61 : n23 = hV H8 (n4).toNat 51) (f62 : hUpd H9 H8 n21 n22 n23) (f63 : n24 ≤ 400) (f64 : 0 ≤ n24) (f65 : n24 = hV H9 (n4).toNat 44) (f66 : n25 = 1) (f67 : n26 = w32 (n24 + n25)) : n26 ≤ 400 := by
  have g4 := f12.2.1.1
  unfold Ab_233_85 at g4
  have g3 := f12.2.1.2
  unfold preb_233 at g3
  unfold postb_219 at f13
  unfold postb_236 at f17
  have e1 : n7 = hV H1 285 51 := (by rw [f8] at f16; exact f16 : n7 = hV H2 285 51).trans ((f13.1.2.1.1 285 51 kF_219_285_51))
  have e2 : n8 = hV H3 285 13 := (by rw [f8] at f20; exact f20 : n8 = hV H3 285 13)
  have e5 : n10 = hV H1 285 44 := (by rw [f8] at f26; exact f26 : n10 = hV H3 285 44).trans (((f17.1.2.1.1 285 44 kF_236_285_44)).trans (f13.1.2.1.1 285 44 kF_219_285_44))
  have e7 : n12 = hV H1 285 44 := (by rw [f8] at f32; exact f32 : n12 = hV H4 285 44).trans (((uPlace f27 285 44 (iS (show n9 = ((314 : Nat) : Int) from f22) rfl))).trans (((f17.1.2.1.1 285 44 kF_236_285_44)).trans (f13.1.2.1.1 285 44 kF_219_285_44)))
  have e9 : n15 = hV H1 285 44 := (by rw [f8] at f39; exact f39 : n15 = hV H5 285 44).trans (((uPlace f34 285 44 (iS (show n11 = ((315 : Nat) : Int) from f28) rfl))).trans (((uPlace f27 285 44 (iS (show n9 = ((314 : Nat) : Int) from f22) rfl))).trans (((f17.1.2.1.1 285 44 kF_236_285_44)).trans (f13.1.2.1.1 285 44 kF_219_285_44))))
  have e11 : n18 = hV H1 285 44 := (by rw [f8] at f46; exact f46 : n18 = hV H6 285 44).trans (((uPlace f41 285 44 (iS (show n14 = ((316 : Nat) : Int) from f35) rfl))).trans (((uPlace f34 285 44 (iS (show n11 = ((315 : Nat) : Int) from f28) rfl))).trans (((uPlace f27 285 44 (iS (show n9 = ((314 : Nat) : Int) from f22) rfl))).trans (((f17.1.2.1.1 285 44 kF_236_285_44)).trans (f13.1.2.1.1 285 44 kF_219_285_44)))))
  have e13 : n20 = hV H1 285 44 := (by rw [f8] at f52; exact f52 : n20 = hV H7 285 44).trans (((uPlace f47 285 44 (iS (show n17 = ((317 : Nat) : Int) from f42) rfl))).trans (((uPlace f41 285 44 (iS (show n14 = ((316 : Nat) : Int) from f35) rfl))).trans (((uPlace f34 285 44 (iS (show n11 = ((315 : Nat) : Int) from f28) rfl))).trans (((uPlace f27 285 44 (iS (show n9 = ((314 : Nat) : Int) from f22) rfl))).trans (((f17.1.2.1.1 285 44 kF_236_285_44)).trans (f13.1.2.1.1 285 44 kF_219_285_44))))))
  have e15 : n22 = hV H1 285 44 := (by rw [f8] at f58; exact f58 : n22 = hV H8 285 44).trans (((uPlace f53 285 44 (iS (show n19 = ((318 : Nat) : Int) from f48) rfl))).trans (((uPlace f47 285 44 (iS (show n17 = ((317 : Nat) : Int) from f42) rfl))).trans (((uPlace f41 285 44 (iS (show n14 = ((316 : Nat) : Int) from f35) rfl))).trans (((uPlace f34 285 44 (iS (show n11 = ((315 : Nat) : Int) from f28) rfl))).trans (((uPlace f27 285 44 (iS (show n9 = ((314 : Nat) : Int) from f22) rfl))).trans (((f17.1.2.1.1 285 44 kF_236_285_44)).trans (f13.1.2.1.1 285 44 kF_219_285_44)))))))
  have e21 : n23 = hV H3 285 51 := (by rw [f8] at f61; exact f61 : n23 = hV H8 285 51).trans (((uPlace f53 285 51 (iS (show n19 = ((318 : Nat) : Int) from f48) rfl))).trans (((uPlace f47 285 51 (iS (show n17 = ((317 : Nat) : Int) from f42) rfl))).trans (((uPlace f41 285 51 (iS (show n14 = ((316 : Nat) : Int) from f35) rfl))).trans (((uPlace f34 285 51 (iS (show n11 = ((315 : Nat) : Int) from f28) rfl))).trans (uPlace f27 285 51 (iS (show n9 = ((314 : Nat) : Int) from f22) rfl))))))
  have e23 : n24 = hV H1 285 44 := (by rw [f8] at f65; exact f65 : n24 = hV H9 285 44).trans (((uPlace f62 285 44 (iS (show n21 = ((319 : Nat) : Int) from f54) rfl))).trans (((uPlace f53 285 44 (iS (show n19 = ((318 : Nat) : Int) from f48) rfl))).trans (((uPlace f47 285 44 (iS (show n17 = ((317 : Nat) : Int) from f42) rfl))).trans (((uPlace f41 285 44 (iS (show n14 = ((316 : Nat) : Int) from f35) rfl))).trans (((uPlace f34 285 44 (iS (show n11 = ((315 : Nat) : Int) from f28) rfl))).trans (((uPlace f27 285 44 (iS (show n9 = ((314 : Nat) : Int) from f22) rfl))).trans (((f17.1.2.1.1 285 44 kF_236_285_44)).trans (f13.1.2.1.1 285 44 kF_219_285_44))))))))
  have e25 : hV H1 285 34 = hV H0 285 34 := (f12.1.2.1.1 285 34 kF_233_285_34)
  have e27 : hV H1 285 35 = hV H0 285 35 := (f12.1.2.1.1 285 35 kF_233_285_35)
  have e28 : hV H1 306 = hV H0 306 := fRow f12.1.2.1 306 kR_233_306
  have e29 : hV H1 307 = hV H0 307 := fRow f12.1.2.1 307 kR_233_307
  have e30 : hV H1 308 = hV H0 308 := fRow f12.1.2.1 308 kR_233_308
  have e31 : hV H1 309 = hV H0 309 := fRow f12.1.2.1 309 kR_233_309
  have e32 : hV H1 310 = hV H0 310 := fRow f12.1.2.1 310 kR_233_310
  have e33 : hV H1 311 = hV H0 311 := fRow f12.1.2.1 311 kR_233_311
  have e34 : hV H2 285 51 = hV H1 285 51 := (f13.1.2.1.1 285 51 kF_219_285_51)
  have e35 : hV H2 320 = hV H1 320 := fRow f13.1.2.1 320 kR_219_320
  have e36 : hV H2 321 = hV H1 321 := fRow f13.1.2.1 321 kR_219_321
  have e39 : hV H3 285 34 = hV H0 285 34 := ((f17.1.2.1.1 285 34 kF_236_285_34)).trans (((f13.1.2.1.1 285 34 kF_219_285_34)).trans (f12.1.2.1.1 285 34 kF_233_285_34))
  have e42 : hV H3 285 35 = hV H0 285 35 := ((f17.1.2.1.1 285 35 kF_236_285_35)).trans (((f13.1.2.1.1 285 35 kF_219_285_35)).trans (f12.1.2.1.1 285 35 kF_233_285_35))
  have e43 : hV H3 285 44 = hV H1 285 44 := ((f17.1.2.1.1 285 44 kF_236_285_44)).trans (f13.1.2.1.1 285 44 kF_219_285_44)
  have e47 : hV H3 306 = hV H0 306 := (fRow f17.1.2.1 306 kR_236_306).trans ((fRow f13.1.2.1 306 kR_219_306).trans e28)
  have e51 : hV H3 307 = hV H0 307 := (fRow f17.1.2.1 307 kR_236_307).trans ((fRow f13.1.2.1 307 kR_219_307).trans e29)
  have e55 : hV H3 308 = hV H0 308 := (fRow f17.1.2.1 308 kR_236_308).trans ((fRow f13.1.2.1 308 kR_219_308).trans e30)
  have e59 : hV H3 309 = hV H0 309 := (fRow f17.1.2.1 309 kR_236_309).trans ((fRow f13.1.2.1 309 kR_219_309).trans e31)
  have e63 : hV H3 310 = hV H0 310 := (fRow f17.1.2.1 310 kR_236_310).trans ((fRow f13.1.2.1 310 kR_219_310).trans e32)
  have e67 : hV H3 311 = hV H0 311 := (fRow f17.1.2.1 311 kR_236_311).trans ((fRow f13.1.2.1 311 kR_219_311).trans e33)
  have e70 : hV H3 317 = hV H1 317 := (fRow f17.1.2.1 317 kR_236_317).trans (fRow f13.1.2.1 317 kR_219_317)
  have e73 : hV H3 318 = hV H1 318 := (fRow f17.1.2.1 318 kR_236_318).trans (fRow f13.1.2.1 318 kR_219_318)
  have e76 : hV H3 319 = hV H1 319 := (fRow f17.1.2.1 319 kR_236_319).trans (fRow f13.1.2.1 319 kR_219_319)
  have e77 : (0 : Int) ≤ hV H1 285 11 ∧ hV H1 285 11 ≤ 500 := f12.1.2.2 285 11 _ _ kW_285_11
  have e78 : (0 : Int) ≤ hV H1 285 12 ∧ hV H1 285 12 ≤ 7 := f12.1.2.2 285 12 _ _ kW_285_12
  have e79 : (0 : Int) ≤ hV H1 285 13 ∧ hV H1 285 13 ≤ 2 := f12.1.2.2 285 13 _ _ kW_285_13
  have e80 : (0 : Int) ≤ hV H0 285 34 ∧ hV H0 285 34 ≤ 1 := bTo e25 (f12.1.2.2 285 34 _ _ kW_285_34)
  have e81 : (0 : Int) ≤ hV H0 285 35 ∧ hV H0 285 35 ≤ 1 := bTo e27 (f12.1.2.2 285 35 _ _ kW_285_35)
  have e82 : (0 : Int) ≤ hV H1 285 44 ∧ hV H1 285 44 ≤ 400 := f12.1.2.2 285 44 _ _ kW_285_44
  have e83 : (0 : Int) ≤ hV H1 285 51 ∧ hV H1 285 51 ≤ 1200 := f12.1.2.2 285 51 _ _ kW_285_51
  have e84 : (0 : Int) ≤ hV H2 285 11 ∧ hV H2 285 11 ≤ 500 := f13.1.2.2.2 285 11 _ _ kW_285_11
  have e85 : (0 : Int) ≤ hV H2 285 13 ∧ hV H2 285 13 ≤ 2 := f13.1.2.2.2 285 13 _ _ kW_285_13
  have e87 : (0 : Int) ≤ hV H3 285 11 ∧ hV H3 285 11 ≤ 500 := f17.1.2.2.2 285 11 _ _ kW_285_11
  have e88 : (0 : Int) ≤ hV H3 285 12 ∧ hV H3 285 12 ≤ 7 := f17.1.2.2.2 285 12 _ _ kW_285_12
  have e89 : (0 : Int) ≤ hV H3 285 13 ∧ hV H3 285 13 ≤ 2 := f17.1.2.2.2 285 13 _ _ kW_285_13
  have e93 : (0 : Int) ≤ hV H3 285 51 ∧ hV H3 285 51 ≤ 1200 := f17.1.2.2.2 285 51 _ _ kW_285_51
  try simp only [RR]
  have k0 := g4.1
  have y0 := g4.2.1
  have y1 := g4.2.2.1
  have y2 := g4.2.2.2.1
  have y3 := g4.2.2.2.2.1
  have y4 := g4.2.2.2.2.2.1
  have y5 := g4.2.2.2.2.2.2.1
  have y6 := g4.2.2.2.2.2.2.2.1
  have y7 := g4.2.2.2.2.2.2.2.2.1
  have y8 := g4.2.2.2.2.2.2.2.2.2.1
  have y9 := g4.2.2.2.2.2.2.2.2.2.2.1
  have y10 := g4.2.2.2.2.2.2.2.2.2.2.2.1
  have y11 := g4.2.2.2.2.2.2.2.2.2.2.2.2.1
  have y12 := g4.2.2.2.2.2.2.2.2.2.2.2.2.2
  have p0 := g3.1
  have p1 := g3.2.1
  have p2 := g3.2.2.1
  have p3 := g3.2.2.2.1
  have p4 := g3.2.2.2.2.1
  have p5 := g3.2.2.2.2.2.1
  have p6 := g3.2.2.2.2.2.2
  have r0_0 := f13.2.1
  have r0_1 := f13.2.2.1
  have r0_2 := f13.2.2.2.1
  have r0_3 := f13.2.2.2.2
  have r1_0 := f17.2.1
  have r1_1 := f17.2.2.1
  have r1_2 := f17.2.2.2.1
  have r1_3 := f17.2.2.2.2.1
  have r1_4 := f17.2.2.2.2.2.1
  have r1_5 := f17.2.2.2.2.2.2.1
  have r1_6 := f17.2.2.2.2.2.2.2.1
  have r1_7 := f17.2.2.2.2.2.2.2.2
  try simp only [RR] at y0
  try simp only [RR] at p0
  try simp only [RR] at r1_0
  try simp only [e25, e27, e28, e29, e30, e31, e32, e33] at y0
  try simp only [e27] at y6
  try simp only [e39, e42, e43, e47, e51, e55, e59, e63, e67, e70, e73, e76] at r1_0
  try simp only [e34, e35, e36] at r1_1
  try simp only [e34] at r1_6
  try simp only [e42] at r1_7
  clear g3
  clear g4
  clear f16 f20 f23 f26 f29 f32 f36 f39 f43 f46 f49 f52 f55 f58 f61 f65 e25 e27 e28 e29 e30 e31 e32 e33 e34 e35 e36 e39 e42 e43 e47 e51 e55 e59 e63 e67 e70 e73 e76
  clear f12 f13 f17
  subst e1
  subst e2
  subst e5
  subst e7
  subst e9
  subst e11
  subst e13
  subst e15
  subst e21
  subst e23
  first
  | (have ix0 : n26 = hV H1 285 44 + 1 := Eq.trans f67 (w32_iv (Iad (Iat f25 f24) (IC 1)) (by decide)); subst ix0; clear f67)
  | (have ix0 : n26 = hV H1 285 44 + 1 := Eq.trans f67 (w32_id (by omega) (by omega)); subst ix0; clear f67)
  | (unfold w32 at f67; have ix0 : n26 = hV H1 285 44 + 1 := (by omega); subst ix0)
  | skip
  try unfold w32 at f67
  try subst k0
  omega
def g_233_85_10 : vG := ([(1, [26, 24, 25], [], 0), (0, [25], [], 1), (20, [24, 2], [9], 44), (90, [24], [], 0), (91, [24], [], 400), (80, [21, 22, 23], [9, 8], 0), (20, [23, 2], [8], 51), (90, [23], [], 0), (91, [23], [], 1200), (20, [22, 2], [8], 44), (90, [22], [], 0), (91, [22], [], 400), (20, [21, 2], [8], 50), (0, [21], [], 319), (80, [19, 20, 7], [8, 7], 0), (20, [20, 2], [7], 44), (90, [20], [], 0), (91, [20], [], 400), (20, [19, 2], [7], 49), (0, [19], [], 318), (80, [17, 18, 5], [7, 6], 0), (20, [18, 2], [6], 44), (90, [18], [], 0), (91, [18], [], 400), (20, [17, 2], [6], 48), (0, [17], [], 317), (80, [14, 15, 16], [6, 5], 0), (16, [16, 3], [], 0), (20, [15, 2], [5], 44), (90, [15], [], 0), (91, [15], [], 400), (20, [14, 2], [5], 47), (0, [14], [], 316), (80, [11, 12, 13], [5, 4], 0), (16, [13, 4], [], 0), (20, [12, 2], [4], 44), (90, [12], [], 0), (91, [12], [], 400), (20, [11, 2], [4], 46), (0, [11], [], 315), (80, [9, 10, 6], [4, 3], 0), (20, [10, 2], [3], 44), (90, [10], [], 0), (91, [10], [], 400), (20, [9, 2], [3], 45), (0, [9], [], 314), (35, [8], [], 0), (20, [8, 2], [3], 13), (90, [8], [], 0), (91, [8], [], 2), (1236, [2], [2, 3], 0), (20, [7, 2], [2], 51), (90, [7], [], 0), (91, [7], [], 1200), (1219, [2], [1, 2], 0), (5000, [0, 1, 2, 3, 4, 5, 6], [0, 1], 85), (0, [0], [], 285), (90, [1], [], 0), (91, [1], [], 1), (0, [2], [], 285), (90, [3], [], 0), (91, [3], [], 1), (90, [4], [], 0), (91, [4], [], 1), (90, [5], [], 0), (91, [5], [], 1200), (90, [6], [], -2147483648), (91, [6], [], 2147483647)], (91, [26], [], 400))
theorem c_233_85_10 {q0 : Nat} : vOkm T0 (eP e_233 L_233 A_233 mu_233 (some q0)) 2 g_233_85_10 := vOk_inI fun ρ η f0 f1 f2 f3 f4 f5 f6 f7 f8 f9 f10 f11 f12 f13 f14 f15 f16 f17 f18 f19 f20 f21 f22 f23 f24 f25 f26 f27 f28 f29 f30 f31 f32 f33 f34 f35 f36 f37 f38 f39 f40 f41 f42 f43 f44 f45 f46 f47 f48 f49 f50 f51 f52 f53 f54 f55 f56 f57 f58 f59 f60 f61 f62 f63 f64 f65 f66 f67 => q_233_22 (q0 := q0) (n0 := ρ 6) (n1 := ρ 5) (n2 := ρ 4) (n3 := ρ 3) (n4 := ρ 2) (n5 := ρ 1) (n6 := ρ 0) (n7 := ρ 7) (n8 := ρ 8) (n9 := ρ 9) (n10 := ρ 10) (n11 := ρ 11) (n12 := ρ 12) (n13 := ρ 13) (n14 := ρ 14) (n15 := ρ 15) (n16 := ρ 16) (n17 := ρ 17) (n18 := ρ 18) (n19 := ρ 19) (n20 := ρ 20) (n21 := ρ 21) (n22 := ρ 22) (n23 := ρ 23) (n24 := ρ 24) (n25 := ρ 25) (n26 := ρ 26) (H0 := η 0) (H1 := η 1) (H2 := η 2) (H3 := η 3) (H4 := η 4) (H5 := η 5) (H6 := η 6) (H7 := η 7) (H8 := η 8) (H9 := η 9) f67 f66 f65 f64 f63 f62 f61 f60 f59 f58 f57 f56 f55 f54 f53 f52 f51 f50 f49 f48 f47 f46 f45 f44 f43 f42 f41 f40 f39 f38 f37 f36 f35 f34 f33 f32 f31 f30 f29 f28 f27 f26 f25 f24 f23 f22 f21 f20 f19 f18 f17 f16 f15 f14 f13 f12 f11 f10 f9 f8 f7 f6 f5 f4 f3 f2 f1 f0
set_option maxHeartbeats 20000000 in
theorem q_233_23 {q0 : Nat} {n0 n1 n2 n3 n4 n5 n6 n7 n8 n9 n10 n11 n12 n13 n14 n15 n16 n17 n18 n19 n20 n21 n22 n23 n24 n25 n26 n27 : Int} {H0 H1 H2 H3 H4 H5 H6 H7 H8 H9 H10 : gH} (f0 : n0 ≤ 2147483647) (f1 : (-2147483648) ≤ n0) (f2 : n1 ≤ 1200) (f3 : 0 ≤ n1) (f4 : n2 ≤ 1) (f5 : 0 ≤ n2) (f6 : n3 ≤ 1) (f7 : 0 ≤ n3) (f8 : n4 = 285) (f9 : n5 ≤ 1) (f10 : 0 ≤ n5) (f11 : n6 = 285) (f12 : (hLe T0 H0 H1 ∧ hFr s_233.2.2.2.2 H0 H1 ∧ hWt T0 H1) ∧ (Ab_233_85 n6 n5 n4 n3 n2 n1 n0 H0 H1 ∧ preb_233 n6 n5 H0) ∧ some q0 = some (mub_233_85 n6 n5 n4 n3 n2 n1 n0 H0 H1)) (f13 : (hLe T0 H1 H2 ∧ hFr s_219.2.2.2.2 H1 H2 ∧ ((0 : Int) = 0 → H2.length = H1.length) ∧ hWt T0 H2) ∧ postb_219 n4 H1 H2) (f14 : n7 ≤ 1200) (f15 : 0 ≤ n7) (f16 : n7 = hV H2 (n4).toNat 51) (f17 : (hLe T0 H2 H3 ∧ hFr s_236.2.2.2.2 H2 H3 ∧ ((0 : Int) = 0 → H3.length = H2.length) ∧ hWt T0 H3) ∧ postb_236 n4 H2 H3) (f18 : n8 ≤ 2) (f19 : 0 ≤ n8) (f20 : n8 = hV H3 (n4).toNat 13) (f21 : n8 ≤ 0) (f22 : n9 = 314) (f23 : n9 = hV H3 (n4).toNat 45) (f24 : n10 ≤ 400) (f25 : 0 ≤ n10) (f26 : n10 = hV H3 (n4).toNat 44) (f27 : hUpd H4 H3 n9 n10 n0) (f28 : n11 = 315) (f29 : n11 = hV H4 (n4).toNat 46) (f30 : n12 ≤ 400) (f31 : 0 ≤ n12) (f32 : n12 = hV H4 (n4).toNat 44) (f33 : n13 = o32 (fun x _ => x &&& 1) n2 0) (f34 : hUpd H5 H4 n11 n12 n13) (f35 : n14 = 316) (f36 : n14 = hV H5 (n4).toNat 47) (f37 : n15 ≤ 400) (f38 : 0 ≤ n15) (f39 : n15 = hV H5 (n4).toNat 44) (f40 : n16 = o32 (fun x _ => x &&& 1) n3 0) (f41 : hUpd H6 H5 n14 n15 n16) (f42 : n17 = 317) (f43 : n17 = hV H6 (n4).toNat 48) (f44 : n18 ≤ 400) (f45 : 0 ≤ n18) (f46 : n18 = hV H6 (n4).toNat 44) (f47 : hUpd H7 H6 n17 n18 n1) (f48 : n19 = 318) (f49 : n19 = hV H7 (n4).toNat 49) (f50 : n20 ≤ 400) (f51 : 0 ≤ n20) (f52 : n20 = hV H7 (n4).toNat 44) (f53 : hUpd H8 H7 n19 n20 n7) (f54 : n21 = 319) (f55 : n21 = hV H8 (n4).toNat 50) (f56 : n22 ≤ 400) (f57 : 0 ≤ n22) (f58 : n22 = hV H8 (n4).toNat 44) (f59 : n23 ≤ 1200) (f60 : 0 ≤ n23) (f61 : n23 = hV H8 (n4).toNat 51) (f62 : hUpd H9 H8 n21 n22 n23) (f63 : n24 ≤ 400) (f64 : 0 ≤ n24) (f65 : n24 = hV H9 (n4).toNat 44) (f66 : n25 = 1) (f67 : n26 = w32 (n24 + n25)) (f68 : n27 = 44) (f69 : hUpd H10 H9 n4 n27 n26) : postb_233 n6 n5 H0 H10 := by
  have g4 := f12.2.1.1
  unfold Ab_233_85 at g4
  have g3 := f12.2.1.2
  unfold preb_233 at g3
  unfold postb_219 at f13
  unfold postb_236 at f17
  unfold postb_233
  have e1 : n7 = hV H1 285 51 := (by rw [f8] at f16; exact f16 : n7 = hV H2 285 51).trans ((f13.1.2.1.1 285 51 kF_219_285_51))
  have e2 : n8 = hV H3 285 13 := (by rw [f8] at f20; exact f20 : n8 = hV H3 285 13)
  have e5 : n10 = hV H1 285 44 := (by rw [f8] at f26; exact f26 : n10 = hV H3 285 44).trans (((f17.1.2.1.1 285 44 kF_236_285_44)).trans (f13.1.2.1.1 285 44 kF_219_285_44))
  have e7 : n12 = hV H1 285 44 := (by rw [f8] at f32; exact f32 : n12 = hV H4 285 44).trans (((uPlace f27 285 44 (iS (show n9 = ((314 : Nat) : Int) from f22) rfl))).trans (((f17.1.2.1.1 285 44 kF_236_285_44)).trans (f13.1.2.1.1 285 44 kF_219_285_44)))
  have e9 : n15 = hV H1 285 44 := (by rw [f8] at f39; exact f39 : n15 = hV H5 285 44).trans (((uPlace f34 285 44 (iS (show n11 = ((315 : Nat) : Int) from f28) rfl))).trans (((uPlace f27 285 44 (iS (show n9 = ((314 : Nat) : Int) from f22) rfl))).trans (((f17.1.2.1.1 285 44 kF_236_285_44)).trans (f13.1.2.1.1 285 44 kF_219_285_44))))
  have e11 : n18 = hV H1 285 44 := (by rw [f8] at f46; exact f46 : n18 = hV H6 285 44).trans (((uPlace f41 285 44 (iS (show n14 = ((316 : Nat) : Int) from f35) rfl))).trans (((uPlace f34 285 44 (iS (show n11 = ((315 : Nat) : Int) from f28) rfl))).trans (((uPlace f27 285 44 (iS (show n9 = ((314 : Nat) : Int) from f22) rfl))).trans (((f17.1.2.1.1 285 44 kF_236_285_44)).trans (f13.1.2.1.1 285 44 kF_219_285_44)))))
  have e13 : n20 = hV H1 285 44 := (by rw [f8] at f52; exact f52 : n20 = hV H7 285 44).trans (((uPlace f47 285 44 (iS (show n17 = ((317 : Nat) : Int) from f42) rfl))).trans (((uPlace f41 285 44 (iS (show n14 = ((316 : Nat) : Int) from f35) rfl))).trans (((uPlace f34 285 44 (iS (show n11 = ((315 : Nat) : Int) from f28) rfl))).trans (((uPlace f27 285 44 (iS (show n9 = ((314 : Nat) : Int) from f22) rfl))).trans (((f17.1.2.1.1 285 44 kF_236_285_44)).trans (f13.1.2.1.1 285 44 kF_219_285_44))))))
  have e15 : n22 = hV H1 285 44 := (by rw [f8] at f58; exact f58 : n22 = hV H8 285 44).trans (((uPlace f53 285 44 (iS (show n19 = ((318 : Nat) : Int) from f48) rfl))).trans (((uPlace f47 285 44 (iS (show n17 = ((317 : Nat) : Int) from f42) rfl))).trans (((uPlace f41 285 44 (iS (show n14 = ((316 : Nat) : Int) from f35) rfl))).trans (((uPlace f34 285 44 (iS (show n11 = ((315 : Nat) : Int) from f28) rfl))).trans (((uPlace f27 285 44 (iS (show n9 = ((314 : Nat) : Int) from f22) rfl))).trans (((f17.1.2.1.1 285 44 kF_236_285_44)).trans (f13.1.2.1.1 285 44 kF_219_285_44)))))))
  have e21 : n23 = hV H3 285 51 := (by rw [f8] at f61; exact f61 : n23 = hV H8 285 51).trans (((uPlace f53 285 51 (iS (show n19 = ((318 : Nat) : Int) from f48) rfl))).trans (((uPlace f47 285 51 (iS (show n17 = ((317 : Nat) : Int) from f42) rfl))).trans (((uPlace f41 285 51 (iS (show n14 = ((316 : Nat) : Int) from f35) rfl))).trans (((uPlace f34 285 51 (iS (show n11 = ((315 : Nat) : Int) from f28) rfl))).trans (uPlace f27 285 51 (iS (show n9 = ((314 : Nat) : Int) from f22) rfl))))))
  have e23 : n24 = hV H1 285 44 := (by rw [f8] at f65; exact f65 : n24 = hV H9 285 44).trans (((uPlace f62 285 44 (iS (show n21 = ((319 : Nat) : Int) from f54) rfl))).trans (((uPlace f53 285 44 (iS (show n19 = ((318 : Nat) : Int) from f48) rfl))).trans (((uPlace f47 285 44 (iS (show n17 = ((317 : Nat) : Int) from f42) rfl))).trans (((uPlace f41 285 44 (iS (show n14 = ((316 : Nat) : Int) from f35) rfl))).trans (((uPlace f34 285 44 (iS (show n11 = ((315 : Nat) : Int) from f28) rfl))).trans (((uPlace f27 285 44 (iS (show n9 = ((314 : Nat) : Int) from f22) rfl))).trans (((f17.1.2.1.1 285 44 kF_236_285_44)).trans (f13.1.2.1.1 285 44 kF_219_285_44))))))))
  have e25 : hV H1 285 34 = hV H0 285 34 := (f12.1.2.1.1 285 34 kF_233_285_34)
  have e27 : hV H1 285 35 = hV H0 285 35 := (f12.1.2.1.1 285 35 kF_233_285_35)
  have e28 : hV H1 306 = hV H0 306 := fRow f12.1.2.1 306 kR_233_306
  have e29 : hV H1 307 = hV H0 307 := fRow f12.1.2.1 307 kR_233_307
  have e30 : hV H1 308 = hV H0 308 := fRow f12.1.2.1 308 kR_233_308
  have e31 : hV H1 309 = hV H0 309 := fRow f12.1.2.1 309 kR_233_309
  have e32 : hV H1 310 = hV H0 310 := fRow f12.1.2.1 310 kR_233_310
  have e33 : hV H1 311 = hV H0 311 := fRow f12.1.2.1 311 kR_233_311
  have e41 : hV H10 285 11 = hV H3 285 11 := ((uSlot f69 285 11 (iS (show n27 = ((44 : Nat) : Int) from f68) rfl))).trans (((uPlace f62 285 11 (iS (show n21 = ((319 : Nat) : Int) from f54) rfl))).trans (((uPlace f53 285 11 (iS (show n19 = ((318 : Nat) : Int) from f48) rfl))).trans (((uPlace f47 285 11 (iS (show n17 = ((317 : Nat) : Int) from f42) rfl))).trans (((uPlace f41 285 11 (iS (show n14 = ((316 : Nat) : Int) from f35) rfl))).trans (((uPlace f34 285 11 (iS (show n11 = ((315 : Nat) : Int) from f28) rfl))).trans (uPlace f27 285 11 (iS (show n9 = ((314 : Nat) : Int) from f22) rfl)))))))
  have e49 : hV H10 285 12 = hV H3 285 12 := ((uSlot f69 285 12 (iS (show n27 = ((44 : Nat) : Int) from f68) rfl))).trans (((uPlace f62 285 12 (iS (show n21 = ((319 : Nat) : Int) from f54) rfl))).trans (((uPlace f53 285 12 (iS (show n19 = ((318 : Nat) : Int) from f48) rfl))).trans (((uPlace f47 285 12 (iS (show n17 = ((317 : Nat) : Int) from f42) rfl))).trans (((uPlace f41 285 12 (iS (show n14 = ((316 : Nat) : Int) from f35) rfl))).trans (((uPlace f34 285 12 (iS (show n11 = ((315 : Nat) : Int) from f28) rfl))).trans (uPlace f27 285 12 (iS (show n9 = ((314 : Nat) : Int) from f22) rfl)))))))
  have e57 : hV H10 285 13 = hV H3 285 13 := ((uSlot f69 285 13 (iS (show n27 = ((44 : Nat) : Int) from f68) rfl))).trans (((uPlace f62 285 13 (iS (show n21 = ((319 : Nat) : Int) from f54) rfl))).trans (((uPlace f53 285 13 (iS (show n19 = ((318 : Nat) : Int) from f48) rfl))).trans (((uPlace f47 285 13 (iS (show n17 = ((317 : Nat) : Int) from f42) rfl))).trans (((uPlace f41 285 13 (iS (show n14 = ((316 : Nat) : Int) from f35) rfl))).trans (((uPlace f34 285 13 (iS (show n11 = ((315 : Nat) : Int) from f28) rfl))).trans (uPlace f27 285 13 (iS (show n9 = ((314 : Nat) : Int) from f22) rfl)))))))
  have e67 : hV H10 285 34 = hV H0 285 34 := ((uSlot f69 285 34 (iS (show n27 = ((44 : Nat) : Int) from f68) rfl))).trans (((uPlace f62 285 34 (iS (show n21 = ((319 : Nat) : Int) from f54) rfl))).trans (((uPlace f53 285 34 (iS (show n19 = ((318 : Nat) : Int) from f48) rfl))).trans (((uPlace f47 285 34 (iS (show n17 = ((317 : Nat) : Int) from f42) rfl))).trans (((uPlace f41 285 34 (iS (show n14 = ((316 : Nat) : Int) from f35) rfl))).trans (((uPlace f34 285 34 (iS (show n11 = ((315 : Nat) : Int) from f28) rfl))).trans (((uPlace f27 285 34 (iS (show n9 = ((314 : Nat) : Int) from f22) rfl))).trans (((f17.1.2.1.1 285 34 kF_236_285_34)).trans (((f13.1.2.1.1 285 34 kF_219_285_34)).trans (f12.1.2.1.1 285 34 kF_233_285_34)))))))))
  have e77 : hV H10 285 35 = hV H0 285 35 := ((uSlot f69 285 35 (iS (show n27 = ((44 : Nat) : Int) from f68) rfl))).trans (((uPlace f62 285 35 (iS (show n21 = ((319 : Nat) : Int) from f54) rfl))).trans (((uPlace f53 285 35 (iS (show n19 = ((318 : Nat) : Int) from f48) rfl))).trans (((uPlace f47 285 35 (iS (show n17 = ((317 : Nat) : Int) from f42) rfl))).trans (((uPlace f41 285 35 (iS (show n14 = ((316 : Nat) : Int) from f35) rfl))).trans (((uPlace f34 285 35 (iS (show n11 = ((315 : Nat) : Int) from f28) rfl))).trans (((uPlace f27 285 35 (iS (show n9 = ((314 : Nat) : Int) from f22) rfl))).trans (((f17.1.2.1.1 285 35 kF_236_285_35)).trans (((f13.1.2.1.1 285 35 kF_219_285_35)).trans (f12.1.2.1.1 285 35 kF_233_285_35)))))))))
  have e79 : hV H10 285 44 = n26 := (uSame f69 285 44 f8.symm f68.symm)
  have e82 : hV H10 285 51 = hV H3 285 51 := ((uSlot f69 285 51 (iS (show n27 = ((44 : Nat) : Int) from f68) rfl))).trans (((uPlace f62 285 51 (iS (show n21 = ((319 : Nat) : Int) from f54) rfl))).trans (((uPlace f53 285 51 (iS (show n19 = ((318 : Nat) : Int) from f48) rfl))).trans (((uPlace f47 285 51 (iS (show n17 = ((317 : Nat) : Int) from f42) rfl))).trans (((uPlace f41 285 51 (iS (show n14 = ((316 : Nat) : Int) from f35) rfl))).trans (((uPlace f34 285 51 (iS (show n11 = ((315 : Nat) : Int) from f28) rfl))).trans (uPlace f27 285 51 (iS (show n9 = ((314 : Nat) : Int) from f22) rfl)))))))
  have e93 : hV H3 306 = hV H0 306 := (fRow f17.1.2.1 306 kR_236_306).trans ((fRow f13.1.2.1 306 kR_219_306).trans e28)
  have e100 : hV H10 306 = hV H0 306 := (uRowNe f69 306 (iS (show n4 = ((285 : Nat) : Int) from f8) rfl)).trans ((uRowNe f62 306 (iS (show n21 = ((319 : Nat) : Int) from f54) rfl)).trans ((uRowNe f53 306 (iS (show n19 = ((318 : Nat) : Int) from f48) rfl)).trans ((uRowNe f47 306 (iS (show n17 = ((317 : Nat) : Int) from f42) rfl)).trans ((uRowNe f41 306 (iS (show n14 = ((316 : Nat) : Int) from f35) rfl)).trans ((uRowNe f34 306 (iS (show n11 = ((315 : Nat) : Int) from f28) rfl)).trans ((uRowNe f27 306 (iS (show n9 = ((314 : Nat) : Int) from f22) rfl)).trans e93))))))
  have e111 : hV H3 307 = hV H0 307 := (fRow f17.1.2.1 307 kR_236_307).trans ((fRow f13.1.2.1 307 kR_219_307).trans e29)
  have e118 : hV H10 307 = hV H0 307 := (uRowNe f69 307 (iS (show n4 = ((285 : Nat) : Int) from f8) rfl)).trans ((uRowNe f62 307 (iS (show n21 = ((319 : Nat) : Int) from f54) rfl)).trans ((uRowNe f53 307 (iS (show n19 = ((318 : Nat) : Int) from f48) rfl)).trans ((uRowNe f47 307 (iS (show n17 = ((317 : Nat) : Int) from f42) rfl)).trans ((uRowNe f41 307 (iS (show n14 = ((316 : Nat) : Int) from f35) rfl)).trans ((uRowNe f34 307 (iS (show n11 = ((315 : Nat) : Int) from f28) rfl)).trans ((uRowNe f27 307 (iS (show n9 = ((314 : Nat) : Int) from f22) rfl)).trans e111))))))
  have e129 : hV H3 308 = hV H0 308 := (fRow f17.1.2.1 308 kR_236_308).trans ((fRow f13.1.2.1 308 kR_219_308).trans e30)
  have e136 : hV H10 308 = hV H0 308 := (uRowNe f69 308 (iS (show n4 = ((285 : Nat) : Int) from f8) rfl)).trans ((uRowNe f62 308 (iS (show n21 = ((319 : Nat) : Int) from f54) rfl)).trans ((uRowNe f53 308 (iS (show n19 = ((318 : Nat) : Int) from f48) rfl)).trans ((uRowNe f47 308 (iS (show n17 = ((317 : Nat) : Int) from f42) rfl)).trans ((uRowNe f41 308 (iS (show n14 = ((316 : Nat) : Int) from f35) rfl)).trans ((uRowNe f34 308 (iS (show n11 = ((315 : Nat) : Int) from f28) rfl)).trans ((uRowNe f27 308 (iS (show n9 = ((314 : Nat) : Int) from f22) rfl)).trans e129))))))
  have e147 : hV H3 309 = hV H0 309 := (fRow f17.1.2.1 309 kR_236_309).trans ((fRow f13.1.2.1 309 kR_219_309).trans e31)
  have e154 : hV H10 309 = hV H0 309 := (uRowNe f69 309 (iS (show n4 = ((285 : Nat) : Int) from f8) rfl)).trans ((uRowNe f62 309 (iS (show n21 = ((319 : Nat) : Int) from f54) rfl)).trans ((uRowNe f53 309 (iS (show n19 = ((318 : Nat) : Int) from f48) rfl)).trans ((uRowNe f47 309 (iS (show n17 = ((317 : Nat) : Int) from f42) rfl)).trans ((uRowNe f41 309 (iS (show n14 = ((316 : Nat) : Int) from f35) rfl)).trans ((uRowNe f34 309 (iS (show n11 = ((315 : Nat) : Int) from f28) rfl)).trans ((uRowNe f27 309 (iS (show n9 = ((314 : Nat) : Int) from f22) rfl)).trans e147))))))
  have e165 : hV H3 310 = hV H0 310 := (fRow f17.1.2.1 310 kR_236_310).trans ((fRow f13.1.2.1 310 kR_219_310).trans e32)
  have e172 : hV H10 310 = hV H0 310 := (uRowNe f69 310 (iS (show n4 = ((285 : Nat) : Int) from f8) rfl)).trans ((uRowNe f62 310 (iS (show n21 = ((319 : Nat) : Int) from f54) rfl)).trans ((uRowNe f53 310 (iS (show n19 = ((318 : Nat) : Int) from f48) rfl)).trans ((uRowNe f47 310 (iS (show n17 = ((317 : Nat) : Int) from f42) rfl)).trans ((uRowNe f41 310 (iS (show n14 = ((316 : Nat) : Int) from f35) rfl)).trans ((uRowNe f34 310 (iS (show n11 = ((315 : Nat) : Int) from f28) rfl)).trans ((uRowNe f27 310 (iS (show n9 = ((314 : Nat) : Int) from f22) rfl)).trans e165))))))
  have e183 : hV H3 311 = hV H0 311 := (fRow f17.1.2.1 311 kR_236_311).trans ((fRow f13.1.2.1 311 kR_219_311).trans e33)
  have e190 : hV H10 311 = hV H0 311 := (uRowNe f69 311 (iS (show n4 = ((285 : Nat) : Int) from f8) rfl)).trans ((uRowNe f62 311 (iS (show n21 = ((319 : Nat) : Int) from f54) rfl)).trans ((uRowNe f53 311 (iS (show n19 = ((318 : Nat) : Int) from f48) rfl)).trans ((uRowNe f47 311 (iS (show n17 = ((317 : Nat) : Int) from f42) rfl)).trans ((uRowNe f41 311 (iS (show n14 = ((316 : Nat) : Int) from f35) rfl)).trans ((uRowNe f34 311 (iS (show n11 = ((315 : Nat) : Int) from f28) rfl)).trans ((uRowNe f27 311 (iS (show n9 = ((314 : Nat) : Int) from f22) rfl)).trans e183))))))
  have e200 : hV H3 317 = hV H1 317 := (fRow f17.1.2.1 317 kR_236_317).trans (fRow f13.1.2.1 317 kR_219_317)
  have e207 : hV H10 317 = (uF (hV H1 317) n18 n1) := (uRowNe f69 317 (iS (show n4 = ((285 : Nat) : Int) from f8) rfl)).trans ((uRowNe f62 317 (iS (show n21 = ((319 : Nat) : Int) from f54) rfl)).trans ((uRowNe f53 317 (iS (show n19 = ((318 : Nat) : Int) from f48) rfl)).trans ((uRow f47 317 f42.symm).trans (congrArg (fun z => uF z n18 n1) ((uRowNe f41 317 (iS (show n14 = ((316 : Nat) : Int) from f35) rfl)).trans ((uRowNe f34 317 (iS (show n11 = ((315 : Nat) : Int) from f28) rfl)).trans ((uRowNe f27 317 (iS (show n9 = ((314 : Nat) : Int) from f22) rfl)).trans e200)))))))
  have e217 : hV H3 318 = hV H1 318 := (fRow f17.1.2.1 318 kR_236_318).trans (fRow f13.1.2.1 318 kR_219_318)
  have e224 : hV H10 318 = (uF (hV H1 318) n20 n7) := (uRowNe f69 318 (iS (show n4 = ((285 : Nat) : Int) from f8) rfl)).trans ((uRowNe f62 318 (iS (show n21 = ((319 : Nat) : Int) from f54) rfl)).trans ((uRow f53 318 f48.symm).trans (congrArg (fun z => uF z n20 n7) ((uRowNe f47 318 (iS (show n17 = ((317 : Nat) : Int) from f42) rfl)).trans ((uRowNe f41 318 (iS (show n14 = ((316 : Nat) : Int) from f35) rfl)).trans ((uRowNe f34 318 (iS (show n11 = ((315 : Nat) : Int) from f28) rfl)).trans ((uRowNe f27 318 (iS (show n9 = ((314 : Nat) : Int) from f22) rfl)).trans e217)))))))
  have e234 : hV H3 319 = hV H1 319 := (fRow f17.1.2.1 319 kR_236_319).trans (fRow f13.1.2.1 319 kR_219_319)
  have e241 : hV H10 319 = (uF (hV H1 319) n22 n23) := (uRowNe f69 319 (iS (show n4 = ((285 : Nat) : Int) from f8) rfl)).trans ((uRow f62 319 f54.symm).trans (congrArg (fun z => uF z n22 n23) ((uRowNe f53 319 (iS (show n19 = ((318 : Nat) : Int) from f48) rfl)).trans ((uRowNe f47 319 (iS (show n17 = ((317 : Nat) : Int) from f42) rfl)).trans ((uRowNe f41 319 (iS (show n14 = ((316 : Nat) : Int) from f35) rfl)).trans ((uRowNe f34 319 (iS (show n11 = ((315 : Nat) : Int) from f28) rfl)).trans ((uRowNe f27 319 (iS (show n9 = ((314 : Nat) : Int) from f22) rfl)).trans e234)))))))
  have e254 : hV H10 320 = hV H3 320 := (uRowNe f69 320 (iS (show n4 = ((285 : Nat) : Int) from f8) rfl)).trans ((uRowNe f62 320 (iS (show n21 = ((319 : Nat) : Int) from f54) rfl)).trans ((uRowNe f53 320 (iS (show n19 = ((318 : Nat) : Int) from f48) rfl)).trans ((uRowNe f47 320 (iS (show n17 = ((317 : Nat) : Int) from f42) rfl)).trans ((uRowNe f41 320 (iS (show n14 = ((316 : Nat) : Int) from f35) rfl)).trans ((uRowNe f34 320 (iS (show n11 = ((315 : Nat) : Int) from f28) rfl)).trans (uRowNe f27 320 (iS (show n9 = ((314 : Nat) : Int) from f22) rfl)))))))
  have e267 : hV H10 321 = hV H3 321 := (uRowNe f69 321 (iS (show n4 = ((285 : Nat) : Int) from f8) rfl)).trans ((uRowNe f62 321 (iS (show n21 = ((319 : Nat) : Int) from f54) rfl)).trans ((uRowNe f53 321 (iS (show n19 = ((318 : Nat) : Int) from f48) rfl)).trans ((uRowNe f47 321 (iS (show n17 = ((317 : Nat) : Int) from f42) rfl)).trans ((uRowNe f41 321 (iS (show n14 = ((316 : Nat) : Int) from f35) rfl)).trans ((uRowNe f34 321 (iS (show n11 = ((315 : Nat) : Int) from f28) rfl)).trans (uRowNe f27 321 (iS (show n9 = ((314 : Nat) : Int) from f22) rfl)))))))
  have e268 : hV H2 285 51 = hV H1 285 51 := (f13.1.2.1.1 285 51 kF_219_285_51)
  have e269 : hV H2 320 = hV H1 320 := fRow f13.1.2.1 320 kR_219_320
  have e270 : hV H2 321 = hV H1 321 := fRow f13.1.2.1 321 kR_219_321
  have e271 : hV H3 285 34 = hV H0 285 34 := ((f17.1.2.1.1 285 34 kF_236_285_34)).trans (((f13.1.2.1.1 285 34 kF_219_285_34)).trans (f12.1.2.1.1 285 34 kF_233_285_34))
  have e272 : hV H3 285 35 = hV H0 285 35 := ((f17.1.2.1.1 285 35 kF_236_285_35)).trans (((f13.1.2.1.1 285 35 kF_219_285_35)).trans (f12.1.2.1.1 285 35 kF_233_285_35))
  have e273 : hV H3 285 44 = hV H1 285 44 := ((f17.1.2.1.1 285 44 kF_236_285_44)).trans (f13.1.2.1.1 285 44 kF_219_285_44)
  have e274 : (0 : Int) ≤ hV H1 285 11 ∧ hV H1 285 11 ≤ 500 := f12.1.2.2 285 11 _ _ kW_285_11
  have e275 : (0 : Int) ≤ hV H1 285 12 ∧ hV H1 285 12 ≤ 7 := f12.1.2.2 285 12 _ _ kW_285_12
  have e276 : (0 : Int) ≤ hV H1 285 13 ∧ hV H1 285 13 ≤ 2 := f12.1.2.2 285 13 _ _ kW_285_13
  have e277 : (0 : Int) ≤ hV H0 285 34 ∧ hV H0 285 34 ≤ 1 := bTo e25 (f12.1.2.2 285 34 _ _ kW_285_34)
  have e278 : (0 : Int) ≤ hV H0 285 35 ∧ hV H0 285 35 ≤ 1 := bTo e27 (f12.1.2.2 285 35 _ _ kW_285_35)
  have e279 : (0 : Int) ≤ hV H1 285 44 ∧ hV H1 285 44 ≤ 400 := f12.1.2.2 285 44 _ _ kW_285_44
  have e280 : (0 : Int) ≤ hV H1 285 51 ∧ hV H1 285 51 ≤ 1200 := f12.1.2.2 285 51 _ _ kW_285_51
  have e281 : (0 : Int) ≤ hV H3 285 11 ∧ hV H3 285 11 ≤ 500 := f17.1.2.2.2 285 11 _ _ kW_285_11
  have e282 : (0 : Int) ≤ hV H3 285 12 ∧ hV H3 285 12 ≤ 7 := f17.1.2.2.2 285 12 _ _ kW_285_12
  have e283 : (0 : Int) ≤ hV H3 285 13 ∧ hV H3 285 13 ≤ 2 := f17.1.2.2.2 285 13 _ _ kW_285_13
  have e284 : (0 : Int) ≤ hV H3 285 51 ∧ hV H3 285 51 ≤ 1200 := f17.1.2.2.2 285 51 _ _ kW_285_51
  have e285 : (0 : Int) ≤ hV H2 285 11 ∧ hV H2 285 11 ≤ 500 := f13.1.2.2.2 285 11 _ _ kW_285_11
  have e286 : (0 : Int) ≤ hV H2 285 13 ∧ hV H2 285 13 ≤ 2 := f13.1.2.2.2 285 13 _ _ kW_285_13
  try simp only [RR]
  try simp only [e41, e49, e57, e67, e77, e79, e82, e100, e118, e136, e154, e172, e190, e207, e224, e241, e254, e267]
  have k0 := g4.1
  have y0 := g4.2.1
  have y1 := g4.2.2.1
  have y2 := g4.2.2.2.1
  have y3 := g4.2.2.2.2.1
  have y4 := g4.2.2.2.2.2.1
  have y5 := g4.2.2.2.2.2.2.1
  have y6 := g4.2.2.2.2.2.2.2.1
  have y7 := g4.2.2.2.2.2.2.2.2.1
  have y8 := g4.2.2.2.2.2.2.2.2.2.1
  have y9 := g4.2.2.2.2.2.2.2.2.2.2.1
  have y10 := g4.2.2.2.2.2.2.2.2.2.2.2.1
  have y11 := g4.2.2.2.2.2.2.2.2.2.2.2.2.1
  have y12 := g4.2.2.2.2.2.2.2.2.2.2.2.2.2
  have p0 := g3.1
  have p1 := g3.2.1
  have p2 := g3.2.2.1
  have p3 := g3.2.2.2.1
  have p4 := g3.2.2.2.2.1
  have p5 := g3.2.2.2.2.2.1
  have p6 := g3.2.2.2.2.2.2
  have r0_0 := f13.2.1
  have r0_1 := f13.2.2.1
  have r0_2 := f13.2.2.2.1
  have r0_3 := f13.2.2.2.2
  have r1_0 := f17.2.1
  have r1_1 := f17.2.2.1
  have r1_2 := f17.2.2.2.1
  have r1_3 := f17.2.2.2.2.1
  have r1_4 := f17.2.2.2.2.2.1
  have r1_5 := f17.2.2.2.2.2.2.1
  have r1_6 := f17.2.2.2.2.2.2.2.1
  have r1_7 := f17.2.2.2.2.2.2.2.2
  try simp only [RR] at y0
  try simp only [RR] at p0
  try simp only [RR] at r1_0
  try simp only [e25, e27, e28, e29, e30, e31, e32, e33] at y0
  try simp only [e27] at y6
  try simp only [e271, e272, e273, e93, e111, e129, e147, e165, e183, e200, e217, e234] at r1_0
  try simp only [e268, e269, e270] at r1_1
  try simp only [e268] at r1_6
  try simp only [e272] at r1_7
  clear g3
  clear g4
  clear f16 f20 f23 f26 f29 f32 f36 f39 f43 f46 f49 f52 f55 f58 f61 f65 e25 e27 e28 e29 e30 e31 e32 e33 e41 e49 e57 e67 e77 e82 e93 e100 e111 e118 e129 e136 e147 e154 e165 e172 e183 e190 e200 e207 e217 e224 e234 e241 e254 e267 e268 e269 e270 e271 e272 e273
  clear f12 f13 f17
  subst e1
  subst e2
  subst e5
  subst e7
  subst e9
  subst e11
  subst e13
  subst e15
  subst e21
  subst e23
  first
  | (have ix0 : n26 = hV H1 285 44 + 1 := Eq.trans f67 (w32_iv (Iad (Iat f25 f24) (IC 1)) (by decide)); subst ix0; clear f67)
  | (have ix0 : n26 = hV H1 285 44 + 1 := Eq.trans f67 (w32_id (by omega) (by omega)); subst ix0; clear f67)
  | (unfold w32 at f67; have ix0 : n26 = hV H1 285 44 + 1 := (by omega); subst ix0)
  | skip
  try unfold w32 at f67

  have co := r1_1 (by omega)
  refine ⟨?_, ?_, ?_, ?_, ?_, ?_, ?_, ?_, ?_, ?_, ?_⟩
  · exact RR_lit r1_0 (by omega) (by omega) (by omega) (by omega) (by omega) (by omega) (by omega) (by omega) (by omega) (by omega) (by omega) (CG_keep (y8 (by omega)) (SC_of co) (by omega) (by omega)) (CO_end co (by omega))
  · omega
  · omega
  · omega
  · omega
  · omega
  · omega
  · intro z
    exact SC_trans (y7 (by omega)) (SC_of co) (by omega)
  all_goals omega
def g_233_85_11 : vG := ([(80, [2, 27, 26], [10, 9], 0), (0, [27], [], 44), (1, [26, 24, 25], [], 0), (0, [25], [], 1), (20, [24, 2], [9], 44), (90, [24], [], 0), (91, [24], [], 400), (80, [21, 22, 23], [9, 8], 0), (20, [23, 2], [8], 51), (90, [23], [], 0), (91, [23], [], 1200), (20, [22, 2], [8], 44), (90, [22], [], 0), (91, [22], [], 400), (20, [21, 2], [8], 50), (0, [21], [], 319), (80, [19, 20, 7], [8, 7], 0), (20, [20, 2], [7], 44), (90, [20], [], 0), (91, [20], [], 400), (20, [19, 2], [7], 49), (0, [19], [], 318), (80, [17, 18, 5], [7, 6], 0), (20, [18, 2], [6], 44), (90, [18], [], 0), (91, [18], [], 400), (20, [17, 2], [6], 48), (0, [17], [], 317), (80, [14, 15, 16], [6, 5], 0), (16, [16, 3], [], 0), (20, [15, 2], [5], 44), (90, [15], [], 0), (91, [15], [], 400), (20, [14, 2], [5], 47), (0, [14], [], 316), (80, [11, 12, 13], [5, 4], 0), (16, [13, 4], [], 0), (20, [12, 2], [4], 44), (90, [12], [], 0), (91, [12], [], 400), (20, [11, 2], [4], 46), (0, [11], [], 315), (80, [9, 10, 6], [4, 3], 0), (20, [10, 2], [3], 44), (90, [10], [], 0), (91, [10], [], 400), (20, [9, 2], [3], 45), (0, [9], [], 314), (35, [8], [], 0), (20, [8, 2], [3], 13), (90, [8], [], 0), (91, [8], [], 2), (1236, [2], [2, 3], 0), (20, [7, 2], [2], 51), (90, [7], [], 0), (91, [7], [], 1200), (1219, [2], [1, 2], 0), (5000, [0, 1, 2, 3, 4, 5, 6], [0, 1], 85), (0, [0], [], 285), (90, [1], [], 0), (91, [1], [], 1), (0, [2], [], 285), (90, [3], [], 0), (91, [3], [], 1), (90, [4], [], 0), (91, [4], [], 1), (90, [5], [], 0), (91, [5], [], 1200), (90, [6], [], -2147483648), (91, [6], [], 2147483647)], (3000, [], [10], 182))
theorem c_233_85_11 {q0 : Nat} : vOkm T0 (eP e_233 L_233 A_233 mu_233 (some q0)) 2 g_233_85_11 := vOk_inI fun ρ η f0 f1 f2 f3 f4 f5 f6 f7 f8 f9 f10 f11 f12 f13 f14 f15 f16 f17 f18 f19 f20 f21 f22 f23 f24 f25 f26 f27 f28 f29 f30 f31 f32 f33 f34 f35 f36 f37 f38 f39 f40 f41 f42 f43 f44 f45 f46 f47 f48 f49 f50 f51 f52 f53 f54 f55 f56 f57 f58 f59 f60 f61 f62 f63 f64 f65 f66 f67 f68 f69 => q_233_23 (q0 := q0) (n0 := ρ 6) (n1 := ρ 5) (n2 := ρ 4) (n3 := ρ 3) (n4 := ρ 2) (n5 := ρ 1) (n6 := ρ 0) (n7 := ρ 7) (n8 := ρ 8) (n9 := ρ 9) (n10 := ρ 10) (n11 := ρ 11) (n12 := ρ 12) (n13 := ρ 13) (n14 := ρ 14) (n15 := ρ 15) (n16 := ρ 16) (n17 := ρ 17) (n18 := ρ 18) (n19 := ρ 19) (n20 := ρ 20) (n21 := ρ 21) (n22 := ρ 22) (n23 := ρ 23) (n24 := ρ 24) (n25 := ρ 25) (n26 := ρ 26) (n27 := ρ 27) (H0 := η 0) (H1 := η 1) (H2 := η 2) (H3 := η 3) (H4 := η 4) (H5 := η 5) (H6 := η 6) (H7 := η 7) (H8 := η 8) (H9 := η 9) (H10 := η 10) f69 f68 f67 f66 f65 f64 f63 f62 f61 f60 f59 f58 f57 f56 f55 f54 f53 f52 f51 f50 f49 f48 f47 f46 f45 f44 f43 f42 f41 f40 f39 f38 f37 f36 f35 f34 f33 f32 f31 f30 f29 f28 f27 f26 f25 f24 f23 f22 f21 f20 f19 f18 f17 f16 f15 f14 f13 f12 f11 f10 f9 f8 f7 f6 f5 f4 f3 f2 f1 f0
set_option maxHeartbeats 20000000 in
theorem q_233_24 {q0 : Nat} {n0 n1 n2 n3 n4 n5 n6 n7 n8 : Int} {H0 H1 H2 H3 : gH} (f0 : n0 ≤ 2147483647) (f1 : (-2147483648) ≤ n0) (f2 : n1 ≤ 1200) (f3 : 0 ≤ n1) (f4 : n2 ≤ 1) (f5 : 0 ≤ n2) (f6 : n3 ≤ 1) (f7 : 0 ≤ n3) (f8 : n4 = 285) (f9 : n5 ≤ 1) (f10 : 0 ≤ n5) (f11 : n6 = 285) (f12 : (hLe T0 H0 H1 ∧ hFr s_233.2.2.2.2 H0 H1 ∧ hWt T0 H1) ∧ (Ab_233_85 n6 n5 n4 n3 n2 n1 n0 H0 H1 ∧ preb_233 n6 n5 H0) ∧ some q0 = some (mub_233_85 n6 n5 n4 n3 n2 n1 n0 H0 H1)) (f13 : (hLe T0 H1 H2 ∧ hFr s_219.2.2.2.2 H1 H2 ∧ ((0 : Int) = 0 → H2.length = H1.length) ∧ hWt T0 H2) ∧ postb_219 n4 H1 H2) (f14 : n7 ≤ 1200) (f15 : 0 ≤ n7) (f16 : n7 = hV H2 (n4).toNat 51) (f17 : (hLe T0 H2 H3 ∧ hFr s_236.2.2.2.2 H2 H3 ∧ ((0 : Int) = 0 → H3.length = H2.length) ∧ hWt T0 H3) ∧ postb_236 n4 H2 H3) (f18 : n8 ≤ 2) (f19 : 0 ≤ n8) (f20 : n8 = hV H3 (n4).toNat 13) (f21 : 0 < n8) : postb_233 n6 n5 H0 H3 := by
  have g4 := f12.2.1.1
  unfold Ab_233_85 at g4
  have g3 := f12.2.1.2
  unfold preb_233 at g3
  unfold postb_219 at f13
  unfold postb_236 at f17
  unfold postb_233
  have e1 : n7 = hV H1 285 51 := (by rw [f8] at f16; exact f16 : n7 = hV H2 285 51).trans ((f13.1.2.1.1 285 51 kF_219_285_51))
  have e2 : n8 = hV H3 285 13 := (by rw [f8] at f20; exact f20 : n8 = hV H3 285 13)
  have e6 : hV H1 285 35 = hV H0 285 35 := (f12.1.2.1.1 285 35 kF_233_285_35)
  have e7 : hV H2 285 51 = hV H1 285 51 := (f13.1.2.1.1 285 51 kF_219_285_51)
  have e8 : hV H2 320 = hV H1 320 := fRow f13.1.2.1 320 kR_219_320
  have e9 : hV H2 321 = hV H1 321 := fRow f13.1.2.1 321 kR_219_321
  have e12 : hV H3 285 35 = hV H0 285 35 := ((f17.1.2.1.1 285 35 kF_236_285_35)).trans (((f13.1.2.1.1 285 35 kF_219_285_35)).trans (f12.1.2.1.1 285 35 kF_233_285_35))
  have e15 : hV H3 285 44 = hV H1 285 44 := ((f17.1.2.1.1 285 44 kF_236_285_44)).trans (f13.1.2.1.1 285 44 kF_219_285_44)
  have e16 : (0 : Int) ≤ hV H1 285 11 ∧ hV H1 285 11 ≤ 500 := f12.1.2.2 285 11 _ _ kW_285_11
  have e17 : (0 : Int) ≤ hV H1 285 12 ∧ hV H1 285 12 ≤ 7 := f12.1.2.2 285 12 _ _ kW_285_12
  have e18 : (0 : Int) ≤ hV H1 285 13 ∧ hV H1 285 13 ≤ 2 := f12.1.2.2 285 13 _ _ kW_285_13
  have e19 : (0 : Int) ≤ hV H0 285 34 ∧ hV H0 285 34 ≤ 1 := bTo ((f12.1.2.1.1 285 34 kF_233_285_34)) (f12.1.2.2 285 34 _ _ kW_285_34)
  have e20 : (0 : Int) ≤ hV H0 285 35 ∧ hV H0 285 35 ≤ 1 := bTo e6 (f12.1.2.2 285 35 _ _ kW_285_35)
  have e21 : (0 : Int) ≤ hV H1 285 44 ∧ hV H1 285 44 ≤ 400 := f12.1.2.2 285 44 _ _ kW_285_44
  have e22 : (0 : Int) ≤ hV H1 285 51 ∧ hV H1 285 51 ≤ 1200 := f12.1.2.2 285 51 _ _ kW_285_51
  have e23 : (0 : Int) ≤ hV H2 285 11 ∧ hV H2 285 11 ≤ 500 := f13.1.2.2.2 285 11 _ _ kW_285_11
  have e24 : (0 : Int) ≤ hV H2 285 13 ∧ hV H2 285 13 ≤ 2 := f13.1.2.2.2 285 13 _ _ kW_285_13
  have e26 : (0 : Int) ≤ hV H3 285 11 ∧ hV H3 285 11 ≤ 500 := f17.1.2.2.2 285 11 _ _ kW_285_11
  have e27 : (0 : Int) ≤ hV H3 285 12 ∧ hV H3 285 12 ≤ 7 := f17.1.2.2.2 285 12 _ _ kW_285_12
  have e28 : (0 : Int) ≤ hV H3 285 13 ∧ hV H3 285 13 ≤ 2 := f17.1.2.2.2 285 13 _ _ kW_285_13
  have e31 : (0 : Int) ≤ hV H3 285 51 ∧ hV H3 285 51 ≤ 1200 := f17.1.2.2.2 285 51 _ _ kW_285_51
  try simp only [e12, e15]
  have k0 := g4.1
  have y0 := g4.2.1
  have y1 := g4.2.2.1
  have y2 := g4.2.2.2.1
  have y3 := g4.2.2.2.2.1
  have y4 := g4.2.2.2.2.2.1
  have y5 := g4.2.2.2.2.2.2.1
  have y6 := g4.2.2.2.2.2.2.2.1
  have y7 := g4.2.2.2.2.2.2.2.2.1
  have y8 := g4.2.2.2.2.2.2.2.2.2.1
  have y9 := g4.2.2.2.2.2.2.2.2.2.2.1
  have y10 := g4.2.2.2.2.2.2.2.2.2.2.2.1
  have y11 := g4.2.2.2.2.2.2.2.2.2.2.2.2.1
  have y12 := g4.2.2.2.2.2.2.2.2.2.2.2.2.2
  have p0 := g3.1
  have p1 := g3.2.1
  have p2 := g3.2.2.1
  have p3 := g3.2.2.2.1
  have p4 := g3.2.2.2.2.1
  have p5 := g3.2.2.2.2.2.1
  have p6 := g3.2.2.2.2.2.2
  have r0_0 := f13.2.1
  have r0_1 := f13.2.2.1
  have r0_2 := f13.2.2.2.1
  have r0_3 := f13.2.2.2.2
  have r1_0 := f17.2.1
  have r1_1 := f17.2.2.1
  have r1_2 := f17.2.2.2.1
  have r1_3 := f17.2.2.2.2.1
  have r1_4 := f17.2.2.2.2.2.1
  have r1_5 := f17.2.2.2.2.2.2.1
  have r1_6 := f17.2.2.2.2.2.2.2.1
  have r1_7 := f17.2.2.2.2.2.2.2.2
  try simp only [e6] at y6
  try simp only [e7, e8, e9] at r1_1
  try simp only [e7] at r1_6
  try simp only [e12] at r1_7
  clear g3
  clear g4
  clear f16 f20 e6 e7 e8 e9 e12 e15
  clear f12 f13 f17
  subst e1
  subst e2

  refine ⟨r1_0, ?_, ?_, ?_, ?_, ?_, ?_, fun z => ?_, ?_, ?_, ?_⟩ <;> omega
def g_233_85_12 : vG := ([(34, [8], [], 0), (20, [8, 2], [3], 13), (90, [8], [], 0), (91, [8], [], 2), (1236, [2], [2, 3], 0), (20, [7, 2], [2], 51), (90, [7], [], 0), (91, [7], [], 1200), (1219, [2], [1, 2], 0), (5000, [0, 1, 2, 3, 4, 5, 6], [0, 1], 85), (0, [0], [], 285), (90, [1], [], 0), (91, [1], [], 1), (0, [2], [], 285), (90, [3], [], 0), (91, [3], [], 1), (90, [4], [], 0), (91, [4], [], 1), (90, [5], [], 0), (91, [5], [], 1200), (90, [6], [], -2147483648), (91, [6], [], 2147483647)], (3000, [], [3], 106))
theorem c_233_85_12 {q0 : Nat} : vOkm T0 (eP e_233 L_233 A_233 mu_233 (some q0)) 2 g_233_85_12 := vOk_inI fun ρ η f0 f1 f2 f3 f4 f5 f6 f7 f8 f9 f10 f11 f12 f13 f14 f15 f16 f17 f18 f19 f20 f21 => q_233_24 (q0 := q0) (n0 := ρ 6) (n1 := ρ 5) (n2 := ρ 4) (n3 := ρ 3) (n4 := ρ 2) (n5 := ρ 1) (n6 := ρ 0) (n7 := ρ 7) (n8 := ρ 8) (H0 := η 0) (H1 := η 1) (H2 := η 2) (H3 := η 3) f21 f20 f19 f18 f17 f16 f15 f14 f13 f12 f11 f10 f9 f8 f7 f6 f5 f4 f3 f2 f1 f0
def p_233_85 : List vG := [g_233_85_0,
  g_233_85_1,
  g_233_85_2,
  g_233_85_3,
  g_233_85_4,
  g_233_85_5,
  g_233_85_6,
  g_233_85_7,
  g_233_85_8,
  g_233_85_9,
  g_233_85_10,
  g_233_85_11,
  g_233_85_12]
theorem r_233_85 : vCovO false (eRc e_233 L_233 cs_233 2000 (85, [(0, (3, 12, 285, 0)), (1, (0, 0, 1, 0)), (2, (0, 0, 1, 0)), (3, (0, 0, 1200, 0)), (4, (0, -2147483648, 2147483647, 0))])) p_233_85 = true := by decide +kernel
theorem m_233 (d : Nat) : eC e_233 (d + 5) := eC_ok (e := e_233) (L := L_233) (cs := cs_233) (n := 2000) (d := d + 4) (A := A_233) (μ := mu_233) (tp := false) (p0 := p_233_s) rfl ⟨m_216 (d + 3), ⟨m_217 (d + 3), ⟨m_219 (d + 2), ⟨m_236 d, trivial⟩⟩⟩⟩ rfl (.inl rfl) (by decide +kernel) (fun z => nomatch z) r_233_s (allC c_233_s_0 allN) (allC (.inl ⟨p_233_2, r_233_2, fun q0 => (allC c_233_2_0 (allC c_233_2_1 (allC c_233_2_2 (allC c_233_2_3 (allC c_233_2_4 (allC c_233_2_5 (allC c_233_2_6 (allC c_233_2_7 (allC c_233_2_8 (allC c_233_2_9 (allC c_233_2_10 allN)))))))))))⟩) (allC (.inl ⟨p_233_85, r_233_85, fun q0 => (allC c_233_85_0 (allC c_233_85_1 (allC c_233_85_2 (allC c_233_85_3 (allC c_233_85_4 (allC c_233_85_5 (allC c_233_85_6 (allC c_233_85_7 (allC c_233_85_8 (allC c_233_85_9 (allC c_233_85_10 (allC c_233_85_11 (allC c_233_85_12 allN)))))))))))))⟩) allN))
